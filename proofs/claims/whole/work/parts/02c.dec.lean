theorem dX7_init_0 : decode cX7_init 0 = .ok (.aload_n 0, 1) := by decide +kernel
theorem dX7_init_1 : decode cX7_init 1 = .ok (.invokespecial 1, 3) := by decide +kernel
theorem dX7_init_4 : decode cX7_init 4 = .ok (.aload_n 0, 1) := by decide +kernel
theorem dX7_init_5 : decode cX7_init 5 = .ok (.bipush 6, 2) := by decide +kernel
theorem dX7_init_7 : decode cX7_init 7 = .ok (.newarray .int, 2) := by decide +kernel
theorem dX7_init_9 : decode cX7_init 9 = .ok (.putfield 7, 3) := by decide +kernel
theorem dX7_init_12 : decode cX7_init 12 = .ok (.aload_n 0, 1) := by decide +kernel
theorem dX7_init_13 : decode cX7_init 13 = .ok (.sipush 240, 3) := by decide +kernel
theorem dX7_init_16 : decode cX7_init 16 = .ok (.newarray .int, 2) := by decide +kernel
theorem dX7_init_18 : decode cX7_init 18 = .ok (.putfield 13, 3) := by decide +kernel
theorem dX7_init_21 : decode cX7_init 21 = .ok (.aload_n 0, 1) := by decide +kernel
theorem dX7_init_22 : decode cX7_init 22 = .ok (.bipush 40, 2) := by decide +kernel
theorem dX7_init_24 : decode cX7_init 24 = .ok (.newarray .int, 2) := by decide +kernel
theorem dX7_init_26 : decode cX7_init 26 = .ok (.putfield 16, 3) := by decide +kernel
theorem dX7_init_29 : decode cX7_init 29 = .ok (.aload_n 0, 1) := by decide +kernel
theorem dX7_init_30 : decode cX7_init 30 = .ok (.iconst 4, 1) := by decide +kernel
theorem dX7_init_31 : decode cX7_init 31 = .ok (.newarray .int, 2) := by decide +kernel
theorem dX7_init_33 : decode cX7_init 33 = .ok (.putfield 19, 3) := by decide +kernel
theorem dX7_init_36 : decode cX7_init 36 = .ok (.aload_n 0, 1) := by decide +kernel
theorem dX7_init_37 : decode cX7_init 37 = .ok (.sipush 240, 3) := by decide +kernel
theorem dX7_init_40 : decode cX7_init 40 = .ok (.newarray .int, 2) := by decide +kernel
theorem dX7_init_42 : decode cX7_init 42 = .ok (.putfield 22, 3) := by decide +kernel
theorem dX7_init_45 : decode cX7_init 45 = .ok (.aload_n 0, 1) := by decide +kernel
theorem dX7_init_46 : decode cX7_init 46 = .ok (.sipush 215, 3) := by decide +kernel
theorem dX7_init_49 : decode cX7_init 49 = .ok (.newarray .int, 2) := by decide +kernel
theorem dX7_init_51 : decode cX7_init 51 = .ok (.putfield 25, 3) := by decide +kernel
theorem dX7_init_54 : decode cX7_init 54 = .ok (.aload_n 0, 1) := by decide +kernel
theorem dX7_init_55 : decode cX7_init 55 = .ok (.sipush 215, 3) := by decide +kernel
theorem dX7_init_58 : decode cX7_init 58 = .ok (.newarray .int, 2) := by decide +kernel
theorem dX7_init_60 : decode cX7_init 60 = .ok (.putfield 28, 3) := by decide +kernel
theorem dX7_init_63 : decode cX7_init 63 = .ok (.aload_n 0, 1) := by decide +kernel
theorem dX7_init_64 : decode cX7_init 64 = .ok (.sipush 645, 3) := by decide +kernel
theorem dX7_init_67 : decode cX7_init 67 = .ok (.newarray .int, 2) := by decide +kernel
theorem dX7_init_69 : decode cX7_init 69 = .ok (.putfield 31, 3) := by decide +kernel
theorem dX7_init_72 : decode cX7_init 72 = .ok (.aload_n 0, 1) := by decide +kernel
theorem dX7_init_73 : decode cX7_init 73 = .ok (.iconst 3, 1) := by decide +kernel
theorem dX7_init_74 : decode cX7_init 74 = .ok (.newarray .boolean, 2) := by decide +kernel
theorem dX7_init_76 : decode cX7_init 76 = .ok (.putfield 34, 3) := by decide +kernel
theorem dX7_init_79 : decode cX7_init 79 = .ok (.aload_n 0, 1) := by decide +kernel
theorem dX7_init_80 : decode cX7_init 80 = .ok (.bipush 6, 2) := by decide +kernel
theorem dX7_init_82 : decode cX7_init 82 = .ok (.newarray .int, 2) := by decide +kernel
theorem dX7_init_84 : decode cX7_init 84 = .ok (.putfield 38, 3) := by decide +kernel
theorem dX7_init_87 : decode cX7_init 87 = .ok (.aload_n 0, 1) := by decide +kernel
theorem dX7_init_88 : decode cX7_init 88 = .ok (.bipush 7, 2) := by decide +kernel
theorem dX7_init_90 : decode cX7_init 90 = .ok (.newarray .int, 2) := by decide +kernel
theorem dX7_init_92 : decode cX7_init 92 = .ok (.putfield 41, 3) := by decide +kernel
theorem dX7_init_95 : decode cX7_init 95 = .ok (.aload_n 0, 1) := by decide +kernel
theorem dX7_init_96 : decode cX7_init 96 = .ok (.bipush 7, 2) := by decide +kernel
theorem dX7_init_98 : decode cX7_init 98 = .ok (.newarray .int, 2) := by decide +kernel
theorem dX7_init_100 : decode cX7_init 100 = .ok (.putfield 44, 3) := by decide +kernel
theorem dX7_init_103 : decode cX7_init 103 = .ok (.aload_n 0, 1) := by decide +kernel
theorem dX7_init_104 : decode cX7_init 104 = .ok (.bipush 7, 2) := by decide +kernel
theorem dX7_init_106 : decode cX7_init 106 = .ok (.newarray .int, 2) := by decide +kernel
theorem dX7_init_108 : decode cX7_init 108 = .ok (.putfield 47, 3) := by decide +kernel
theorem dX7_init_111 : decode cX7_init 111 = .ok (.iconst 0, 1) := by decide +kernel
theorem dX7_init_112 : decode cX7_init 112 = .ok (.istore_n 1, 1) := by decide +kernel
theorem dX7_init_113 : decode cX7_init 113 = .ok (.iload_n 1, 1) := by decide +kernel
theorem dX7_init_114 : decode cX7_init 114 = .ok (.bipush 6, 2) := by decide +kernel
theorem dX7_init_116 : decode cX7_init 116 = .ok (.if_icmp .ge 16, 3) := by decide +kernel
theorem dX7_init_119 : decode cX7_init 119 = .ok (.aload_n 0, 1) := by decide +kernel
theorem dX7_init_120 : decode cX7_init 120 = .ok (.getfield 7, 3) := by decide +kernel
theorem dX7_init_123 : decode cX7_init 123 = .ok (.iload_n 1, 1) := by decide +kernel
theorem dX7_init_124 : decode cX7_init 124 = .ok (.iconst (-1), 1) := by decide +kernel
theorem dX7_init_125 : decode cX7_init 125 = .ok (.iastore, 1) := by decide +kernel
theorem dX7_init_126 : decode cX7_init 126 = .ok (.iinc 1 1, 3) := by decide +kernel
theorem dX7_init_129 : decode cX7_init 129 = .ok (.goto (-16), 3) := by decide +kernel
theorem dX7_init_132 : decode cX7_init 132 = .ok (.iconst 0, 1) := by decide +kernel
theorem dX7_init_133 : decode cX7_init 133 = .ok (.istore_n 1, 1) := by decide +kernel
theorem dX7_init_134 : decode cX7_init 134 = .ok (.iload_n 1, 1) := by decide +kernel
theorem dX7_init_135 : decode cX7_init 135 = .ok (.iconst 4, 1) := by decide +kernel
theorem dX7_init_136 : decode cX7_init 136 = .ok (.if_icmp .ge 16, 3) := by decide +kernel
theorem dX7_init_139 : decode cX7_init 139 = .ok (.aload_n 0, 1) := by decide +kernel
theorem dX7_init_140 : decode cX7_init 140 = .ok (.getfield 19, 3) := by decide +kernel
theorem dX7_init_143 : decode cX7_init 143 = .ok (.iload_n 1, 1) := by decide +kernel
theorem dX7_init_144 : decode cX7_init 144 = .ok (.iconst (-1), 1) := by decide +kernel
theorem dX7_init_145 : decode cX7_init 145 = .ok (.iastore, 1) := by decide +kernel
theorem dX7_init_146 : decode cX7_init 146 = .ok (.iinc 1 1, 3) := by decide +kernel
theorem dX7_init_149 : decode cX7_init 149 = .ok (.goto (-15), 3) := by decide +kernel
theorem dX7_init_152 : decode cX7_init 152 = .ok (.aload_n 0, 1) := by decide +kernel
theorem dX7_init_153 : decode cX7_init 153 = .ok (.lconst 1, 1) := by decide +kernel
theorem dX7_init_154 : decode cX7_init 154 = .ok (.putfield 50, 3) := by decide +kernel
theorem dX7_init_157 : decode cX7_init 157 = .ok (.return_, 1) := by decide +kernel
theorem dX7_in_0 : decode cX7_in 0 = .ok (.iload_n 0, 1) := by decide +kernel
theorem dX7_in_1 : decode cX7_in 1 = .ok (.iload_n 1, 1) := by decide +kernel
theorem dX7_in_2 : decode cX7_in 2 = .ok (.if_icmp .lt 12, 3) := by decide +kernel
theorem dX7_in_5 : decode cX7_in 5 = .ok (.iload_n 0, 1) := by decide +kernel
theorem dX7_in_6 : decode cX7_in 6 = .ok (.iload_n 2, 1) := by decide +kernel
theorem dX7_in_7 : decode cX7_in 7 = .ok (.if_icmp .gt 7, 3) := by decide +kernel
theorem dX7_in_10 : decode cX7_in 10 = .ok (.iconst 1, 1) := by decide +kernel
theorem dX7_in_11 : decode cX7_in 11 = .ok (.goto 4, 3) := by decide +kernel
theorem dX7_in_14 : decode cX7_in 14 = .ok (.iconst 0, 1) := by decide +kernel
theorem dX7_in_15 : decode cX7_in 15 = .ok (.ireturn, 1) := by decide +kernel
theorem dX7_has_0 : decode cX7_has 0 = .ok (.iload_n 0, 1) := by decide +kernel
theorem dX7_has_1 : decode cX7_has 1 = .ok (.iload_n 1, 1) := by decide +kernel
theorem dX7_has_2 : decode cX7_has 2 = .ok (.ishr, 1) := by decide +kernel
theorem dX7_has_3 : decode cX7_has 3 = .ok (.iconst 1, 1) := by decide +kernel
theorem dX7_has_4 : decode cX7_has 4 = .ok (.iand, 1) := by decide +kernel
theorem dX7_has_5 : decode cX7_has 5 = .ok (.iconst 1, 1) := by decide +kernel
theorem dX7_has_6 : decode cX7_has 6 = .ok (.if_icmp .ne 7, 3) := by decide +kernel
theorem dX7_has_9 : decode cX7_has 9 = .ok (.iconst 1, 1) := by decide +kernel
theorem dX7_has_10 : decode cX7_has 10 = .ok (.goto 4, 3) := by decide +kernel
theorem dX7_has_13 : decode cX7_has 13 = .ok (.iconst 0, 1) := by decide +kernel
theorem dX7_has_14 : decode cX7_has 14 = .ok (.ireturn, 1) := by decide +kernel
theorem dX7_ones_0 : decode cX7_ones 0 = .ok (.iconst 0, 1) := by decide +kernel
theorem dX7_ones_1 : decode cX7_ones 1 = .ok (.istore_n 1, 1) := by decide +kernel
theorem dX7_ones_2 : decode cX7_ones 2 = .ok (.iconst 0, 1) := by decide +kernel
theorem dX7_ones_3 : decode cX7_ones 3 = .ok (.istore_n 2, 1) := by decide +kernel
theorem dX7_ones_4 : decode cX7_ones 4 = .ok (.iload_n 2, 1) := by decide +kernel
theorem dX7_ones_5 : decode cX7_ones 5 = .ok (.bipush 6, 2) := by decide +kernel
theorem dX7_ones_7 : decode cX7_ones 7 = .ok (.if_icmp .ge 17, 3) := by decide +kernel
theorem dX7_ones_10 : decode cX7_ones 10 = .ok (.iload_n 1, 1) := by decide +kernel
theorem dX7_ones_11 : decode cX7_ones 11 = .ok (.iload_n 0, 1) := by decide +kernel
theorem dX7_ones_12 : decode cX7_ones 12 = .ok (.iload_n 2, 1) := by decide +kernel
theorem dX7_ones_13 : decode cX7_ones 13 = .ok (.ishr, 1) := by decide +kernel
theorem dX7_ones_14 : decode cX7_ones 14 = .ok (.iconst 1, 1) := by decide +kernel
theorem dX7_ones_15 : decode cX7_ones 15 = .ok (.iand, 1) := by decide +kernel
theorem dX7_ones_16 : decode cX7_ones 16 = .ok (.iadd, 1) := by decide +kernel
theorem dX7_ones_17 : decode cX7_ones 17 = .ok (.istore_n 1, 1) := by decide +kernel
theorem dX7_ones_18 : decode cX7_ones 18 = .ok (.iinc 2 1, 3) := by decide +kernel
theorem dX7_ones_21 : decode cX7_ones 21 = .ok (.goto (-17), 3) := by decide +kernel
theorem dX7_ones_24 : decode cX7_ones 24 = .ok (.iload_n 1, 1) := by decide +kernel
theorem dX7_ones_25 : decode cX7_ones 25 = .ok (.ireturn, 1) := by decide +kernel
theorem dX7_finds_0 : decode cX7_finds 0 = .ok (.aload_n 0, 1) := by decide +kernel
theorem dX7_finds_1 : decode cX7_finds 1 = .ok (.iload_n 1, 1) := by decide +kernel
theorem dX7_finds_2 : decode cX7_finds 2 = .ok (.putfield 54, 3) := by decide +kernel
theorem dX7_finds_5 : decode cX7_finds 5 = .ok (.aload_n 0, 1) := by decide +kernel
theorem dX7_finds_6 : decode cX7_finds 6 = .ok (.getfield 38, 3) := by decide +kernel
theorem dX7_finds_9 : decode cX7_finds 9 = .ok (.iload_n 1, 1) := by decide +kernel
theorem dX7_finds_10 : decode cX7_finds 10 = .ok (.dup2, 1) := by decide +kernel
theorem dX7_finds_11 : decode cX7_finds 11 = .ok (.iaload, 1) := by decide +kernel
theorem dX7_finds_12 : decode cX7_finds 12 = .ok (.iconst 1, 1) := by decide +kernel
theorem dX7_finds_13 : decode cX7_finds 13 = .ok (.iadd, 1) := by decide +kernel
theorem dX7_finds_14 : decode cX7_finds 14 = .ok (.iastore, 1) := by decide +kernel
theorem dX7_finds_15 : decode cX7_finds 15 = .ok (.bipush (-3), 2) := by decide +kernel
theorem dX7_finds_17 : decode cX7_finds 17 = .ok (.ireturn, 1) := by decide +kernel
theorem dX7_tells_0 : decode cX7_tells 0 = .ok (.aload_n 0, 1) := by decide +kernel
theorem dX7_tells_1 : decode cX7_tells 1 = .ok (.iload_n 2, 1) := by decide +kernel
theorem dX7_tells_2 : decode cX7_tells 2 = .ok (.putfield 58, 3) := by decide +kernel
theorem dX7_tells_5 : decode cX7_tells 5 = .ok (.iload_n 1, 1) := by decide +kernel
theorem dX7_tells_6 : decode cX7_tells 6 = .ok (.ireturn, 1) := by decide +kernel
theorem dX7_tellsParts_0 : decode cX7_tellsParts 0 = .ok (.lload_n 1, 1) := by decide +kernel
theorem dX7_tellsParts_1 : decode cX7_tellsParts 1 = .ok (.lstore 5, 2) := by decide +kernel
theorem dX7_tellsParts_3 : decode cX7_tellsParts 3 = .ok (.lload_n 3, 1) := by decide +kernel
theorem dX7_tellsParts_4 : decode cX7_tellsParts 4 = .ok (.lstore 7, 2) := by decide +kernel
theorem dX7_tellsParts_6 : decode cX7_tellsParts 6 = .ok (.lload 7, 2) := by decide +kernel
theorem dX7_tellsParts_8 : decode cX7_tellsParts 8 = .ok (.lconst 0, 1) := by decide +kernel
theorem dX7_tellsParts_9 : decode cX7_tellsParts 9 = .ok (.lcmp, 1) := by decide +kernel
theorem dX7_tellsParts_10 : decode cX7_tellsParts 10 = .ok (.ifCond .eq 21, 3) := by decide +kernel
theorem dX7_tellsParts_13 : decode cX7_tellsParts 13 = .ok (.lload 5, 2) := by decide +kernel
theorem dX7_tellsParts_15 : decode cX7_tellsParts 15 = .ok (.lload 7, 2) := by decide +kernel
theorem dX7_tellsParts_17 : decode cX7_tellsParts 17 = .ok (.lrem, 1) := by decide +kernel
theorem dX7_tellsParts_18 : decode cX7_tellsParts 18 = .ok (.lstore 9, 2) := by decide +kernel
theorem dX7_tellsParts_20 : decode cX7_tellsParts 20 = .ok (.lload 7, 2) := by decide +kernel
theorem dX7_tellsParts_22 : decode cX7_tellsParts 22 = .ok (.lstore 5, 2) := by decide +kernel
theorem dX7_tellsParts_24 : decode cX7_tellsParts 24 = .ok (.lload 9, 2) := by decide +kernel
theorem dX7_tellsParts_26 : decode cX7_tellsParts 26 = .ok (.lstore 7, 2) := by decide +kernel
theorem dX7_tellsParts_28 : decode cX7_tellsParts 28 = .ok (.goto (-22), 3) := by decide +kernel
theorem dX7_tellsParts_31 : decode cX7_tellsParts 31 = .ok (.aload_n 0, 1) := by decide +kernel
theorem dX7_tellsParts_32 : decode cX7_tellsParts 32 = .ok (.lload_n 1, 1) := by decide +kernel
theorem dX7_tellsParts_33 : decode cX7_tellsParts 33 = .ok (.lload 5, 2) := by decide +kernel
theorem dX7_tellsParts_35 : decode cX7_tellsParts 35 = .ok (.ldiv, 1) := by decide +kernel
theorem dX7_tellsParts_36 : decode cX7_tellsParts 36 = .ok (.putfield 61, 3) := by decide +kernel
theorem dX7_tellsParts_39 : decode cX7_tellsParts 39 = .ok (.aload_n 0, 1) := by decide +kernel
theorem dX7_tellsParts_40 : decode cX7_tellsParts 40 = .ok (.lload_n 3, 1) := by decide +kernel
theorem dX7_tellsParts_41 : decode cX7_tellsParts 41 = .ok (.lload 5, 2) := by decide +kernel
theorem dX7_tellsParts_43 : decode cX7_tellsParts 43 = .ok (.ldiv, 1) := by decide +kernel
theorem dX7_tellsParts_44 : decode cX7_tellsParts 44 = .ok (.putfield 50, 3) := by decide +kernel
theorem dX7_tellsParts_47 : decode cX7_tellsParts 47 = .ok (.iconst 1, 1) := by decide +kernel
theorem dX7_tellsParts_48 : decode cX7_tellsParts 48 = .ok (.ireturn, 1) := by decide +kernel
theorem dX7_isRow_0 : decode cX7_isRow 0 = .ok (.iload_n 0, 1) := by decide +kernel
theorem dX7_isRow_1 : decode cX7_isRow 1 = .ok (.iconst 0, 1) := by decide +kernel
theorem dX7_isRow_2 : decode cX7_isRow 2 = .ok (.iconst 5, 1) := by decide +kernel
theorem dX7_isRow_3 : decode cX7_isRow 3 = .ok (.invokestatic 64, 3) := by decide +kernel
theorem dX7_isRow_6 : decode cX7_isRow 6 = .ok (.ireturn, 1) := by decide +kernel
theorem dX7_isText_0 : decode cX7_isText 0 = .ok (.iload_n 0, 1) := by decide +kernel
theorem dX7_isText_1 : decode cX7_isText 1 = .ok (.iconst 0, 1) := by decide +kernel
theorem dX7_isText_2 : decode cX7_isText 2 = .ok (.iconst 3, 1) := by decide +kernel
theorem dX7_isText_3 : decode cX7_isText 3 = .ok (.invokestatic 64, 3) := by decide +kernel
theorem dX7_isText_6 : decode cX7_isText 6 = .ok (.ireturn, 1) := by decide +kernel
theorem dX7_lays_0 : decode cX7_lays 0 = .ok (.aload_n 0, 1) := by decide +kernel
theorem dX7_lays_1 : decode cX7_lays 1 = .ok (.getfield 7, 3) := by decide +kernel
theorem dX7_lays_4 : decode cX7_lays 4 = .ok (.iload_n 1, 1) := by decide +kernel
theorem dX7_lays_5 : decode cX7_lays 5 = .ok (.iload_n 2, 1) := by decide +kernel
theorem dX7_lays_6 : decode cX7_lays 6 = .ok (.iastore, 1) := by decide +kernel
theorem dX7_lays_7 : decode cX7_lays 7 = .ok (.iconst 0, 1) := by decide +kernel
theorem dX7_lays_8 : decode cX7_lays 8 = .ok (.istore_n 3, 1) := by decide +kernel
theorem dX7_lays_9 : decode cX7_lays 9 = .ok (.iload_n 3, 1) := by decide +kernel
theorem dX7_lays_10 : decode cX7_lays 10 = .ok (.bipush 40, 2) := by decide +kernel
theorem dX7_lays_12 : decode cX7_lays 12 = .ok (.if_icmp .ge 21, 3) := by decide +kernel
theorem dX7_lays_15 : decode cX7_lays 15 = .ok (.aload_n 0, 1) := by decide +kernel
theorem dX7_lays_16 : decode cX7_lays 16 = .ok (.getfield 13, 3) := by decide +kernel
theorem dX7_lays_19 : decode cX7_lays 19 = .ok (.bipush 40, 2) := by decide +kernel
theorem dX7_lays_21 : decode cX7_lays 21 = .ok (.iload_n 1, 1) := by decide +kernel
theorem dX7_lays_22 : decode cX7_lays 22 = .ok (.imul, 1) := by decide +kernel
theorem dX7_lays_23 : decode cX7_lays 23 = .ok (.iload_n 3, 1) := by decide +kernel
theorem dX7_lays_24 : decode cX7_lays 24 = .ok (.iadd, 1) := by decide +kernel
theorem dX7_lays_25 : decode cX7_lays 25 = .ok (.iconst 0, 1) := by decide +kernel
theorem dX7_lays_26 : decode cX7_lays 26 = .ok (.iastore, 1) := by decide +kernel
theorem dX7_lays_27 : decode cX7_lays 27 = .ok (.iinc 3 1, 3) := by decide +kernel
theorem dX7_lays_30 : decode cX7_lays 30 = .ok (.goto (-21), 3) := by decide +kernel
theorem dX7_lays_33 : decode cX7_lays 33 = .ok (.return_, 1) := by decide +kernel
theorem dX7_row_0 : decode cX7_row 0 = .ok (.iload_n 1, 1) := by decide +kernel
theorem dX7_row_1 : decode cX7_row 1 = .ok (.invokestatic 68, 3) := by decide +kernel
theorem dX7_row_4 : decode cX7_row 4 = .ok (.ifCond .eq 9, 3) := by decide +kernel
theorem dX7_row_7 : decode cX7_row 7 = .ok (.iload_n 2, 1) := by decide +kernel
theorem dX7_row_8 : decode cX7_row 8 = .ok (.bipush 40, 2) := by decide +kernel
theorem dX7_row_10 : decode cX7_row 10 = .ok (.if_icmp .le 5, 3) := by decide +kernel
theorem dX7_row_13 : decode cX7_row 13 = .ok (.iconst (-1), 1) := by decide +kernel
theorem dX7_row_14 : decode cX7_row 14 = .ok (.ireturn, 1) := by decide +kernel
theorem dX7_row_15 : decode cX7_row 15 = .ok (.iload_n 2, 1) := by decide +kernel
theorem dX7_row_16 : decode cX7_row 16 = .ok (.ifCond .ge 9, 3) := by decide +kernel
theorem dX7_row_19 : decode cX7_row 19 = .ok (.aload_n 0, 1) := by decide +kernel
theorem dX7_row_20 : decode cX7_row 20 = .ok (.iconst 5, 1) := by decide +kernel
theorem dX7_row_21 : decode cX7_row 21 = .ok (.invokevirtual 72, 3) := by decide +kernel
theorem dX7_row_24 : decode cX7_row 24 = .ok (.ireturn, 1) := by decide +kernel
theorem dX7_row_25 : decode cX7_row 25 = .ok (.aload_n 0, 1) := by decide +kernel
theorem dX7_row_26 : decode cX7_row 26 = .ok (.iload_n 1, 1) := by decide +kernel
theorem dX7_row_27 : decode cX7_row 27 = .ok (.iload_n 2, 1) := by decide +kernel
theorem dX7_row_28 : decode cX7_row 28 = .ok (.invokevirtual 76, 3) := by decide +kernel
theorem dX7_row_31 : decode cX7_row 31 = .ok (.iload_n 2, 1) := by decide +kernel
theorem dX7_row_32 : decode cX7_row 32 = .ok (.ireturn, 1) := by decide +kernel
theorem dX7_lay_0 : decode cX7_lay 0 = .ok (.aload_n 0, 1) := by decide +kernel
theorem dX7_lay_1 : decode cX7_lay 1 = .ok (.iload_n 1, 1) := by decide +kernel
theorem dX7_lay_2 : decode cX7_lay 2 = .ok (.iload_n 2, 1) := by decide +kernel
theorem dX7_lay_3 : decode cX7_lay 3 = .ok (.invokevirtual 80, 3) := by decide +kernel
theorem dX7_lay_6 : decode cX7_lay 6 = .ok (.istore 4, 2) := by decide +kernel
theorem dX7_lay_8 : decode cX7_lay 8 = .ok (.iload 4, 2) := by decide +kernel
theorem dX7_lay_10 : decode cX7_lay 10 = .ok (.iconst 1, 1) := by decide +kernel
theorem dX7_lay_11 : decode cX7_lay 11 = .ok (.if_icmp .ne 15, 3) := by decide +kernel
theorem dX7_lay_14 : decode cX7_lay 14 = .ok (.aload_n 0, 1) := by decide +kernel
theorem dX7_lay_15 : decode cX7_lay 15 = .ok (.getfield 13, 3) := by decide +kernel
theorem dX7_lay_18 : decode cX7_lay 18 = .ok (.bipush 40, 2) := by decide +kernel
theorem dX7_lay_20 : decode cX7_lay 20 = .ok (.iload_n 1, 1) := by decide +kernel
theorem dX7_lay_21 : decode cX7_lay 21 = .ok (.imul, 1) := by decide +kernel
theorem dX7_lay_22 : decode cX7_lay 22 = .ok (.iload_n 2, 1) := by decide +kernel
theorem dX7_lay_23 : decode cX7_lay 23 = .ok (.iadd, 1) := by decide +kernel
theorem dX7_lay_24 : decode cX7_lay 24 = .ok (.iload_n 3, 1) := by decide +kernel
theorem dX7_lay_25 : decode cX7_lay 25 = .ok (.iastore, 1) := by decide +kernel
theorem dX7_lay_26 : decode cX7_lay 26 = .ok (.iload 4, 2) := by decide +kernel
theorem dX7_lay_28 : decode cX7_lay 28 = .ok (.ireturn, 1) := by decide +kernel
theorem dX7_at_0 : decode cX7_at 0 = .ok (.iload_n 1, 1) := by decide +kernel
theorem dX7_at_1 : decode cX7_at 1 = .ok (.invokestatic 68, 3) := by decide +kernel
theorem dX7_at_4 : decode cX7_at 4 = .ok (.ifCond .ne 5, 3) := by decide +kernel
theorem dX7_at_7 : decode cX7_at 7 = .ok (.iconst (-1), 1) := by decide +kernel
theorem dX7_at_8 : decode cX7_at 8 = .ok (.ireturn, 1) := by decide +kernel
theorem dX7_at_9 : decode cX7_at 9 = .ok (.aload_n 0, 1) := by decide +kernel
theorem dX7_at_10 : decode cX7_at 10 = .ok (.getfield 7, 3) := by decide +kernel
theorem dX7_at_13 : decode cX7_at 13 = .ok (.iload_n 1, 1) := by decide +kernel
theorem dX7_at_14 : decode cX7_at 14 = .ok (.iaload, 1) := by decide +kernel
theorem dX7_at_15 : decode cX7_at 15 = .ok (.ifCond .ge 9, 3) := by decide +kernel
theorem dX7_at_18 : decode cX7_at 18 = .ok (.aload_n 0, 1) := by decide +kernel
theorem dX7_at_19 : decode cX7_at 19 = .ok (.iconst 1, 1) := by decide +kernel
theorem dX7_at_20 : decode cX7_at 20 = .ok (.invokevirtual 72, 3) := by decide +kernel
theorem dX7_at_23 : decode cX7_at 23 = .ok (.ireturn, 1) := by decide +kernel
theorem dX7_at_24 : decode cX7_at 24 = .ok (.iload_n 2, 1) := by decide +kernel
theorem dX7_at_25 : decode cX7_at 25 = .ok (.iconst 0, 1) := by decide +kernel
theorem dX7_at_26 : decode cX7_at 26 = .ok (.aload_n 0, 1) := by decide +kernel
theorem dX7_at_27 : decode cX7_at 27 = .ok (.getfield 7, 3) := by decide +kernel
theorem dX7_at_30 : decode cX7_at 30 = .ok (.iload_n 1, 1) := by decide +kernel
theorem dX7_at_31 : decode cX7_at 31 = .ok (.iaload, 1) := by decide +kernel
theorem dX7_at_32 : decode cX7_at 32 = .ok (.iconst 1, 1) := by decide +kernel
theorem dX7_at_33 : decode cX7_at 33 = .ok (.isub, 1) := by decide +kernel
theorem dX7_at_34 : decode cX7_at 34 = .ok (.invokestatic 64, 3) := by decide +kernel
theorem dX7_at_37 : decode cX7_at 37 = .ok (.ifCond .eq 22, 3) := by decide +kernel
theorem dX7_at_40 : decode cX7_at 40 = .ok (.aload_n 0, 1) := by decide +kernel
theorem dX7_at_41 : decode cX7_at 41 = .ok (.iconst 1, 1) := by decide +kernel
theorem dX7_at_42 : decode cX7_at 42 = .ok (.aload_n 0, 1) := by decide +kernel
theorem dX7_at_43 : decode cX7_at 43 = .ok (.getfield 13, 3) := by decide +kernel
theorem dX7_at_46 : decode cX7_at 46 = .ok (.bipush 40, 2) := by decide +kernel
theorem dX7_at_48 : decode cX7_at 48 = .ok (.iload_n 1, 1) := by decide +kernel
theorem dX7_at_49 : decode cX7_at 49 = .ok (.imul, 1) := by decide +kernel
theorem dX7_at_50 : decode cX7_at 50 = .ok (.iload_n 2, 1) := by decide +kernel
theorem dX7_at_51 : decode cX7_at 51 = .ok (.iadd, 1) := by decide +kernel
theorem dX7_at_52 : decode cX7_at 52 = .ok (.iaload, 1) := by decide +kernel
theorem dX7_at_53 : decode cX7_at 53 = .ok (.invokevirtual 84, 3) := by decide +kernel
theorem dX7_at_56 : decode cX7_at 56 = .ok (.goto 8, 3) := by decide +kernel
theorem dX7_at_59 : decode cX7_at 59 = .ok (.aload_n 0, 1) := by decide +kernel
theorem dX7_at_60 : decode cX7_at 60 = .ok (.iconst 2, 1) := by decide +kernel
theorem dX7_at_61 : decode cX7_at 61 = .ok (.invokevirtual 72, 3) := by decide +kernel
theorem dX7_at_64 : decode cX7_at 64 = .ok (.ireturn, 1) := by decide +kernel
theorem dX7_tear_0 : decode cX7_tear 0 = .ok (.iload_n 1, 1) := by decide +kernel
theorem dX7_tear_1 : decode cX7_tear 1 = .ok (.invokestatic 68, 3) := by decide +kernel
theorem dX7_tear_4 : decode cX7_tear 4 = .ok (.ifCond .ne 5, 3) := by decide +kernel
theorem dX7_tear_7 : decode cX7_tear 7 = .ok (.iconst (-1), 1) := by decide +kernel
theorem dX7_tear_8 : decode cX7_tear 8 = .ok (.ireturn, 1) := by decide +kernel
theorem dX7_tear_9 : decode cX7_tear 9 = .ok (.aload_n 0, 1) := by decide +kernel
theorem dX7_tear_10 : decode cX7_tear 10 = .ok (.getfield 7, 3) := by decide +kernel
theorem dX7_tear_13 : decode cX7_tear 13 = .ok (.iload_n 1, 1) := by decide +kernel
theorem dX7_tear_14 : decode cX7_tear 14 = .ok (.iaload, 1) := by decide +kernel
theorem dX7_tear_15 : decode cX7_tear 15 = .ok (.ifCond .ge 9, 3) := by decide +kernel
theorem dX7_tear_18 : decode cX7_tear 18 = .ok (.aload_n 0, 1) := by decide +kernel
theorem dX7_tear_19 : decode cX7_tear 19 = .ok (.iconst 1, 1) := by decide +kernel
theorem dX7_tear_20 : decode cX7_tear 20 = .ok (.invokevirtual 72, 3) := by decide +kernel
theorem dX7_tear_23 : decode cX7_tear 23 = .ok (.ireturn, 1) := by decide +kernel
theorem dX7_tear_24 : decode cX7_tear 24 = .ok (.aload_n 0, 1) := by decide +kernel
theorem dX7_tear_25 : decode cX7_tear 25 = .ok (.getfield 7, 3) := by decide +kernel
theorem dX7_tear_28 : decode cX7_tear 28 = .ok (.iload_n 1, 1) := by decide +kernel
theorem dX7_tear_29 : decode cX7_tear 29 = .ok (.iconst (-1), 1) := by decide +kernel
theorem dX7_tear_30 : decode cX7_tear 30 = .ok (.iastore, 1) := by decide +kernel
theorem dX7_tear_31 : decode cX7_tear 31 = .ok (.iconst 1, 1) := by decide +kernel
theorem dX7_tear_32 : decode cX7_tear 32 = .ok (.ireturn, 1) := by decide +kernel
theorem dX7_copy_0 : decode cX7_copy 0 = .ok (.iload_n 1, 1) := by decide +kernel
theorem dX7_copy_1 : decode cX7_copy 1 = .ok (.invokestatic 68, 3) := by decide +kernel
theorem dX7_copy_4 : decode cX7_copy 4 = .ok (.ifCond .eq 10, 3) := by decide +kernel
theorem dX7_copy_7 : decode cX7_copy 7 = .ok (.iload_n 3, 1) := by decide +kernel
theorem dX7_copy_8 : decode cX7_copy 8 = .ok (.invokestatic 68, 3) := by decide +kernel
theorem dX7_copy_11 : decode cX7_copy 11 = .ok (.ifCond .ne 5, 3) := by decide +kernel
theorem dX7_copy_14 : decode cX7_copy 14 = .ok (.iconst (-1), 1) := by decide +kernel
theorem dX7_copy_15 : decode cX7_copy 15 = .ok (.ireturn, 1) := by decide +kernel
theorem dX7_copy_16 : decode cX7_copy 16 = .ok (.iload 5, 2) := by decide +kernel
theorem dX7_copy_18 : decode cX7_copy 18 = .ok (.ifCond .ge 9, 3) := by decide +kernel
theorem dX7_copy_21 : decode cX7_copy 21 = .ok (.aload_n 0, 1) := by decide +kernel
theorem dX7_copy_22 : decode cX7_copy 22 = .ok (.iconst 5, 1) := by decide +kernel
theorem dX7_copy_23 : decode cX7_copy 23 = .ok (.invokevirtual 72, 3) := by decide +kernel
theorem dX7_copy_26 : decode cX7_copy 26 = .ok (.ireturn, 1) := by decide +kernel
theorem dX7_copy_27 : decode cX7_copy 27 = .ok (.aload_n 0, 1) := by decide +kernel
theorem dX7_copy_28 : decode cX7_copy 28 = .ok (.getfield 7, 3) := by decide +kernel
theorem dX7_copy_31 : decode cX7_copy 31 = .ok (.iload_n 1, 1) := by decide +kernel
theorem dX7_copy_32 : decode cX7_copy 32 = .ok (.iaload, 1) := by decide +kernel
theorem dX7_copy_33 : decode cX7_copy 33 = .ok (.ifCond .lt 12, 3) := by decide +kernel
theorem dX7_copy_36 : decode cX7_copy 36 = .ok (.aload_n 0, 1) := by decide +kernel
theorem dX7_copy_37 : decode cX7_copy 37 = .ok (.getfield 7, 3) := by decide +kernel
theorem dX7_copy_40 : decode cX7_copy 40 = .ok (.iload_n 3, 1) := by decide +kernel
theorem dX7_copy_41 : decode cX7_copy 41 = .ok (.iaload, 1) := by decide +kernel
theorem dX7_copy_42 : decode cX7_copy 42 = .ok (.ifCond .ge 9, 3) := by decide +kernel
theorem dX7_copy_45 : decode cX7_copy 45 = .ok (.aload_n 0, 1) := by decide +kernel
theorem dX7_copy_46 : decode cX7_copy 46 = .ok (.iconst 1, 1) := by decide +kernel
theorem dX7_copy_47 : decode cX7_copy 47 = .ok (.invokevirtual 72, 3) := by decide +kernel
theorem dX7_copy_50 : decode cX7_copy 50 = .ok (.ireturn, 1) := by decide +kernel
theorem dX7_copy_51 : decode cX7_copy 51 = .ok (.iload_n 2, 1) := by decide +kernel
theorem dX7_copy_52 : decode cX7_copy 52 = .ok (.ifCond .lt 43, 3) := by decide +kernel
theorem dX7_copy_55 : decode cX7_copy 55 = .ok (.iload 4, 2) := by decide +kernel
theorem dX7_copy_57 : decode cX7_copy 57 = .ok (.ifCond .lt 38, 3) := by decide +kernel
theorem dX7_copy_60 : decode cX7_copy 60 = .ok (.iload_n 2, 1) := by decide +kernel
theorem dX7_copy_61 : decode cX7_copy 61 = .ok (.i2l, 1) := by decide +kernel
theorem dX7_copy_62 : decode cX7_copy 62 = .ok (.iload 5, 2) := by decide +kernel
theorem dX7_copy_64 : decode cX7_copy 64 = .ok (.i2l, 1) := by decide +kernel
theorem dX7_copy_65 : decode cX7_copy 65 = .ok (.ladd, 1) := by decide +kernel
theorem dX7_copy_66 : decode cX7_copy 66 = .ok (.aload_n 0, 1) := by decide +kernel
theorem dX7_copy_67 : decode cX7_copy 67 = .ok (.getfield 7, 3) := by decide +kernel
theorem dX7_copy_70 : decode cX7_copy 70 = .ok (.iload_n 1, 1) := by decide +kernel
theorem dX7_copy_71 : decode cX7_copy 71 = .ok (.iaload, 1) := by decide +kernel
theorem dX7_copy_72 : decode cX7_copy 72 = .ok (.i2l, 1) := by decide +kernel
theorem dX7_copy_73 : decode cX7_copy 73 = .ok (.lcmp, 1) := by decide +kernel
theorem dX7_copy_74 : decode cX7_copy 74 = .ok (.ifCond .gt 21, 3) := by decide +kernel
theorem dX7_copy_77 : decode cX7_copy 77 = .ok (.iload 4, 2) := by decide +kernel
theorem dX7_copy_79 : decode cX7_copy 79 = .ok (.i2l, 1) := by decide +kernel
theorem dX7_copy_80 : decode cX7_copy 80 = .ok (.iload 5, 2) := by decide +kernel
theorem dX7_copy_82 : decode cX7_copy 82 = .ok (.i2l, 1) := by decide +kernel
theorem dX7_copy_83 : decode cX7_copy 83 = .ok (.ladd, 1) := by decide +kernel
theorem dX7_copy_84 : decode cX7_copy 84 = .ok (.aload_n 0, 1) := by decide +kernel
theorem dX7_copy_85 : decode cX7_copy 85 = .ok (.getfield 7, 3) := by decide +kernel
theorem dX7_copy_88 : decode cX7_copy 88 = .ok (.iload_n 3, 1) := by decide +kernel
theorem dX7_copy_89 : decode cX7_copy 89 = .ok (.iaload, 1) := by decide +kernel
theorem dX7_copy_90 : decode cX7_copy 90 = .ok (.i2l, 1) := by decide +kernel
theorem dX7_copy_91 : decode cX7_copy 91 = .ok (.lcmp, 1) := by decide +kernel
theorem dX7_copy_92 : decode cX7_copy 92 = .ok (.ifCond .le 9, 3) := by decide +kernel
theorem dX7_copy_95 : decode cX7_copy 95 = .ok (.aload_n 0, 1) := by decide +kernel
theorem dX7_copy_96 : decode cX7_copy 96 = .ok (.iconst 2, 1) := by decide +kernel
theorem dX7_copy_97 : decode cX7_copy 97 = .ok (.invokevirtual 72, 3) := by decide +kernel
theorem dX7_copy_100 : decode cX7_copy 100 = .ok (.ireturn, 1) := by decide +kernel
theorem dX7_copy_101 : decode cX7_copy 101 = .ok (.iconst 0, 1) := by decide +kernel
theorem dX7_copy_102 : decode cX7_copy 102 = .ok (.istore 6, 2) := by decide +kernel
theorem dX7_copy_104 : decode cX7_copy 104 = .ok (.iload 6, 2) := by decide +kernel
theorem dX7_copy_106 : decode cX7_copy 106 = .ok (.iload 5, 2) := by decide +kernel
theorem dX7_copy_108 : decode cX7_copy 108 = .ok (.if_icmp .ge 30, 3) := by decide +kernel
theorem dX7_copy_111 : decode cX7_copy 111 = .ok (.aload_n 0, 1) := by decide +kernel
theorem dX7_copy_112 : decode cX7_copy 112 = .ok (.getfield 16, 3) := by decide +kernel
theorem dX7_copy_115 : decode cX7_copy 115 = .ok (.iload 6, 2) := by decide +kernel
theorem dX7_copy_117 : decode cX7_copy 117 = .ok (.aload_n 0, 1) := by decide +kernel
theorem dX7_copy_118 : decode cX7_copy 118 = .ok (.getfield 13, 3) := by decide +kernel
theorem dX7_copy_121 : decode cX7_copy 121 = .ok (.bipush 40, 2) := by decide +kernel
theorem dX7_copy_123 : decode cX7_copy 123 = .ok (.iload_n 1, 1) := by decide +kernel
theorem dX7_copy_124 : decode cX7_copy 124 = .ok (.imul, 1) := by decide +kernel
theorem dX7_copy_125 : decode cX7_copy 125 = .ok (.iload_n 2, 1) := by decide +kernel
theorem dX7_copy_126 : decode cX7_copy 126 = .ok (.iadd, 1) := by decide +kernel
theorem dX7_copy_127 : decode cX7_copy 127 = .ok (.iload 6, 2) := by decide +kernel
theorem dX7_copy_129 : decode cX7_copy 129 = .ok (.iadd, 1) := by decide +kernel
theorem dX7_copy_130 : decode cX7_copy 130 = .ok (.iaload, 1) := by decide +kernel
theorem dX7_copy_131 : decode cX7_copy 131 = .ok (.iastore, 1) := by decide +kernel
theorem dX7_copy_132 : decode cX7_copy 132 = .ok (.iinc 6 1, 3) := by decide +kernel
theorem dX7_copy_135 : decode cX7_copy 135 = .ok (.goto (-31), 3) := by decide +kernel
theorem dX7_copy_138 : decode cX7_copy 138 = .ok (.iconst 0, 1) := by decide +kernel
theorem dX7_copy_139 : decode cX7_copy 139 = .ok (.istore 6, 2) := by decide +kernel
theorem dX7_copy_141 : decode cX7_copy 141 = .ok (.iload 6, 2) := by decide +kernel
theorem dX7_copy_143 : decode cX7_copy 143 = .ok (.iload 5, 2) := by decide +kernel
theorem dX7_copy_145 : decode cX7_copy 145 = .ok (.if_icmp .ge 31, 3) := by decide +kernel
theorem dX7_copy_148 : decode cX7_copy 148 = .ok (.aload_n 0, 1) := by decide +kernel
theorem dX7_copy_149 : decode cX7_copy 149 = .ok (.getfield 13, 3) := by decide +kernel
theorem dX7_copy_152 : decode cX7_copy 152 = .ok (.bipush 40, 2) := by decide +kernel
theorem dX7_copy_154 : decode cX7_copy 154 = .ok (.iload_n 3, 1) := by decide +kernel
theorem dX7_copy_155 : decode cX7_copy 155 = .ok (.imul, 1) := by decide +kernel
theorem dX7_copy_156 : decode cX7_copy 156 = .ok (.iload 4, 2) := by decide +kernel
theorem dX7_copy_158 : decode cX7_copy 158 = .ok (.iadd, 1) := by decide +kernel
theorem dX7_copy_159 : decode cX7_copy 159 = .ok (.iload 6, 2) := by decide +kernel
theorem dX7_copy_161 : decode cX7_copy 161 = .ok (.iadd, 1) := by decide +kernel
theorem dX7_copy_162 : decode cX7_copy 162 = .ok (.aload_n 0, 1) := by decide +kernel
theorem dX7_copy_163 : decode cX7_copy 163 = .ok (.getfield 16, 3) := by decide +kernel
theorem dX7_copy_166 : decode cX7_copy 166 = .ok (.iload 6, 2) := by decide +kernel
theorem dX7_copy_168 : decode cX7_copy 168 = .ok (.iaload, 1) := by decide +kernel
theorem dX7_copy_169 : decode cX7_copy 169 = .ok (.iastore, 1) := by decide +kernel
theorem dX7_copy_170 : decode cX7_copy 170 = .ok (.iinc 6 1, 3) := by decide +kernel
theorem dX7_copy_173 : decode cX7_copy 173 = .ok (.goto (-32), 3) := by decide +kernel
theorem dX7_copy_176 : decode cX7_copy 176 = .ok (.iconst 1, 1) := by decide +kernel
theorem dX7_copy_177 : decode cX7_copy 177 = .ok (.ireturn, 1) := by decide +kernel
theorem dX7_mean_0 : decode cX7_mean 0 = .ok (.iload_n 1, 1) := by decide +kernel
theorem dX7_mean_1 : decode cX7_mean 1 = .ok (.invokestatic 68, 3) := by decide +kernel
theorem dX7_mean_4 : decode cX7_mean 4 = .ok (.ifCond .ne 5, 3) := by decide +kernel
theorem dX7_mean_7 : decode cX7_mean 7 = .ok (.iconst (-1), 1) := by decide +kernel
theorem dX7_mean_8 : decode cX7_mean 8 = .ok (.ireturn, 1) := by decide +kernel
theorem dX7_mean_9 : decode cX7_mean 9 = .ok (.aload_n 0, 1) := by decide +kernel
theorem dX7_mean_10 : decode cX7_mean 10 = .ok (.getfield 7, 3) := by decide +kernel
theorem dX7_mean_13 : decode cX7_mean 13 = .ok (.iload_n 1, 1) := by decide +kernel
theorem dX7_mean_14 : decode cX7_mean 14 = .ok (.iaload, 1) := by decide +kernel
theorem dX7_mean_15 : decode cX7_mean 15 = .ok (.ifCond .ge 9, 3) := by decide +kernel
theorem dX7_mean_18 : decode cX7_mean 18 = .ok (.aload_n 0, 1) := by decide +kernel
theorem dX7_mean_19 : decode cX7_mean 19 = .ok (.iconst 1, 1) := by decide +kernel
theorem dX7_mean_20 : decode cX7_mean 20 = .ok (.invokevirtual 72, 3) := by decide +kernel
theorem dX7_mean_23 : decode cX7_mean 23 = .ok (.ireturn, 1) := by decide +kernel
theorem dX7_mean_24 : decode cX7_mean 24 = .ok (.aload_n 0, 1) := by decide +kernel
theorem dX7_mean_25 : decode cX7_mean 25 = .ok (.getfield 7, 3) := by decide +kernel
theorem dX7_mean_28 : decode cX7_mean 28 = .ok (.iload_n 1, 1) := by decide +kernel
theorem dX7_mean_29 : decode cX7_mean 29 = .ok (.iaload, 1) := by decide +kernel
theorem dX7_mean_30 : decode cX7_mean 30 = .ok (.ifCond .ne 9, 3) := by decide +kernel
theorem dX7_mean_33 : decode cX7_mean 33 = .ok (.aload_n 0, 1) := by decide +kernel
theorem dX7_mean_34 : decode cX7_mean 34 = .ok (.iconst 4, 1) := by decide +kernel
theorem dX7_mean_35 : decode cX7_mean 35 = .ok (.invokevirtual 72, 3) := by decide +kernel
theorem dX7_mean_38 : decode cX7_mean 38 = .ok (.ireturn, 1) := by decide +kernel
theorem dX7_mean_39 : decode cX7_mean 39 = .ok (.lconst 0, 1) := by decide +kernel
theorem dX7_mean_40 : decode cX7_mean 40 = .ok (.lstore_n 2, 1) := by decide +kernel
theorem dX7_mean_41 : decode cX7_mean 41 = .ok (.iconst 0, 1) := by decide +kernel
theorem dX7_mean_42 : decode cX7_mean 42 = .ok (.istore 4, 2) := by decide +kernel
theorem dX7_mean_44 : decode cX7_mean 44 = .ok (.iload 4, 2) := by decide +kernel
theorem dX7_mean_46 : decode cX7_mean 46 = .ok (.aload_n 0, 1) := by decide +kernel
theorem dX7_mean_47 : decode cX7_mean 47 = .ok (.getfield 7, 3) := by decide +kernel
theorem dX7_mean_50 : decode cX7_mean 50 = .ok (.iload_n 1, 1) := by decide +kernel
theorem dX7_mean_51 : decode cX7_mean 51 = .ok (.iaload, 1) := by decide +kernel
theorem dX7_mean_52 : decode cX7_mean 52 = .ok (.if_icmp .ge 25, 3) := by decide +kernel
theorem dX7_mean_55 : decode cX7_mean 55 = .ok (.lload_n 2, 1) := by decide +kernel
theorem dX7_mean_56 : decode cX7_mean 56 = .ok (.aload_n 0, 1) := by decide +kernel
theorem dX7_mean_57 : decode cX7_mean 57 = .ok (.getfield 13, 3) := by decide +kernel
theorem dX7_mean_60 : decode cX7_mean 60 = .ok (.bipush 40, 2) := by decide +kernel
theorem dX7_mean_62 : decode cX7_mean 62 = .ok (.iload_n 1, 1) := by decide +kernel
theorem dX7_mean_63 : decode cX7_mean 63 = .ok (.imul, 1) := by decide +kernel
theorem dX7_mean_64 : decode cX7_mean 64 = .ok (.iload 4, 2) := by decide +kernel
theorem dX7_mean_66 : decode cX7_mean 66 = .ok (.iadd, 1) := by decide +kernel
theorem dX7_mean_67 : decode cX7_mean 67 = .ok (.iaload, 1) := by decide +kernel
theorem dX7_mean_68 : decode cX7_mean 68 = .ok (.i2l, 1) := by decide +kernel
theorem dX7_mean_69 : decode cX7_mean 69 = .ok (.ladd, 1) := by decide +kernel
theorem dX7_mean_70 : decode cX7_mean 70 = .ok (.lstore_n 2, 1) := by decide +kernel
theorem dX7_mean_71 : decode cX7_mean 71 = .ok (.iinc 4 1, 3) := by decide +kernel
theorem dX7_mean_74 : decode cX7_mean 74 = .ok (.goto (-30), 3) := by decide +kernel
theorem dX7_mean_77 : decode cX7_mean 77 = .ok (.aload_n 0, 1) := by decide +kernel
theorem dX7_mean_78 : decode cX7_mean 78 = .ok (.iconst 1, 1) := by decide +kernel
theorem dX7_mean_79 : decode cX7_mean 79 = .ok (.lload_n 2, 1) := by decide +kernel
theorem dX7_mean_80 : decode cX7_mean 80 = .ok (.aload_n 0, 1) := by decide +kernel
theorem dX7_mean_81 : decode cX7_mean 81 = .ok (.getfield 7, 3) := by decide +kernel
theorem dX7_mean_84 : decode cX7_mean 84 = .ok (.iload_n 1, 1) := by decide +kernel
theorem dX7_mean_85 : decode cX7_mean 85 = .ok (.iaload, 1) := by decide +kernel
theorem dX7_mean_86 : decode cX7_mean 86 = .ok (.i2l, 1) := by decide +kernel
theorem dX7_mean_87 : decode cX7_mean 87 = .ok (.ldiv, 1) := by decide +kernel
theorem dX7_mean_88 : decode cX7_mean 88 = .ok (.l2i, 1) := by decide +kernel
theorem dX7_mean_89 : decode cX7_mean 89 = .ok (.invokevirtual 84, 3) := by decide +kernel
theorem dX7_mean_92 : decode cX7_mean 92 = .ok (.ireturn, 1) := by decide +kernel
theorem dX7_text_0 : decode cX7_text 0 = .ok (.iload_n 1, 1) := by decide +kernel
theorem dX7_text_1 : decode cX7_text 1 = .ok (.invokestatic 87, 3) := by decide +kernel
theorem dX7_text_4 : decode cX7_text 4 = .ok (.ifCond .eq 9, 3) := by decide +kernel
theorem dX7_text_7 : decode cX7_text 7 = .ok (.iload_n 2, 1) := by decide +kernel
theorem dX7_text_8 : decode cX7_text 8 = .ok (.bipush 60, 2) := by decide +kernel
theorem dX7_text_10 : decode cX7_text 10 = .ok (.if_icmp .le 5, 3) := by decide +kernel
theorem dX7_text_13 : decode cX7_text 13 = .ok (.iconst (-1), 1) := by decide +kernel
theorem dX7_text_14 : decode cX7_text 14 = .ok (.ireturn, 1) := by decide +kernel
theorem dX7_text_15 : decode cX7_text 15 = .ok (.iload_n 2, 1) := by decide +kernel
theorem dX7_text_16 : decode cX7_text 16 = .ok (.ifCond .ge 9, 3) := by decide +kernel
theorem dX7_text_19 : decode cX7_text 19 = .ok (.aload_n 0, 1) := by decide +kernel
theorem dX7_text_20 : decode cX7_text 20 = .ok (.iconst 5, 1) := by decide +kernel
theorem dX7_text_21 : decode cX7_text 21 = .ok (.invokevirtual 72, 3) := by decide +kernel
theorem dX7_text_24 : decode cX7_text 24 = .ok (.ireturn, 1) := by decide +kernel
theorem dX7_text_25 : decode cX7_text 25 = .ok (.aload_n 0, 1) := by decide +kernel
theorem dX7_text_26 : decode cX7_text 26 = .ok (.getfield 19, 3) := by decide +kernel
theorem dX7_text_29 : decode cX7_text 29 = .ok (.iload_n 1, 1) := by decide +kernel
theorem dX7_text_30 : decode cX7_text 30 = .ok (.iload_n 2, 1) := by decide +kernel
theorem dX7_text_31 : decode cX7_text 31 = .ok (.iastore, 1) := by decide +kernel
theorem dX7_text_32 : decode cX7_text 32 = .ok (.iconst 0, 1) := by decide +kernel
theorem dX7_text_33 : decode cX7_text 33 = .ok (.istore_n 3, 1) := by decide +kernel
theorem dX7_text_34 : decode cX7_text 34 = .ok (.iload_n 3, 1) := by decide +kernel
theorem dX7_text_35 : decode cX7_text 35 = .ok (.bipush 60, 2) := by decide +kernel
theorem dX7_text_37 : decode cX7_text 37 = .ok (.if_icmp .ge 22, 3) := by decide +kernel
theorem dX7_text_40 : decode cX7_text 40 = .ok (.aload_n 0, 1) := by decide +kernel
theorem dX7_text_41 : decode cX7_text 41 = .ok (.getfield 22, 3) := by decide +kernel
theorem dX7_text_44 : decode cX7_text 44 = .ok (.bipush 60, 2) := by decide +kernel
theorem dX7_text_46 : decode cX7_text 46 = .ok (.iload_n 1, 1) := by decide +kernel
theorem dX7_text_47 : decode cX7_text 47 = .ok (.imul, 1) := by decide +kernel
theorem dX7_text_48 : decode cX7_text 48 = .ok (.iload_n 3, 1) := by decide +kernel
theorem dX7_text_49 : decode cX7_text 49 = .ok (.iadd, 1) := by decide +kernel
theorem dX7_text_50 : decode cX7_text 50 = .ok (.bipush 32, 2) := by decide +kernel
theorem dX7_text_52 : decode cX7_text 52 = .ok (.iastore, 1) := by decide +kernel
theorem dX7_text_53 : decode cX7_text 53 = .ok (.iinc 3 1, 3) := by decide +kernel
theorem dX7_text_56 : decode cX7_text 56 = .ok (.goto (-22), 3) := by decide +kernel
theorem dX7_text_59 : decode cX7_text 59 = .ok (.iload_n 2, 1) := by decide +kernel
theorem dX7_text_60 : decode cX7_text 60 = .ok (.ireturn, 1) := by decide +kernel
theorem dX7_put_0 : decode cX7_put 0 = .ok (.iload_n 1, 1) := by decide +kernel
theorem dX7_put_1 : decode cX7_put 1 = .ok (.invokestatic 87, 3) := by decide +kernel
theorem dX7_put_4 : decode cX7_put 4 = .ok (.ifCond .ne 5, 3) := by decide +kernel
theorem dX7_put_7 : decode cX7_put 7 = .ok (.iconst (-1), 1) := by decide +kernel
theorem dX7_put_8 : decode cX7_put 8 = .ok (.ireturn, 1) := by decide +kernel
theorem dX7_put_9 : decode cX7_put 9 = .ok (.aload_n 0, 1) := by decide +kernel
theorem dX7_put_10 : decode cX7_put 10 = .ok (.getfield 19, 3) := by decide +kernel
theorem dX7_put_13 : decode cX7_put 13 = .ok (.iload_n 1, 1) := by decide +kernel
theorem dX7_put_14 : decode cX7_put 14 = .ok (.iaload, 1) := by decide +kernel
theorem dX7_put_15 : decode cX7_put 15 = .ok (.ifCond .ge 9, 3) := by decide +kernel
theorem dX7_put_18 : decode cX7_put 18 = .ok (.aload_n 0, 1) := by decide +kernel
theorem dX7_put_19 : decode cX7_put 19 = .ok (.iconst 1, 1) := by decide +kernel
theorem dX7_put_20 : decode cX7_put 20 = .ok (.invokevirtual 72, 3) := by decide +kernel
theorem dX7_put_23 : decode cX7_put 23 = .ok (.ireturn, 1) := by decide +kernel
theorem dX7_put_24 : decode cX7_put 24 = .ok (.iload_n 2, 1) := by decide +kernel
theorem dX7_put_25 : decode cX7_put 25 = .ok (.iconst 0, 1) := by decide +kernel
theorem dX7_put_26 : decode cX7_put 26 = .ok (.aload_n 0, 1) := by decide +kernel
theorem dX7_put_27 : decode cX7_put 27 = .ok (.getfield 19, 3) := by decide +kernel
theorem dX7_put_30 : decode cX7_put 30 = .ok (.iload_n 1, 1) := by decide +kernel
theorem dX7_put_31 : decode cX7_put 31 = .ok (.iaload, 1) := by decide +kernel
theorem dX7_put_32 : decode cX7_put 32 = .ok (.iconst 1, 1) := by decide +kernel
theorem dX7_put_33 : decode cX7_put 33 = .ok (.isub, 1) := by decide +kernel
theorem dX7_put_34 : decode cX7_put 34 = .ok (.invokestatic 64, 3) := by decide +kernel
theorem dX7_put_37 : decode cX7_put 37 = .ok (.ifCond .ne 9, 3) := by decide +kernel
theorem dX7_put_40 : decode cX7_put 40 = .ok (.aload_n 0, 1) := by decide +kernel
theorem dX7_put_41 : decode cX7_put 41 = .ok (.iconst 2, 1) := by decide +kernel
theorem dX7_put_42 : decode cX7_put 42 = .ok (.invokevirtual 72, 3) := by decide +kernel
theorem dX7_put_45 : decode cX7_put 45 = .ok (.ireturn, 1) := by decide +kernel
theorem dX7_put_46 : decode cX7_put 46 = .ok (.aload_n 0, 1) := by decide +kernel
theorem dX7_put_47 : decode cX7_put 47 = .ok (.getfield 22, 3) := by decide +kernel
theorem dX7_put_50 : decode cX7_put 50 = .ok (.bipush 60, 2) := by decide +kernel
theorem dX7_put_52 : decode cX7_put 52 = .ok (.iload_n 1, 1) := by decide +kernel
theorem dX7_put_53 : decode cX7_put 53 = .ok (.imul, 1) := by decide +kernel
theorem dX7_put_54 : decode cX7_put 54 = .ok (.iload_n 2, 1) := by decide +kernel
theorem dX7_put_55 : decode cX7_put 55 = .ok (.iadd, 1) := by decide +kernel
theorem dX7_put_56 : decode cX7_put 56 = .ok (.iaload, 1) := by decide +kernel
theorem dX7_put_57 : decode cX7_put 57 = .ok (.istore 4, 2) := by decide +kernel
theorem dX7_put_59 : decode cX7_put 59 = .ok (.aload_n 0, 1) := by decide +kernel
theorem dX7_put_60 : decode cX7_put 60 = .ok (.getfield 22, 3) := by decide +kernel
theorem dX7_put_63 : decode cX7_put 63 = .ok (.bipush 60, 2) := by decide +kernel
theorem dX7_put_65 : decode cX7_put 65 = .ok (.iload_n 1, 1) := by decide +kernel
theorem dX7_put_66 : decode cX7_put 66 = .ok (.imul, 1) := by decide +kernel
theorem dX7_put_67 : decode cX7_put 67 = .ok (.iload_n 2, 1) := by decide +kernel
theorem dX7_put_68 : decode cX7_put 68 = .ok (.iadd, 1) := by decide +kernel
theorem dX7_put_69 : decode cX7_put 69 = .ok (.iload_n 3, 1) := by decide +kernel
theorem dX7_put_70 : decode cX7_put 70 = .ok (.i2b, 1) := by decide +kernel
theorem dX7_put_71 : decode cX7_put 71 = .ok (.iastore, 1) := by decide +kernel
theorem dX7_put_72 : decode cX7_put 72 = .ok (.iload 4, 2) := by decide +kernel
theorem dX7_put_74 : decode cX7_put 74 = .ok (.sipush 1000, 3) := by decide +kernel
theorem dX7_put_77 : decode cX7_put 77 = .ok (.iadd, 1) := by decide +kernel
theorem dX7_put_78 : decode cX7_put 78 = .ok (.ireturn, 1) := by decide +kernel
theorem dX7_look_0 : decode cX7_look 0 = .ok (.aload_n 0, 1) := by decide +kernel
theorem dX7_look_1 : decode cX7_look 1 = .ok (.getfield 90, 3) := by decide +kernel
theorem dX7_look_4 : decode cX7_look 4 = .ok (.aload_n 0, 1) := by decide +kernel
theorem dX7_look_5 : decode cX7_look 5 = .ok (.getfield 19, 3) := by decide +kernel
theorem dX7_look_8 : decode cX7_look 8 = .ok (.iload_n 1, 1) := by decide +kernel
theorem dX7_look_9 : decode cX7_look 9 = .ok (.iaload, 1) := by decide +kernel
theorem dX7_look_10 : decode cX7_look 10 = .ok (.if_icmp .ge 20, 3) := by decide +kernel
theorem dX7_look_13 : decode cX7_look 13 = .ok (.aload_n 0, 1) := by decide +kernel
theorem dX7_look_14 : decode cX7_look 14 = .ok (.getfield 22, 3) := by decide +kernel
theorem dX7_look_17 : decode cX7_look 17 = .ok (.bipush 60, 2) := by decide +kernel
theorem dX7_look_19 : decode cX7_look 19 = .ok (.iload_n 1, 1) := by decide +kernel
theorem dX7_look_20 : decode cX7_look 20 = .ok (.imul, 1) := by decide +kernel
theorem dX7_look_21 : decode cX7_look 21 = .ok (.aload_n 0, 1) := by decide +kernel
theorem dX7_look_22 : decode cX7_look 22 = .ok (.getfield 90, 3) := by decide +kernel
theorem dX7_look_25 : decode cX7_look 25 = .ok (.iadd, 1) := by decide +kernel
theorem dX7_look_26 : decode cX7_look 26 = .ok (.iaload, 1) := by decide +kernel
theorem dX7_look_27 : decode cX7_look 27 = .ok (.goto 6, 3) := by decide +kernel
theorem dX7_look_30 : decode cX7_look 30 = .ok (.sipush (-1000), 3) := by decide +kernel
theorem dX7_look_33 : decode cX7_look 33 = .ok (.ireturn, 1) := by decide +kernel
theorem dX7_skips_0 : decode cX7_skips 0 = .ok (.aload_n 0, 1) := by decide +kernel
theorem dX7_skips_1 : decode cX7_skips 1 = .ok (.getfield 93, 3) := by decide +kernel
theorem dX7_skips_4 : decode cX7_skips 4 = .ok (.ifCond .eq 26, 3) := by decide +kernel
theorem dX7_skips_7 : decode cX7_skips 7 = .ok (.aload_n 0, 1) := by decide +kernel
theorem dX7_skips_8 : decode cX7_skips 8 = .ok (.iload_n 1, 1) := by decide +kernel
theorem dX7_skips_9 : decode cX7_skips 9 = .ok (.invokevirtual 97, 3) := by decide +kernel
theorem dX7_skips_12 : decode cX7_skips 12 = .ok (.bipush 32, 2) := by decide +kernel
theorem dX7_skips_14 : decode cX7_skips 14 = .ok (.if_icmp .ne 16, 3) := by decide +kernel
theorem dX7_skips_17 : decode cX7_skips 17 = .ok (.aload_n 0, 1) := by decide +kernel
theorem dX7_skips_18 : decode cX7_skips 18 = .ok (.dup, 1) := by decide +kernel
theorem dX7_skips_19 : decode cX7_skips 19 = .ok (.getfield 90, 3) := by decide +kernel
theorem dX7_skips_22 : decode cX7_skips 22 = .ok (.iconst 1, 1) := by decide +kernel
theorem dX7_skips_23 : decode cX7_skips 23 = .ok (.iadd, 1) := by decide +kernel
theorem dX7_skips_24 : decode cX7_skips 24 = .ok (.putfield 90, 3) := by decide +kernel
theorem dX7_skips_27 : decode cX7_skips 27 = .ok (.goto (-27), 3) := by decide +kernel
theorem dX7_skips_30 : decode cX7_skips 30 = .ok (.return_, 1) := by decide +kernel
theorem dX7_figure_0 : decode cX7_figure 0 = .ok (.aload_n 0, 1) := by decide +kernel
theorem dX7_figure_1 : decode cX7_figure 1 = .ok (.iload_n 1, 1) := by decide +kernel
theorem dX7_figure_2 : decode cX7_figure 2 = .ok (.invokevirtual 97, 3) := by decide +kernel
theorem dX7_figure_5 : decode cX7_figure 5 = .ok (.bipush 48, 2) := by decide +kernel
theorem dX7_figure_7 : decode cX7_figure 7 = .ok (.isub, 1) := by decide +kernel
theorem dX7_figure_8 : decode cX7_figure 8 = .ok (.istore_n 3, 1) := by decide +kernel
theorem dX7_figure_9 : decode cX7_figure 9 = .ok (.aload_n 0, 1) := by decide +kernel
theorem dX7_figure_10 : decode cX7_figure 10 = .ok (.aload_n 0, 1) := by decide +kernel
theorem dX7_figure_11 : decode cX7_figure 11 = .ok (.getfield 93, 3) := by decide +kernel
theorem dX7_figure_14 : decode cX7_figure 14 = .ok (.ifCond .eq 17, 3) := by decide +kernel
theorem dX7_figure_17 : decode cX7_figure 17 = .ok (.iload_n 3, 1) := by decide +kernel
theorem dX7_figure_18 : decode cX7_figure 18 = .ok (.iload_n 2, 1) := by decide +kernel
theorem dX7_figure_19 : decode cX7_figure 19 = .ok (.bipush 9, 2) := by decide +kernel
theorem dX7_figure_21 : decode cX7_figure 21 = .ok (.invokestatic 64, 3) := by decide +kernel
theorem dX7_figure_24 : decode cX7_figure 24 = .ok (.ifCond .eq 7, 3) := by decide +kernel
theorem dX7_figure_27 : decode cX7_figure 27 = .ok (.iconst 1, 1) := by decide +kernel
theorem dX7_figure_28 : decode cX7_figure 28 = .ok (.goto 4, 3) := by decide +kernel
theorem dX7_figure_31 : decode cX7_figure 31 = .ok (.iconst 0, 1) := by decide +kernel
theorem dX7_figure_32 : decode cX7_figure 32 = .ok (.putfield 93, 3) := by decide +kernel
theorem dX7_figure_35 : decode cX7_figure 35 = .ok (.aload_n 0, 1) := by decide +kernel
theorem dX7_figure_36 : decode cX7_figure 36 = .ok (.dup, 1) := by decide +kernel
theorem dX7_figure_37 : decode cX7_figure 37 = .ok (.getfield 90, 3) := by decide +kernel
theorem dX7_figure_40 : decode cX7_figure 40 = .ok (.aload_n 0, 1) := by decide +kernel
theorem dX7_figure_41 : decode cX7_figure 41 = .ok (.getfield 93, 3) := by decide +kernel
theorem dX7_figure_44 : decode cX7_figure 44 = .ok (.ifCond .eq 7, 3) := by decide +kernel
theorem dX7_figure_47 : decode cX7_figure 47 = .ok (.iconst 1, 1) := by decide +kernel
theorem dX7_figure_48 : decode cX7_figure 48 = .ok (.goto 4, 3) := by decide +kernel
theorem dX7_figure_51 : decode cX7_figure 51 = .ok (.iconst 0, 1) := by decide +kernel
theorem dX7_figure_52 : decode cX7_figure 52 = .ok (.iadd, 1) := by decide +kernel
theorem dX7_figure_53 : decode cX7_figure 53 = .ok (.putfield 90, 3) := by decide +kernel
theorem dX7_figure_56 : decode cX7_figure 56 = .ok (.iload_n 3, 1) := by decide +kernel
theorem dX7_figure_57 : decode cX7_figure 57 = .ok (.ireturn, 1) := by decide +kernel
theorem dX7_kindOf_0 : decode cX7_kindOf 0 = .ok (.iload_n 0, 1) := by decide +kernel
theorem dX7_kindOf_1 : decode cX7_kindOf 1 = .ok (.bipush 115, 2) := by decide +kernel
theorem dX7_kindOf_3 : decode cX7_kindOf 3 = .ok (.if_icmp .ne 7, 3) := by decide +kernel
theorem dX7_kindOf_6 : decode cX7_kindOf 6 = .ok (.iconst 0, 1) := by decide +kernel
theorem dX7_kindOf_7 : decode cX7_kindOf 7 = .ok (.goto 55, 3) := by decide +kernel
theorem dX7_kindOf_10 : decode cX7_kindOf 10 = .ok (.iload_n 0, 1) := by decide +kernel
theorem dX7_kindOf_11 : decode cX7_kindOf 11 = .ok (.bipush 98, 2) := by decide +kernel
theorem dX7_kindOf_13 : decode cX7_kindOf 13 = .ok (.if_icmp .ne 7, 3) := by decide +kernel
theorem dX7_kindOf_16 : decode cX7_kindOf 16 = .ok (.iconst 1, 1) := by decide +kernel
theorem dX7_kindOf_17 : decode cX7_kindOf 17 = .ok (.goto 45, 3) := by decide +kernel
theorem dX7_kindOf_20 : decode cX7_kindOf 20 = .ok (.iload_n 0, 1) := by decide +kernel
theorem dX7_kindOf_21 : decode cX7_kindOf 21 = .ok (.bipush 112, 2) := by decide +kernel
theorem dX7_kindOf_23 : decode cX7_kindOf 23 = .ok (.if_icmp .ne 7, 3) := by decide +kernel
theorem dX7_kindOf_26 : decode cX7_kindOf 26 = .ok (.iconst 2, 1) := by decide +kernel
theorem dX7_kindOf_27 : decode cX7_kindOf 27 = .ok (.goto 35, 3) := by decide +kernel
theorem dX7_kindOf_30 : decode cX7_kindOf 30 = .ok (.iload_n 0, 1) := by decide +kernel
theorem dX7_kindOf_31 : decode cX7_kindOf 31 = .ok (.bipush 114, 2) := by decide +kernel
theorem dX7_kindOf_33 : decode cX7_kindOf 33 = .ok (.if_icmp .ne 7, 3) := by decide +kernel
theorem dX7_kindOf_36 : decode cX7_kindOf 36 = .ok (.iconst 3, 1) := by decide +kernel
theorem dX7_kindOf_37 : decode cX7_kindOf 37 = .ok (.goto 25, 3) := by decide +kernel
theorem dX7_kindOf_40 : decode cX7_kindOf 40 = .ok (.iload_n 0, 1) := by decide +kernel
theorem dX7_kindOf_41 : decode cX7_kindOf 41 = .ok (.bipush 102, 2) := by decide +kernel
theorem dX7_kindOf_43 : decode cX7_kindOf 43 = .ok (.if_icmp .ne 7, 3) := by decide +kernel
theorem dX7_kindOf_46 : decode cX7_kindOf 46 = .ok (.iconst 4, 1) := by decide +kernel
theorem dX7_kindOf_47 : decode cX7_kindOf 47 = .ok (.goto 15, 3) := by decide +kernel
theorem dX7_kindOf_50 : decode cX7_kindOf 50 = .ok (.iload_n 0, 1) := by decide +kernel
theorem dX7_kindOf_51 : decode cX7_kindOf 51 = .ok (.bipush 103, 2) := by decide +kernel
theorem dX7_kindOf_53 : decode cX7_kindOf 53 = .ok (.if_icmp .ne 7, 3) := by decide +kernel
theorem dX7_kindOf_56 : decode cX7_kindOf 56 = .ok (.iconst 5, 1) := by decide +kernel
theorem dX7_kindOf_57 : decode cX7_kindOf 57 = .ok (.goto 5, 3) := by decide +kernel
theorem dX7_kindOf_60 : decode cX7_kindOf 60 = .ok (.bipush (-9), 2) := by decide +kernel
theorem dX7_kindOf_62 : decode cX7_kindOf 62 = .ok (.ireturn, 1) := by decide +kernel
theorem dX7_years_0 : decode cX7_years 0 = .ok (.aload_n 0, 1) := by decide +kernel
theorem dX7_years_1 : decode cX7_years 1 = .ok (.iload_n 1, 1) := by decide +kernel
theorem dX7_years_2 : decode cX7_years 2 = .ok (.iconst 0, 1) := by decide +kernel
theorem dX7_years_3 : decode cX7_years 3 = .ok (.invokevirtual 100, 3) := by decide +kernel
theorem dX7_years_6 : decode cX7_years 6 = .ok (.istore_n 2, 1) := by decide +kernel
theorem dX7_years_7 : decode cX7_years 7 = .ok (.bipush 10, 2) := by decide +kernel
theorem dX7_years_9 : decode cX7_years 9 = .ok (.iload_n 2, 1) := by decide +kernel
theorem dX7_years_10 : decode cX7_years 10 = .ok (.imul, 1) := by decide +kernel
theorem dX7_years_11 : decode cX7_years 11 = .ok (.aload_n 0, 1) := by decide +kernel
theorem dX7_years_12 : decode cX7_years 12 = .ok (.iload_n 1, 1) := by decide +kernel
theorem dX7_years_13 : decode cX7_years 13 = .ok (.iconst 0, 1) := by decide +kernel
theorem dX7_years_14 : decode cX7_years 14 = .ok (.invokevirtual 100, 3) := by decide +kernel
theorem dX7_years_17 : decode cX7_years 17 = .ok (.iadd, 1) := by decide +kernel
theorem dX7_years_18 : decode cX7_years 18 = .ok (.ireturn, 1) := by decide +kernel
theorem dX7_readsHead_0 : decode cX7_readsHead 0 = .ok (.aload_n 0, 1) := by decide +kernel
theorem dX7_readsHead_1 : decode cX7_readsHead 1 = .ok (.iload_n 1, 1) := by decide +kernel
theorem dX7_readsHead_2 : decode cX7_readsHead 2 = .ok (.invokevirtual 103, 3) := by decide +kernel
theorem dX7_readsHead_5 : decode cX7_readsHead 5 = .ok (.aload_n 0, 1) := by decide +kernel
theorem dX7_readsHead_6 : decode cX7_readsHead 6 = .ok (.aload_n 0, 1) := by decide +kernel
theorem dX7_readsHead_7 : decode cX7_readsHead 7 = .ok (.iload_n 1, 1) := by decide +kernel
theorem dX7_readsHead_8 : decode cX7_readsHead 8 = .ok (.invokevirtual 97, 3) := by decide +kernel
theorem dX7_readsHead_11 : decode cX7_readsHead 11 = .ok (.bipush 104, 2) := by decide +kernel
theorem dX7_readsHead_13 : decode cX7_readsHead 13 = .ok (.if_icmp .ne 7, 3) := by decide +kernel
theorem dX7_readsHead_16 : decode cX7_readsHead 16 = .ok (.iconst 1, 1) := by decide +kernel
theorem dX7_readsHead_17 : decode cX7_readsHead 17 = .ok (.goto 4, 3) := by decide +kernel
theorem dX7_readsHead_20 : decode cX7_readsHead 20 = .ok (.iconst 0, 1) := by decide +kernel
theorem dX7_readsHead_21 : decode cX7_readsHead 21 = .ok (.putfield 93, 3) := by decide +kernel
theorem dX7_readsHead_24 : decode cX7_readsHead 24 = .ok (.aload_n 0, 1) := by decide +kernel
theorem dX7_readsHead_25 : decode cX7_readsHead 25 = .ok (.dup, 1) := by decide +kernel
theorem dX7_readsHead_26 : decode cX7_readsHead 26 = .ok (.getfield 90, 3) := by decide +kernel
theorem dX7_readsHead_29 : decode cX7_readsHead 29 = .ok (.aload_n 0, 1) := by decide +kernel
theorem dX7_readsHead_30 : decode cX7_readsHead 30 = .ok (.getfield 93, 3) := by decide +kernel
theorem dX7_readsHead_33 : decode cX7_readsHead 33 = .ok (.ifCond .eq 7, 3) := by decide +kernel
theorem dX7_readsHead_36 : decode cX7_readsHead 36 = .ok (.iconst 1, 1) := by decide +kernel
theorem dX7_readsHead_37 : decode cX7_readsHead 37 = .ok (.goto 4, 3) := by decide +kernel
theorem dX7_readsHead_40 : decode cX7_readsHead 40 = .ok (.iconst 0, 1) := by decide +kernel
theorem dX7_readsHead_41 : decode cX7_readsHead 41 = .ok (.iadd, 1) := by decide +kernel
theorem dX7_readsHead_42 : decode cX7_readsHead 42 = .ok (.putfield 90, 3) := by decide +kernel
theorem dX7_readsHead_45 : decode cX7_readsHead 45 = .ok (.aload_n 0, 1) := by decide +kernel
theorem dX7_readsHead_46 : decode cX7_readsHead 46 = .ok (.getfield 28, 3) := by decide +kernel
theorem dX7_readsHead_49 : decode cX7_readsHead 49 = .ok (.iconst 1, 1) := by decide +kernel
theorem dX7_readsHead_50 : decode cX7_readsHead 50 = .ok (.aload_n 0, 1) := by decide +kernel
theorem dX7_readsHead_51 : decode cX7_readsHead 51 = .ok (.iload_n 1, 1) := by decide +kernel
theorem dX7_readsHead_52 : decode cX7_readsHead 52 = .ok (.invokevirtual 107, 3) := by decide +kernel
theorem dX7_readsHead_55 : decode cX7_readsHead 55 = .ok (.iastore, 1) := by decide +kernel
theorem dX7_readsHead_56 : decode cX7_readsHead 56 = .ok (.aload_n 0, 1) := by decide +kernel
theorem dX7_readsHead_57 : decode cX7_readsHead 57 = .ok (.getfield 28, 3) := by decide +kernel
theorem dX7_readsHead_60 : decode cX7_readsHead 60 = .ok (.iconst 2, 1) := by decide +kernel
theorem dX7_readsHead_61 : decode cX7_readsHead 61 = .ok (.aload_n 0, 1) := by decide +kernel
theorem dX7_readsHead_62 : decode cX7_readsHead 62 = .ok (.iload_n 1, 1) := by decide +kernel
theorem dX7_readsHead_63 : decode cX7_readsHead 63 = .ok (.iconst 1, 1) := by decide +kernel
theorem dX7_readsHead_64 : decode cX7_readsHead 64 = .ok (.invokevirtual 100, 3) := by decide +kernel
theorem dX7_readsHead_67 : decode cX7_readsHead 67 = .ok (.iastore, 1) := by decide +kernel
theorem dX7_readsHead_68 : decode cX7_readsHead 68 = .ok (.aload_n 0, 1) := by decide +kernel
theorem dX7_readsHead_69 : decode cX7_readsHead 69 = .ok (.getfield 28, 3) := by decide +kernel
theorem dX7_readsHead_72 : decode cX7_readsHead 72 = .ok (.iconst 4, 1) := by decide +kernel
theorem dX7_readsHead_73 : decode cX7_readsHead 73 = .ok (.aload_n 0, 1) := by decide +kernel
theorem dX7_readsHead_74 : decode cX7_readsHead 74 = .ok (.getfield 28, 3) := by decide +kernel
theorem dX7_readsHead_77 : decode cX7_readsHead 77 = .ok (.iconst 2, 1) := by decide +kernel
theorem dX7_readsHead_78 : decode cX7_readsHead 78 = .ok (.iaload, 1) := by decide +kernel
theorem dX7_readsHead_79 : decode cX7_readsHead 79 = .ok (.iastore, 1) := by decide +kernel
theorem dX7_readsHead_80 : decode cX7_readsHead 80 = .ok (.aload_n 0, 1) := by decide +kernel
theorem dX7_readsHead_81 : decode cX7_readsHead 81 = .ok (.iload_n 1, 1) := by decide +kernel
theorem dX7_readsHead_82 : decode cX7_readsHead 82 = .ok (.invokevirtual 103, 3) := by decide +kernel
theorem dX7_readsHead_85 : decode cX7_readsHead 85 = .ok (.return_, 1) := by decide +kernel
theorem dX7_readsShip_0 : decode cX7_readsShip 0 = .ok (.aload_n 0, 1) := by decide +kernel
theorem dX7_readsShip_1 : decode cX7_readsShip 1 = .ok (.iload_n 1, 1) := by decide +kernel
theorem dX7_readsShip_2 : decode cX7_readsShip 2 = .ok (.invokevirtual 97, 3) := by decide +kernel
theorem dX7_readsShip_5 : decode cX7_readsShip 5 = .ok (.invokestatic 110, 3) := by decide +kernel
theorem dX7_readsShip_8 : decode cX7_readsShip 8 = .ok (.istore_n 2, 1) := by decide +kernel
theorem dX7_readsShip_9 : decode cX7_readsShip 9 = .ok (.aload_n 0, 1) := by decide +kernel
theorem dX7_readsShip_10 : decode cX7_readsShip 10 = .ok (.iload_n 2, 1) := by decide +kernel
theorem dX7_readsShip_11 : decode cX7_readsShip 11 = .ok (.bipush (-9), 2) := by decide +kernel
theorem dX7_readsShip_13 : decode cX7_readsShip 13 = .ok (.if_icmp .eq 18, 3) := by decide +kernel
theorem dX7_readsShip_16 : decode cX7_readsShip 16 = .ok (.aload_n 0, 1) := by decide +kernel
theorem dX7_readsShip_17 : decode cX7_readsShip 17 = .ok (.getfield 28, 3) := by decide +kernel
theorem dX7_readsShip_20 : decode cX7_readsShip 20 = .ok (.iconst 0, 1) := by decide +kernel
theorem dX7_readsShip_21 : decode cX7_readsShip 21 = .ok (.iaload, 1) := by decide +kernel
theorem dX7_readsShip_22 : decode cX7_readsShip 22 = .ok (.bipush 6, 2) := by decide +kernel
theorem dX7_readsShip_24 : decode cX7_readsShip 24 = .ok (.if_icmp .ge 7, 3) := by decide +kernel
theorem dX7_readsShip_27 : decode cX7_readsShip 27 = .ok (.iconst 1, 1) := by decide +kernel
theorem dX7_readsShip_28 : decode cX7_readsShip 28 = .ok (.goto 4, 3) := by decide +kernel
theorem dX7_readsShip_31 : decode cX7_readsShip 31 = .ok (.iconst 0, 1) := by decide +kernel
theorem dX7_readsShip_32 : decode cX7_readsShip 32 = .ok (.putfield 93, 3) := by decide +kernel
theorem dX7_readsShip_35 : decode cX7_readsShip 35 = .ok (.aload_n 0, 1) := by decide +kernel
theorem dX7_readsShip_36 : decode cX7_readsShip 36 = .ok (.dup, 1) := by decide +kernel
theorem dX7_readsShip_37 : decode cX7_readsShip 37 = .ok (.getfield 90, 3) := by decide +kernel
theorem dX7_readsShip_40 : decode cX7_readsShip 40 = .ok (.aload_n 0, 1) := by decide +kernel
theorem dX7_readsShip_41 : decode cX7_readsShip 41 = .ok (.getfield 93, 3) := by decide +kernel
theorem dX7_readsShip_44 : decode cX7_readsShip 44 = .ok (.ifCond .eq 7, 3) := by decide +kernel
theorem dX7_readsShip_47 : decode cX7_readsShip 47 = .ok (.iconst 1, 1) := by decide +kernel
theorem dX7_readsShip_48 : decode cX7_readsShip 48 = .ok (.goto 4, 3) := by decide +kernel
theorem dX7_readsShip_51 : decode cX7_readsShip 51 = .ok (.iconst 0, 1) := by decide +kernel
theorem dX7_readsShip_52 : decode cX7_readsShip 52 = .ok (.iadd, 1) := by decide +kernel
theorem dX7_readsShip_53 : decode cX7_readsShip 53 = .ok (.putfield 90, 3) := by decide +kernel
theorem dX7_readsShip_56 : decode cX7_readsShip 56 = .ok (.bipush 7, 2) := by decide +kernel
theorem dX7_readsShip_58 : decode cX7_readsShip 58 = .ok (.bipush 8, 2) := by decide +kernel
theorem dX7_readsShip_60 : decode cX7_readsShip 60 = .ok (.aload_n 0, 1) := by decide +kernel
theorem dX7_readsShip_61 : decode cX7_readsShip 61 = .ok (.getfield 28, 3) := by decide +kernel
theorem dX7_readsShip_64 : decode cX7_readsShip 64 = .ok (.iconst 0, 1) := by decide +kernel
theorem dX7_readsShip_65 : decode cX7_readsShip 65 = .ok (.iaload, 1) := by decide +kernel
theorem dX7_readsShip_66 : decode cX7_readsShip 66 = .ok (.bipush 6, 2) := by decide +kernel
theorem dX7_readsShip_68 : decode cX7_readsShip 68 = .ok (.if_icmp .ge 12, 3) := by decide +kernel
theorem dX7_readsShip_71 : decode cX7_readsShip 71 = .ok (.aload_n 0, 1) := by decide +kernel
theorem dX7_readsShip_72 : decode cX7_readsShip 72 = .ok (.getfield 28, 3) := by decide +kernel
theorem dX7_readsShip_75 : decode cX7_readsShip 75 = .ok (.iconst 0, 1) := by decide +kernel
theorem dX7_readsShip_76 : decode cX7_readsShip 76 = .ok (.iaload, 1) := by decide +kernel
theorem dX7_readsShip_77 : decode cX7_readsShip 77 = .ok (.goto 4, 3) := by decide +kernel
theorem dX7_readsShip_80 : decode cX7_readsShip 80 = .ok (.iconst 0, 1) := by decide +kernel
theorem dX7_readsShip_81 : decode cX7_readsShip 81 = .ok (.imul, 1) := by decide +kernel
theorem dX7_readsShip_82 : decode cX7_readsShip 82 = .ok (.iadd, 1) := by decide +kernel
theorem dX7_readsShip_83 : decode cX7_readsShip 83 = .ok (.istore_n 3, 1) := by decide +kernel
theorem dX7_readsShip_84 : decode cX7_readsShip 84 = .ok (.aload_n 0, 1) := by decide +kernel
theorem dX7_readsShip_85 : decode cX7_readsShip 85 = .ok (.getfield 93, 3) := by decide +kernel
theorem dX7_readsShip_88 : decode cX7_readsShip 88 = .ok (.ifCond .eq 86, 3) := by decide +kernel
theorem dX7_readsShip_91 : decode cX7_readsShip 91 = .ok (.aload_n 0, 1) := by decide +kernel
theorem dX7_readsShip_92 : decode cX7_readsShip 92 = .ok (.getfield 28, 3) := by decide +kernel
theorem dX7_readsShip_95 : decode cX7_readsShip 95 = .ok (.iload_n 3, 1) := by decide +kernel
theorem dX7_readsShip_96 : decode cX7_readsShip 96 = .ok (.iload_n 2, 1) := by decide +kernel
theorem dX7_readsShip_97 : decode cX7_readsShip 97 = .ok (.iastore, 1) := by decide +kernel
theorem dX7_readsShip_98 : decode cX7_readsShip 98 = .ok (.aload_n 0, 1) := by decide +kernel
theorem dX7_readsShip_99 : decode cX7_readsShip 99 = .ok (.getfield 28, 3) := by decide +kernel
theorem dX7_readsShip_102 : decode cX7_readsShip 102 = .ok (.iload_n 3, 1) := by decide +kernel
theorem dX7_readsShip_103 : decode cX7_readsShip 103 = .ok (.iconst 1, 1) := by decide +kernel
theorem dX7_readsShip_104 : decode cX7_readsShip 104 = .ok (.iadd, 1) := by decide +kernel
theorem dX7_readsShip_105 : decode cX7_readsShip 105 = .ok (.aload_n 0, 1) := by decide +kernel
theorem dX7_readsShip_106 : decode cX7_readsShip 106 = .ok (.iload_n 1, 1) := by decide +kernel
theorem dX7_readsShip_107 : decode cX7_readsShip 107 = .ok (.invokevirtual 107, 3) := by decide +kernel
theorem dX7_readsShip_110 : decode cX7_readsShip 110 = .ok (.iastore, 1) := by decide +kernel
theorem dX7_readsShip_111 : decode cX7_readsShip 111 = .ok (.aload_n 0, 1) := by decide +kernel
theorem dX7_readsShip_112 : decode cX7_readsShip 112 = .ok (.getfield 28, 3) := by decide +kernel
theorem dX7_readsShip_115 : decode cX7_readsShip 115 = .ok (.iload_n 3, 1) := by decide +kernel
theorem dX7_readsShip_116 : decode cX7_readsShip 116 = .ok (.iconst 2, 1) := by decide +kernel
theorem dX7_readsShip_117 : decode cX7_readsShip 117 = .ok (.iadd, 1) := by decide +kernel
theorem dX7_readsShip_118 : decode cX7_readsShip 118 = .ok (.aload_n 0, 1) := by decide +kernel
theorem dX7_readsShip_119 : decode cX7_readsShip 119 = .ok (.iload_n 1, 1) := by decide +kernel
theorem dX7_readsShip_120 : decode cX7_readsShip 120 = .ok (.iconst 0, 1) := by decide +kernel
theorem dX7_readsShip_121 : decode cX7_readsShip 121 = .ok (.invokevirtual 100, 3) := by decide +kernel
theorem dX7_readsShip_124 : decode cX7_readsShip 124 = .ok (.iastore, 1) := by decide +kernel
theorem dX7_readsShip_125 : decode cX7_readsShip 125 = .ok (.aload_n 0, 1) := by decide +kernel
theorem dX7_readsShip_126 : decode cX7_readsShip 126 = .ok (.getfield 28, 3) := by decide +kernel
theorem dX7_readsShip_129 : decode cX7_readsShip 129 = .ok (.iload_n 3, 1) := by decide +kernel
theorem dX7_readsShip_130 : decode cX7_readsShip 130 = .ok (.iconst 3, 1) := by decide +kernel
theorem dX7_readsShip_131 : decode cX7_readsShip 131 = .ok (.iadd, 1) := by decide +kernel
theorem dX7_readsShip_132 : decode cX7_readsShip 132 = .ok (.aload_n 0, 1) := by decide +kernel
theorem dX7_readsShip_133 : decode cX7_readsShip 133 = .ok (.iload_n 1, 1) := by decide +kernel
theorem dX7_readsShip_134 : decode cX7_readsShip 134 = .ok (.iconst 0, 1) := by decide +kernel
theorem dX7_readsShip_135 : decode cX7_readsShip 135 = .ok (.invokevirtual 100, 3) := by decide +kernel
theorem dX7_readsShip_138 : decode cX7_readsShip 138 = .ok (.iastore, 1) := by decide +kernel
theorem dX7_readsShip_139 : decode cX7_readsShip 139 = .ok (.aload_n 0, 1) := by decide +kernel
theorem dX7_readsShip_140 : decode cX7_readsShip 140 = .ok (.getfield 28, 3) := by decide +kernel
theorem dX7_readsShip_143 : decode cX7_readsShip 143 = .ok (.iload_n 3, 1) := by decide +kernel
theorem dX7_readsShip_144 : decode cX7_readsShip 144 = .ok (.iconst 4, 1) := by decide +kernel
theorem dX7_readsShip_145 : decode cX7_readsShip 145 = .ok (.iadd, 1) := by decide +kernel
theorem dX7_readsShip_146 : decode cX7_readsShip 146 = .ok (.aload_n 0, 1) := by decide +kernel
theorem dX7_readsShip_147 : decode cX7_readsShip 147 = .ok (.iload_n 1, 1) := by decide +kernel
theorem dX7_readsShip_148 : decode cX7_readsShip 148 = .ok (.iconst 0, 1) := by decide +kernel
theorem dX7_readsShip_149 : decode cX7_readsShip 149 = .ok (.invokevirtual 100, 3) := by decide +kernel
theorem dX7_readsShip_152 : decode cX7_readsShip 152 = .ok (.iastore, 1) := by decide +kernel
theorem dX7_readsShip_153 : decode cX7_readsShip 153 = .ok (.aload_n 0, 1) := by decide +kernel
theorem dX7_readsShip_154 : decode cX7_readsShip 154 = .ok (.getfield 28, 3) := by decide +kernel
theorem dX7_readsShip_157 : decode cX7_readsShip 157 = .ok (.iconst 0, 1) := by decide +kernel
theorem dX7_readsShip_158 : decode cX7_readsShip 158 = .ok (.dup2, 1) := by decide +kernel
theorem dX7_readsShip_159 : decode cX7_readsShip 159 = .ok (.iaload, 1) := by decide +kernel
theorem dX7_readsShip_160 : decode cX7_readsShip 160 = .ok (.aload_n 0, 1) := by decide +kernel
theorem dX7_readsShip_161 : decode cX7_readsShip 161 = .ok (.getfield 93, 3) := by decide +kernel
theorem dX7_readsShip_164 : decode cX7_readsShip 164 = .ok (.ifCond .eq 7, 3) := by decide +kernel
theorem dX7_readsShip_167 : decode cX7_readsShip 167 = .ok (.iconst 1, 1) := by decide +kernel
theorem dX7_readsShip_168 : decode cX7_readsShip 168 = .ok (.goto 4, 3) := by decide +kernel
theorem dX7_readsShip_171 : decode cX7_readsShip 171 = .ok (.iconst 0, 1) := by decide +kernel
theorem dX7_readsShip_172 : decode cX7_readsShip 172 = .ok (.iadd, 1) := by decide +kernel
theorem dX7_readsShip_173 : decode cX7_readsShip 173 = .ok (.iastore, 1) := by decide +kernel
theorem dX7_readsShip_174 : decode cX7_readsShip 174 = .ok (.aload_n 0, 1) := by decide +kernel
theorem dX7_readsShip_175 : decode cX7_readsShip 175 = .ok (.iload_n 1, 1) := by decide +kernel
theorem dX7_readsShip_176 : decode cX7_readsShip 176 = .ok (.invokevirtual 103, 3) := by decide +kernel
theorem dX7_readsShip_179 : decode cX7_readsShip 179 = .ok (.return_, 1) := by decide +kernel
theorem dX7_reads_0 : decode cX7_reads 0 = .ok (.iconst 0, 1) := by decide +kernel
theorem dX7_reads_1 : decode cX7_reads 1 = .ok (.istore_n 2, 1) := by decide +kernel
theorem dX7_reads_2 : decode cX7_reads 2 = .ok (.iload_n 2, 1) := by decide +kernel
theorem dX7_reads_3 : decode cX7_reads 3 = .ok (.sipush 215, 3) := by decide +kernel
theorem dX7_reads_6 : decode cX7_reads 6 = .ok (.if_icmp .ge 16, 3) := by decide +kernel
theorem dX7_reads_9 : decode cX7_reads 9 = .ok (.aload_n 0, 1) := by decide +kernel
theorem dX7_reads_10 : decode cX7_reads 10 = .ok (.getfield 28, 3) := by decide +kernel
theorem dX7_reads_13 : decode cX7_reads 13 = .ok (.iload_n 2, 1) := by decide +kernel
theorem dX7_reads_14 : decode cX7_reads 14 = .ok (.iconst 0, 1) := by decide +kernel
theorem dX7_reads_15 : decode cX7_reads 15 = .ok (.iastore, 1) := by decide +kernel
theorem dX7_reads_16 : decode cX7_reads 16 = .ok (.iinc 2 1, 3) := by decide +kernel
theorem dX7_reads_19 : decode cX7_reads 19 = .ok (.goto (-17), 3) := by decide +kernel
theorem dX7_reads_22 : decode cX7_reads 22 = .ok (.aload_n 0, 1) := by decide +kernel
theorem dX7_reads_23 : decode cX7_reads 23 = .ok (.iconst 0, 1) := by decide +kernel
theorem dX7_reads_24 : decode cX7_reads 24 = .ok (.putfield 90, 3) := by decide +kernel
theorem dX7_reads_27 : decode cX7_reads 27 = .ok (.aload_n 0, 1) := by decide +kernel
theorem dX7_reads_28 : decode cX7_reads 28 = .ok (.iconst 1, 1) := by decide +kernel
theorem dX7_reads_29 : decode cX7_reads 29 = .ok (.putfield 93, 3) := by decide +kernel
theorem dX7_reads_32 : decode cX7_reads 32 = .ok (.aload_n 0, 1) := by decide +kernel
theorem dX7_reads_33 : decode cX7_reads 33 = .ok (.iload_n 1, 1) := by decide +kernel
theorem dX7_reads_34 : decode cX7_reads 34 = .ok (.invokevirtual 113, 3) := by decide +kernel
theorem dX7_reads_37 : decode cX7_reads 37 = .ok (.aload_n 0, 1) := by decide +kernel
theorem dX7_reads_38 : decode cX7_reads 38 = .ok (.getfield 93, 3) := by decide +kernel
theorem dX7_reads_41 : decode cX7_reads 41 = .ok (.ifCond .eq 24, 3) := by decide +kernel
theorem dX7_reads_44 : decode cX7_reads 44 = .ok (.aload_n 0, 1) := by decide +kernel
theorem dX7_reads_45 : decode cX7_reads 45 = .ok (.getfield 90, 3) := by decide +kernel
theorem dX7_reads_48 : decode cX7_reads 48 = .ok (.aload_n 0, 1) := by decide +kernel
theorem dX7_reads_49 : decode cX7_reads 49 = .ok (.getfield 19, 3) := by decide +kernel
theorem dX7_reads_52 : decode cX7_reads 52 = .ok (.iload_n 1, 1) := by decide +kernel
theorem dX7_reads_53 : decode cX7_reads 53 = .ok (.iaload, 1) := by decide +kernel
theorem dX7_reads_54 : decode cX7_reads 54 = .ok (.if_icmp .ge 11, 3) := by decide +kernel
theorem dX7_reads_57 : decode cX7_reads 57 = .ok (.aload_n 0, 1) := by decide +kernel
theorem dX7_reads_58 : decode cX7_reads 58 = .ok (.iload_n 1, 1) := by decide +kernel
theorem dX7_reads_59 : decode cX7_reads 59 = .ok (.invokevirtual 116, 3) := by decide +kernel
theorem dX7_reads_62 : decode cX7_reads 62 = .ok (.goto (-25), 3) := by decide +kernel
theorem dX7_reads_65 : decode cX7_reads 65 = .ok (.aload_n 0, 1) := by decide +kernel
theorem dX7_reads_66 : decode cX7_reads 66 = .ok (.getfield 93, 3) := by decide +kernel
theorem dX7_reads_69 : decode cX7_reads 69 = .ok (.ifCond .eq 17, 3) := by decide +kernel
theorem dX7_reads_72 : decode cX7_reads 72 = .ok (.aload_n 0, 1) := by decide +kernel
theorem dX7_reads_73 : decode cX7_reads 73 = .ok (.getfield 28, 3) := by decide +kernel
theorem dX7_reads_76 : decode cX7_reads 76 = .ok (.iconst 0, 1) := by decide +kernel
theorem dX7_reads_77 : decode cX7_reads 77 = .ok (.iaload, 1) := by decide +kernel
theorem dX7_reads_78 : decode cX7_reads 78 = .ok (.ifCond .le 8, 3) := by decide +kernel
theorem dX7_reads_81 : decode cX7_reads 81 = .ok (.bipush (-9), 2) := by decide +kernel
theorem dX7_reads_83 : decode cX7_reads 83 = .ok (.goto 7, 3) := by decide +kernel
theorem dX7_reads_86 : decode cX7_reads 86 = .ok (.aload_n 0, 1) := by decide +kernel
theorem dX7_reads_87 : decode cX7_reads 87 = .ok (.getfield 90, 3) := by decide +kernel
theorem dX7_reads_90 : decode cX7_reads 90 = .ok (.ireturn, 1) := by decide +kernel
theorem dX7_fault_0 : decode cX7_fault 0 = .ok (.iload_n 1, 1) := by decide +kernel
theorem dX7_fault_1 : decode cX7_fault 1 = .ok (.invokestatic 87, 3) := by decide +kernel
theorem dX7_fault_4 : decode cX7_fault 4 = .ok (.ifCond .ne 5, 3) := by decide +kernel
theorem dX7_fault_7 : decode cX7_fault 7 = .ok (.iconst (-1), 1) := by decide +kernel
theorem dX7_fault_8 : decode cX7_fault 8 = .ok (.ireturn, 1) := by decide +kernel
theorem dX7_fault_9 : decode cX7_fault 9 = .ok (.aload_n 0, 1) := by decide +kernel
theorem dX7_fault_10 : decode cX7_fault 10 = .ok (.getfield 19, 3) := by decide +kernel
theorem dX7_fault_13 : decode cX7_fault 13 = .ok (.iload_n 1, 1) := by decide +kernel
theorem dX7_fault_14 : decode cX7_fault 14 = .ok (.iaload, 1) := by decide +kernel
theorem dX7_fault_15 : decode cX7_fault 15 = .ok (.ifCond .ge 11, 3) := by decide +kernel
theorem dX7_fault_18 : decode cX7_fault 18 = .ok (.aload_n 0, 1) := by decide +kernel
theorem dX7_fault_19 : decode cX7_fault 19 = .ok (.iconst 1, 1) := by decide +kernel
theorem dX7_fault_20 : decode cX7_fault 20 = .ok (.invokevirtual 72, 3) := by decide +kernel
theorem dX7_fault_23 : decode cX7_fault 23 = .ok (.goto 8, 3) := by decide +kernel
theorem dX7_fault_26 : decode cX7_fault 26 = .ok (.aload_n 0, 1) := by decide +kernel
theorem dX7_fault_27 : decode cX7_fault 27 = .ok (.iload_n 1, 1) := by decide +kernel
theorem dX7_fault_28 : decode cX7_fault 28 = .ok (.invokevirtual 119, 3) := by decide +kernel
theorem dX7_fault_31 : decode cX7_fault 31 = .ok (.ireturn, 1) := by decide +kernel
theorem dX7_copies_0 : decode cX7_copies 0 = .ok (.iconst 0, 1) := by decide +kernel
theorem dX7_copies_1 : decode cX7_copies 1 = .ok (.istore 4, 2) := by decide +kernel
theorem dX7_copies_3 : decode cX7_copies 3 = .ok (.iload 4, 2) := by decide +kernel
theorem dX7_copies_5 : decode cX7_copies 5 = .ok (.sipush 215, 3) := by decide +kernel
theorem dX7_copies_8 : decode cX7_copies 8 = .ok (.if_icmp .ge 21, 3) := by decide +kernel
theorem dX7_copies_11 : decode cX7_copies 11 = .ok (.aload_n 2, 1) := by decide +kernel
theorem dX7_copies_12 : decode cX7_copies 12 = .ok (.iload_n 3, 1) := by decide +kernel
theorem dX7_copies_13 : decode cX7_copies 13 = .ok (.iload 4, 2) := by decide +kernel
theorem dX7_copies_15 : decode cX7_copies 15 = .ok (.iadd, 1) := by decide +kernel
theorem dX7_copies_16 : decode cX7_copies 16 = .ok (.aload_n 0, 1) := by decide +kernel
theorem dX7_copies_17 : decode cX7_copies 17 = .ok (.iload_n 1, 1) := by decide +kernel
theorem dX7_copies_18 : decode cX7_copies 18 = .ok (.iload 4, 2) := by decide +kernel
theorem dX7_copies_20 : decode cX7_copies 20 = .ok (.iadd, 1) := by decide +kernel
theorem dX7_copies_21 : decode cX7_copies 21 = .ok (.iaload, 1) := by decide +kernel
theorem dX7_copies_22 : decode cX7_copies 22 = .ok (.iastore, 1) := by decide +kernel
theorem dX7_copies_23 : decode cX7_copies 23 = .ok (.iinc 4 1, 3) := by decide +kernel
theorem dX7_copies_26 : decode cX7_copies 26 = .ok (.goto (-23), 3) := by decide +kernel
theorem dX7_copies_29 : decode cX7_copies 29 = .ok (.return_, 1) := by decide +kernel
theorem dX7_harbour_0 : decode cX7_harbour 0 = .ok (.iload_n 1, 1) := by decide +kernel
theorem dX7_harbour_1 : decode cX7_harbour 1 = .ok (.invokestatic 87, 3) := by decide +kernel
theorem dX7_harbour_4 : decode cX7_harbour 4 = .ok (.ifCond .ne 5, 3) := by decide +kernel
theorem dX7_harbour_7 : decode cX7_harbour 7 = .ok (.iconst (-1), 1) := by decide +kernel
theorem dX7_harbour_8 : decode cX7_harbour 8 = .ok (.ireturn, 1) := by decide +kernel
theorem dX7_harbour_9 : decode cX7_harbour 9 = .ok (.aload_n 0, 1) := by decide +kernel
theorem dX7_harbour_10 : decode cX7_harbour 10 = .ok (.getfield 19, 3) := by decide +kernel
theorem dX7_harbour_13 : decode cX7_harbour 13 = .ok (.iload_n 1, 1) := by decide +kernel
theorem dX7_harbour_14 : decode cX7_harbour 14 = .ok (.iaload, 1) := by decide +kernel
theorem dX7_harbour_15 : decode cX7_harbour 15 = .ok (.ifCond .ge 9, 3) := by decide +kernel
theorem dX7_harbour_18 : decode cX7_harbour 18 = .ok (.aload_n 0, 1) := by decide +kernel
theorem dX7_harbour_19 : decode cX7_harbour 19 = .ok (.iconst 1, 1) := by decide +kernel
theorem dX7_harbour_20 : decode cX7_harbour 20 = .ok (.invokevirtual 72, 3) := by decide +kernel
theorem dX7_harbour_23 : decode cX7_harbour 23 = .ok (.ireturn, 1) := by decide +kernel
theorem dX7_harbour_24 : decode cX7_harbour 24 = .ok (.aload_n 0, 1) := by decide +kernel
theorem dX7_harbour_25 : decode cX7_harbour 25 = .ok (.iload_n 1, 1) := by decide +kernel
theorem dX7_harbour_26 : decode cX7_harbour 26 = .ok (.invokevirtual 119, 3) := by decide +kernel
theorem dX7_harbour_29 : decode cX7_harbour 29 = .ok (.bipush (-9), 2) := by decide +kernel
theorem dX7_harbour_31 : decode cX7_harbour 31 = .ok (.if_icmp .eq 6, 3) := by decide +kernel
theorem dX7_harbour_34 : decode cX7_harbour 34 = .ok (.bipush (-4), 2) := by decide +kernel
theorem dX7_harbour_36 : decode cX7_harbour 36 = .ok (.ireturn, 1) := by decide +kernel
theorem dX7_harbour_37 : decode cX7_harbour 37 = .ok (.aload_n 0, 1) := by decide +kernel
theorem dX7_harbour_38 : decode cX7_harbour 38 = .ok (.getfield 28, 3) := by decide +kernel
theorem dX7_harbour_41 : decode cX7_harbour 41 = .ok (.iconst 0, 1) := by decide +kernel
theorem dX7_harbour_42 : decode cX7_harbour 42 = .ok (.aload_n 0, 1) := by decide +kernel
theorem dX7_harbour_43 : decode cX7_harbour 43 = .ok (.getfield 25, 3) := by decide +kernel
theorem dX7_harbour_46 : decode cX7_harbour 46 = .ok (.iconst 0, 1) := by decide +kernel
theorem dX7_harbour_47 : decode cX7_harbour 47 = .ok (.invokestatic 122, 3) := by decide +kernel
theorem dX7_harbour_50 : decode cX7_harbour 50 = .ok (.iconst 0, 1) := by decide +kernel
theorem dX7_harbour_51 : decode cX7_harbour 51 = .ok (.istore_n 2, 1) := by decide +kernel
theorem dX7_harbour_52 : decode cX7_harbour 52 = .ok (.iload_n 2, 1) := by decide +kernel
theorem dX7_harbour_53 : decode cX7_harbour 53 = .ok (.iconst 3, 1) := by decide +kernel
theorem dX7_harbour_54 : decode cX7_harbour 54 = .ok (.if_icmp .ge 16, 3) := by decide +kernel
theorem dX7_harbour_57 : decode cX7_harbour 57 = .ok (.aload_n 0, 1) := by decide +kernel
theorem dX7_harbour_58 : decode cX7_harbour 58 = .ok (.getfield 34, 3) := by decide +kernel
theorem dX7_harbour_61 : decode cX7_harbour 61 = .ok (.iload_n 2, 1) := by decide +kernel
theorem dX7_harbour_62 : decode cX7_harbour 62 = .ok (.iconst 0, 1) := by decide +kernel
theorem dX7_harbour_63 : decode cX7_harbour 63 = .ok (.bastore, 1) := by decide +kernel
theorem dX7_harbour_64 : decode cX7_harbour 64 = .ok (.iinc 2 1, 3) := by decide +kernel
theorem dX7_harbour_67 : decode cX7_harbour 67 = .ok (.goto (-15), 3) := by decide +kernel
theorem dX7_harbour_70 : decode cX7_harbour 70 = .ok (.aload_n 0, 1) := by decide +kernel
theorem dX7_harbour_71 : decode cX7_harbour 71 = .ok (.getfield 25, 3) := by decide +kernel
theorem dX7_harbour_74 : decode cX7_harbour 74 = .ok (.iconst 0, 1) := by decide +kernel
theorem dX7_harbour_75 : decode cX7_harbour 75 = .ok (.iaload, 1) := by decide +kernel
theorem dX7_harbour_76 : decode cX7_harbour 76 = .ok (.ireturn, 1) := by decide +kernel
theorem dX7_isShip_0 : decode cX7_isShip 0 = .ok (.iload_n 1, 1) := by decide +kernel
theorem dX7_isShip_1 : decode cX7_isShip 1 = .ok (.iconst 0, 1) := by decide +kernel
theorem dX7_isShip_2 : decode cX7_isShip 2 = .ok (.aload_n 0, 1) := by decide +kernel
theorem dX7_isShip_3 : decode cX7_isShip 3 = .ok (.getfield 25, 3) := by decide +kernel
theorem dX7_isShip_6 : decode cX7_isShip 6 = .ok (.iconst 0, 1) := by decide +kernel
theorem dX7_isShip_7 : decode cX7_isShip 7 = .ok (.iaload, 1) := by decide +kernel
theorem dX7_isShip_8 : decode cX7_isShip 8 = .ok (.iconst 1, 1) := by decide +kernel
theorem dX7_isShip_9 : decode cX7_isShip 9 = .ok (.isub, 1) := by decide +kernel
theorem dX7_isShip_10 : decode cX7_isShip 10 = .ok (.invokestatic 64, 3) := by decide +kernel
theorem dX7_isShip_13 : decode cX7_isShip 13 = .ok (.ireturn, 1) := by decide +kernel
theorem dX7_are_0 : decode cX7_are 0 = .ok (.aload_n 0, 1) := by decide +kernel
theorem dX7_are_1 : decode cX7_are 1 = .ok (.getfield 25, 3) := by decide +kernel
theorem dX7_are_4 : decode cX7_are 4 = .ok (.iconst 0, 1) := by decide +kernel
theorem dX7_are_5 : decode cX7_are 5 = .ok (.iaload, 1) := by decide +kernel
theorem dX7_are_6 : decode cX7_are 6 = .ok (.ifCond .le 7, 3) := by decide +kernel
theorem dX7_are_9 : decode cX7_are 9 = .ok (.iconst 1, 1) := by decide +kernel
theorem dX7_are_10 : decode cX7_are 10 = .ok (.goto 4, 3) := by decide +kernel
theorem dX7_are_13 : decode cX7_are 13 = .ok (.iconst 0, 1) := by decide +kernel
theorem dX7_are_14 : decode cX7_are 14 = .ok (.ireturn, 1) := by decide +kernel
theorem dX7_of_0 : decode cX7_of 0 = .ok (.aload_n 0, 1) := by decide +kernel
theorem dX7_of_1 : decode cX7_of 1 = .ok (.getfield 25, 3) := by decide +kernel
theorem dX7_of_4 : decode cX7_of 4 = .ok (.bipush 7, 2) := by decide +kernel
theorem dX7_of_6 : decode cX7_of 6 = .ok (.bipush 8, 2) := by decide +kernel
theorem dX7_of_8 : decode cX7_of 8 = .ok (.iload_n 1, 1) := by decide +kernel
theorem dX7_of_9 : decode cX7_of 9 = .ok (.imul, 1) := by decide +kernel
theorem dX7_of_10 : decode cX7_of 10 = .ok (.iadd, 1) := by decide +kernel
theorem dX7_of_11 : decode cX7_of 11 = .ok (.iload_n 2, 1) := by decide +kernel
theorem dX7_of_12 : decode cX7_of 12 = .ok (.iadd, 1) := by decide +kernel
theorem dX7_of_13 : decode cX7_of 13 = .ok (.iaload, 1) := by decide +kernel
theorem dX7_of_14 : decode cX7_of 14 = .ok (.ireturn, 1) := by decide +kernel
theorem dX7_aged_0 : decode cX7_aged 0 = .ok (.iload_n 1, 1) := by decide +kernel
theorem dX7_aged_1 : decode cX7_aged 1 = .ok (.iload_n 2, 1) := by decide +kernel
theorem dX7_aged_2 : decode cX7_aged 2 = .ok (.iadd, 1) := by decide +kernel
theorem dX7_aged_3 : decode cX7_aged 3 = .ok (.istore 4, 2) := by decide +kernel
theorem dX7_aged_5 : decode cX7_aged 5 = .ok (.iload 4, 2) := by decide +kernel
theorem dX7_aged_7 : decode cX7_aged 7 = .ok (.bipush 90, 2) := by decide +kernel
theorem dX7_aged_9 : decode cX7_aged 9 = .ok (.if_icmp .ge 8, 3) := by decide +kernel
theorem dX7_aged_12 : decode cX7_aged 12 = .ok (.bipush 90, 2) := by decide +kernel
theorem dX7_aged_14 : decode cX7_aged 14 = .ok (.goto 5, 3) := by decide +kernel
theorem dX7_aged_17 : decode cX7_aged 17 = .ok (.iload 4, 2) := by decide +kernel
theorem dX7_aged_19 : decode cX7_aged 19 = .ok (.istore 5, 2) := by decide +kernel
theorem dX7_aged_21 : decode cX7_aged 21 = .ok (.iload_n 0, 1) := by decide +kernel
theorem dX7_aged_22 : decode cX7_aged 22 = .ok (.tableswitch 67 1 5 #[34, 46, 52, 40, 55], 34) := by decide +kernel
theorem dX7_aged_56 : decode cX7_aged 56 = .ok (.iload 4, 2) := by decide +kernel
theorem dX7_aged_58 : decode cX7_aged 58 = .ok (.bipush 20, 2) := by decide +kernel
theorem dX7_aged_60 : decode cX7_aged 60 = .ok (.iadd, 1) := by decide +kernel
theorem dX7_aged_61 : decode cX7_aged 61 = .ok (.ireturn, 1) := by decide +kernel
theorem dX7_aged_62 : decode cX7_aged 62 = .ok (.iload 4, 2) := by decide +kernel
theorem dX7_aged_64 : decode cX7_aged 64 = .ok (.bipush 25, 2) := by decide +kernel
theorem dX7_aged_66 : decode cX7_aged 66 = .ok (.iadd, 1) := by decide +kernel
theorem dX7_aged_67 : decode cX7_aged 67 = .ok (.ireturn, 1) := by decide +kernel
theorem dX7_aged_68 : decode cX7_aged 68 = .ok (.iload_n 1, 1) := by decide +kernel
theorem dX7_aged_69 : decode cX7_aged 69 = .ok (.iconst 2, 1) := by decide +kernel
theorem dX7_aged_70 : decode cX7_aged 70 = .ok (.idiv, 1) := by decide +kernel
theorem dX7_aged_71 : decode cX7_aged 71 = .ok (.iload_n 2, 1) := by decide +kernel
theorem dX7_aged_72 : decode cX7_aged 72 = .ok (.iadd, 1) := by decide +kernel
theorem dX7_aged_73 : decode cX7_aged 73 = .ok (.ireturn, 1) := by decide +kernel
theorem dX7_aged_74 : decode cX7_aged 74 = .ok (.iload 5, 2) := by decide +kernel
theorem dX7_aged_76 : decode cX7_aged 76 = .ok (.ireturn, 1) := by decide +kernel
theorem dX7_aged_77 : decode cX7_aged 77 = .ok (.iload_n 3, 1) := by decide +kernel
theorem dX7_aged_78 : decode cX7_aged 78 = .ok (.iconst 1, 1) := by decide +kernel
theorem dX7_aged_79 : decode cX7_aged 79 = .ok (.if_icmp .ne 8, 3) := by decide +kernel
theorem dX7_aged_82 : decode cX7_aged 82 = .ok (.iload 5, 2) := by decide +kernel
theorem dX7_aged_84 : decode cX7_aged 84 = .ok (.goto 4, 3) := by decide +kernel
theorem dX7_aged_87 : decode cX7_aged 87 = .ok (.iconst 0, 1) := by decide +kernel
theorem dX7_aged_88 : decode cX7_aged 88 = .ok (.ireturn, 1) := by decide +kernel
theorem dX7_aged_89 : decode cX7_aged 89 = .ok (.iload 4, 2) := by decide +kernel
theorem dX7_aged_91 : decode cX7_aged 91 = .ok (.ireturn, 1) := by decide +kernel
theorem dX7_oldIn_0 : decode cX7_oldIn 0 = .ok (.iload_n 0, 1) := by decide +kernel
theorem dX7_oldIn_1 : decode cX7_oldIn 1 = .ok (.iload_n 1, 1) := by decide +kernel
theorem dX7_oldIn_2 : decode cX7_oldIn 2 = .ok (.if_icmp .le 9, 3) := by decide +kernel
theorem dX7_oldIn_5 : decode cX7_oldIn 5 = .ok (.iload_n 0, 1) := by decide +kernel
theorem dX7_oldIn_6 : decode cX7_oldIn 6 = .ok (.iload_n 1, 1) := by decide +kernel
theorem dX7_oldIn_7 : decode cX7_oldIn 7 = .ok (.isub, 1) := by decide +kernel
theorem dX7_oldIn_8 : decode cX7_oldIn 8 = .ok (.goto 4, 3) := by decide +kernel
theorem dX7_oldIn_11 : decode cX7_oldIn 11 = .ok (.iconst 0, 1) := by decide +kernel
theorem dX7_oldIn_12 : decode cX7_oldIn 12 = .ok (.ireturn, 1) := by decide +kernel
theorem dX7_ageIn_0 : decode cX7_ageIn 0 = .ok (.aload_n 0, 1) := by decide +kernel
theorem dX7_ageIn_1 : decode cX7_ageIn 1 = .ok (.iload_n 1, 1) := by decide +kernel
theorem dX7_ageIn_2 : decode cX7_ageIn 2 = .ok (.iconst 0, 1) := by decide +kernel
theorem dX7_ageIn_3 : decode cX7_ageIn 3 = .ok (.invokevirtual 126, 3) := by decide +kernel
theorem dX7_ageIn_6 : decode cX7_ageIn 6 = .ok (.iload_n 2, 1) := by decide +kernel
theorem dX7_ageIn_7 : decode cX7_ageIn 7 = .ok (.aload_n 0, 1) := by decide +kernel
theorem dX7_ageIn_8 : decode cX7_ageIn 8 = .ok (.iload_n 1, 1) := by decide +kernel
theorem dX7_ageIn_9 : decode cX7_ageIn 9 = .ok (.iconst 1, 1) := by decide +kernel
theorem dX7_ageIn_10 : decode cX7_ageIn 10 = .ok (.invokevirtual 126, 3) := by decide +kernel
theorem dX7_ageIn_13 : decode cX7_ageIn 13 = .ok (.invokestatic 129, 3) := by decide +kernel
theorem dX7_ageIn_16 : decode cX7_ageIn 16 = .ok (.aload_n 0, 1) := by decide +kernel
theorem dX7_ageIn_17 : decode cX7_ageIn 17 = .ok (.iload_n 1, 1) := by decide +kernel
theorem dX7_ageIn_18 : decode cX7_ageIn 18 = .ok (.iconst 5, 1) := by decide +kernel
theorem dX7_ageIn_19 : decode cX7_ageIn 19 = .ok (.invokevirtual 126, 3) := by decide +kernel
theorem dX7_ageIn_22 : decode cX7_ageIn 22 = .ok (.aload_n 0, 1) := by decide +kernel
theorem dX7_ageIn_23 : decode cX7_ageIn 23 = .ok (.iload_n 1, 1) := by decide +kernel
theorem dX7_ageIn_24 : decode cX7_ageIn 24 = .ok (.bipush 6, 2) := by decide +kernel
theorem dX7_ageIn_26 : decode cX7_ageIn 26 = .ok (.invokevirtual 126, 3) := by decide +kernel
theorem dX7_ageIn_29 : decode cX7_ageIn 29 = .ok (.invokestatic 132, 3) := by decide +kernel
theorem dX7_ageIn_32 : decode cX7_ageIn 32 = .ok (.ireturn, 1) := by decide +kernel
theorem dX7_ageNow_0 : decode cX7_ageNow 0 = .ok (.aload_n 0, 1) := by decide +kernel
theorem dX7_ageNow_1 : decode cX7_ageNow 1 = .ok (.iload_n 1, 1) := by decide +kernel
theorem dX7_ageNow_2 : decode cX7_ageNow 2 = .ok (.aload_n 0, 1) := by decide +kernel
theorem dX7_ageNow_3 : decode cX7_ageNow 3 = .ok (.getfield 25, 3) := by decide +kernel
theorem dX7_ageNow_6 : decode cX7_ageNow 6 = .ok (.iconst 1, 1) := by decide +kernel
theorem dX7_ageNow_7 : decode cX7_ageNow 7 = .ok (.iaload, 1) := by decide +kernel
theorem dX7_ageNow_8 : decode cX7_ageNow 8 = .ok (.invokevirtual 136, 3) := by decide +kernel
theorem dX7_ageNow_11 : decode cX7_ageNow 11 = .ok (.ireturn, 1) := by decide +kernel
theorem dX7_isAheadBy_0 : decode cX7_isAheadBy 0 = .ok (.iload_n 2, 1) := by decide +kernel
theorem dX7_isAheadBy_1 : decode cX7_isAheadBy 1 = .ok (.iload 4, 2) := by decide +kernel
theorem dX7_isAheadBy_3 : decode cX7_isAheadBy 3 = .ok (.if_icmp .eq 15, 3) := by decide +kernel
theorem dX7_isAheadBy_6 : decode cX7_isAheadBy 6 = .ok (.iload_n 2, 1) := by decide +kernel
theorem dX7_isAheadBy_7 : decode cX7_isAheadBy 7 = .ok (.iload 4, 2) := by decide +kernel
theorem dX7_isAheadBy_9 : decode cX7_isAheadBy 9 = .ok (.if_icmp .le 7, 3) := by decide +kernel
theorem dX7_isAheadBy_12 : decode cX7_isAheadBy 12 = .ok (.iconst 1, 1) := by decide +kernel
theorem dX7_isAheadBy_13 : decode cX7_isAheadBy 13 = .ok (.goto 4, 3) := by decide +kernel
theorem dX7_isAheadBy_16 : decode cX7_isAheadBy 16 = .ok (.iconst 0, 1) := by decide +kernel
theorem dX7_isAheadBy_17 : decode cX7_isAheadBy 17 = .ok (.ireturn, 1) := by decide +kernel
theorem dX7_isAheadBy_18 : decode cX7_isAheadBy 18 = .ok (.aload_n 0, 1) := by decide +kernel
theorem dX7_isAheadBy_19 : decode cX7_isAheadBy 19 = .ok (.iload_n 1, 1) := by decide +kernel
theorem dX7_isAheadBy_20 : decode cX7_isAheadBy 20 = .ok (.iconst 2, 1) := by decide +kernel
theorem dX7_isAheadBy_21 : decode cX7_isAheadBy 21 = .ok (.invokevirtual 126, 3) := by decide +kernel
theorem dX7_isAheadBy_24 : decode cX7_isAheadBy 24 = .ok (.aload_n 0, 1) := by decide +kernel
theorem dX7_isAheadBy_25 : decode cX7_isAheadBy 25 = .ok (.iload_n 3, 1) := by decide +kernel
theorem dX7_isAheadBy_26 : decode cX7_isAheadBy 26 = .ok (.iconst 2, 1) := by decide +kernel
theorem dX7_isAheadBy_27 : decode cX7_isAheadBy 27 = .ok (.invokevirtual 126, 3) := by decide +kernel
theorem dX7_isAheadBy_30 : decode cX7_isAheadBy 30 = .ok (.isub, 1) := by decide +kernel
theorem dX7_isAheadBy_31 : decode cX7_isAheadBy 31 = .ok (.istore 5, 2) := by decide +kernel
theorem dX7_isAheadBy_33 : decode cX7_isAheadBy 33 = .ok (.aload_n 0, 1) := by decide +kernel
theorem dX7_isAheadBy_34 : decode cX7_isAheadBy 34 = .ok (.iload_n 1, 1) := by decide +kernel
theorem dX7_isAheadBy_35 : decode cX7_isAheadBy 35 = .ok (.iconst 3, 1) := by decide +kernel
theorem dX7_isAheadBy_36 : decode cX7_isAheadBy 36 = .ok (.invokevirtual 126, 3) := by decide +kernel
theorem dX7_isAheadBy_39 : decode cX7_isAheadBy 39 = .ok (.aload_n 0, 1) := by decide +kernel
theorem dX7_isAheadBy_40 : decode cX7_isAheadBy 40 = .ok (.iload_n 3, 1) := by decide +kernel
theorem dX7_isAheadBy_41 : decode cX7_isAheadBy 41 = .ok (.iconst 3, 1) := by decide +kernel
theorem dX7_isAheadBy_42 : decode cX7_isAheadBy 42 = .ok (.invokevirtual 126, 3) := by decide +kernel
theorem dX7_isAheadBy_45 : decode cX7_isAheadBy 45 = .ok (.isub, 1) := by decide +kernel
theorem dX7_isAheadBy_46 : decode cX7_isAheadBy 46 = .ok (.istore 6, 2) := by decide +kernel
theorem dX7_isAheadBy_48 : decode cX7_isAheadBy 48 = .ok (.iload 5, 2) := by decide +kernel
theorem dX7_isAheadBy_50 : decode cX7_isAheadBy 50 = .ok (.ifCond .eq 16, 3) := by decide +kernel
theorem dX7_isAheadBy_53 : decode cX7_isAheadBy 53 = .ok (.iload 5, 2) := by decide +kernel
theorem dX7_isAheadBy_55 : decode cX7_isAheadBy 55 = .ok (.ifCond .le 7, 3) := by decide +kernel
theorem dX7_isAheadBy_58 : decode cX7_isAheadBy 58 = .ok (.iconst 1, 1) := by decide +kernel
theorem dX7_isAheadBy_59 : decode cX7_isAheadBy 59 = .ok (.goto 35, 3) := by decide +kernel
theorem dX7_isAheadBy_62 : decode cX7_isAheadBy 62 = .ok (.iconst 0, 1) := by decide +kernel
theorem dX7_isAheadBy_63 : decode cX7_isAheadBy 63 = .ok (.goto 31, 3) := by decide +kernel
theorem dX7_isAheadBy_66 : decode cX7_isAheadBy 66 = .ok (.iload 6, 2) := by decide +kernel
theorem dX7_isAheadBy_68 : decode cX7_isAheadBy 68 = .ok (.ifCond .eq 16, 3) := by decide +kernel
theorem dX7_isAheadBy_71 : decode cX7_isAheadBy 71 = .ok (.iload 6, 2) := by decide +kernel
theorem dX7_isAheadBy_73 : decode cX7_isAheadBy 73 = .ok (.ifCond .le 7, 3) := by decide +kernel
theorem dX7_isAheadBy_76 : decode cX7_isAheadBy 76 = .ok (.iconst 1, 1) := by decide +kernel
theorem dX7_isAheadBy_77 : decode cX7_isAheadBy 77 = .ok (.goto 17, 3) := by decide +kernel
theorem dX7_isAheadBy_80 : decode cX7_isAheadBy 80 = .ok (.iconst 0, 1) := by decide +kernel
theorem dX7_isAheadBy_81 : decode cX7_isAheadBy 81 = .ok (.goto 13, 3) := by decide +kernel
theorem dX7_isAheadBy_84 : decode cX7_isAheadBy 84 = .ok (.iload_n 1, 1) := by decide +kernel
theorem dX7_isAheadBy_85 : decode cX7_isAheadBy 85 = .ok (.iload_n 3, 1) := by decide +kernel
theorem dX7_isAheadBy_86 : decode cX7_isAheadBy 86 = .ok (.if_icmp .ge 7, 3) := by decide +kernel
theorem dX7_isAheadBy_89 : decode cX7_isAheadBy 89 = .ok (.iconst 1, 1) := by decide +kernel
theorem dX7_isAheadBy_90 : decode cX7_isAheadBy 90 = .ok (.goto 4, 3) := by decide +kernel
theorem dX7_isAheadBy_93 : decode cX7_isAheadBy 93 = .ok (.iconst 0, 1) := by decide +kernel
theorem dX7_isAheadBy_94 : decode cX7_isAheadBy 94 = .ok (.ireturn, 1) := by decide +kernel
theorem dX7_isAhead_0 : decode cX7_isAhead 0 = .ok (.aload_n 0, 1) := by decide +kernel
theorem dX7_isAhead_1 : decode cX7_isAhead 1 = .ok (.iload_n 1, 1) := by decide +kernel
theorem dX7_isAhead_2 : decode cX7_isAhead 2 = .ok (.aload_n 0, 1) := by decide +kernel
theorem dX7_isAhead_3 : decode cX7_isAhead 3 = .ok (.iload_n 1, 1) := by decide +kernel
theorem dX7_isAhead_4 : decode cX7_isAhead 4 = .ok (.invokevirtual 139, 3) := by decide +kernel
theorem dX7_isAhead_7 : decode cX7_isAhead 7 = .ok (.iload_n 2, 1) := by decide +kernel
theorem dX7_isAhead_8 : decode cX7_isAhead 8 = .ok (.aload_n 0, 1) := by decide +kernel
theorem dX7_isAhead_9 : decode cX7_isAhead 9 = .ok (.iload_n 2, 1) := by decide +kernel
theorem dX7_isAhead_10 : decode cX7_isAhead 10 = .ok (.invokevirtual 139, 3) := by decide +kernel
theorem dX7_isAhead_13 : decode cX7_isAhead 13 = .ok (.invokevirtual 142, 3) := by decide +kernel
theorem dX7_isAhead_16 : decode cX7_isAhead 16 = .ok (.ireturn, 1) := by decide +kernel
theorem dX7_berthBy_0 : decode cX7_berthBy 0 = .ok (.iconst 0, 1) := by decide +kernel
theorem dX7_berthBy_1 : decode cX7_berthBy 1 = .ok (.istore 5, 2) := by decide +kernel
theorem dX7_berthBy_3 : decode cX7_berthBy 3 = .ok (.iconst 0, 1) := by decide +kernel
theorem dX7_berthBy_4 : decode cX7_berthBy 4 = .ok (.istore 6, 2) := by decide +kernel
theorem dX7_berthBy_6 : decode cX7_berthBy 6 = .ok (.iload 6, 2) := by decide +kernel
theorem dX7_berthBy_8 : decode cX7_berthBy 8 = .ok (.aload_n 0, 1) := by decide +kernel
theorem dX7_berthBy_9 : decode cX7_berthBy 9 = .ok (.getfield 25, 3) := by decide +kernel
theorem dX7_berthBy_12 : decode cX7_berthBy 12 = .ok (.iconst 0, 1) := by decide +kernel
theorem dX7_berthBy_13 : decode cX7_berthBy 13 = .ok (.iaload, 1) := by decide +kernel
theorem dX7_berthBy_14 : decode cX7_berthBy 14 = .ok (.if_icmp .ge 53, 3) := by decide +kernel
theorem dX7_berthBy_17 : decode cX7_berthBy 17 = .ok (.iload 5, 2) := by decide +kernel
theorem dX7_berthBy_19 : decode cX7_berthBy 19 = .ok (.iload 6, 2) := by decide +kernel
theorem dX7_berthBy_21 : decode cX7_berthBy 21 = .ok (.iload_n 1, 1) := by decide +kernel
theorem dX7_berthBy_22 : decode cX7_berthBy 22 = .ok (.if_icmp .eq 35, 3) := by decide +kernel
theorem dX7_berthBy_25 : decode cX7_berthBy 25 = .ok (.iload_n 3, 1) := by decide +kernel
theorem dX7_berthBy_26 : decode cX7_berthBy 26 = .ok (.iload 6, 2) := by decide +kernel
theorem dX7_berthBy_28 : decode cX7_berthBy 28 = .ok (.invokestatic 146, 3) := by decide +kernel
theorem dX7_berthBy_31 : decode cX7_berthBy 31 = .ok (.ifCond .eq 26, 3) := by decide +kernel
theorem dX7_berthBy_34 : decode cX7_berthBy 34 = .ok (.aload_n 0, 1) := by decide +kernel
theorem dX7_berthBy_35 : decode cX7_berthBy 35 = .ok (.iload 6, 2) := by decide +kernel
theorem dX7_berthBy_37 : decode cX7_berthBy 37 = .ok (.aload_n 0, 1) := by decide +kernel
theorem dX7_berthBy_38 : decode cX7_berthBy 38 = .ok (.iload 6, 2) := by decide +kernel
theorem dX7_berthBy_40 : decode cX7_berthBy 40 = .ok (.iload 4, 2) := by decide +kernel
theorem dX7_berthBy_42 : decode cX7_berthBy 42 = .ok (.invokevirtual 136, 3) := by decide +kernel
theorem dX7_berthBy_45 : decode cX7_berthBy 45 = .ok (.iload_n 1, 1) := by decide +kernel
theorem dX7_berthBy_46 : decode cX7_berthBy 46 = .ok (.iload_n 2, 1) := by decide +kernel
theorem dX7_berthBy_47 : decode cX7_berthBy 47 = .ok (.invokevirtual 142, 3) := by decide +kernel
theorem dX7_berthBy_50 : decode cX7_berthBy 50 = .ok (.ifCond .eq 7, 3) := by decide +kernel
theorem dX7_berthBy_53 : decode cX7_berthBy 53 = .ok (.iconst 1, 1) := by decide +kernel
theorem dX7_berthBy_54 : decode cX7_berthBy 54 = .ok (.goto 4, 3) := by decide +kernel
theorem dX7_berthBy_57 : decode cX7_berthBy 57 = .ok (.iconst 0, 1) := by decide +kernel
theorem dX7_berthBy_58 : decode cX7_berthBy 58 = .ok (.iadd, 1) := by decide +kernel
theorem dX7_berthBy_59 : decode cX7_berthBy 59 = .ok (.istore 5, 2) := by decide +kernel
theorem dX7_berthBy_61 : decode cX7_berthBy 61 = .ok (.iinc 6 1, 3) := by decide +kernel
theorem dX7_berthBy_64 : decode cX7_berthBy 64 = .ok (.goto (-58), 3) := by decide +kernel
theorem dX7_berthBy_67 : decode cX7_berthBy 67 = .ok (.iload 5, 2) := by decide +kernel
theorem dX7_berthBy_69 : decode cX7_berthBy 69 = .ok (.ireturn, 1) := by decide +kernel
theorem dX7_berthIn_0 : decode cX7_berthIn 0 = .ok (.aload_n 0, 1) := by decide +kernel
theorem dX7_berthIn_1 : decode cX7_berthIn 1 = .ok (.iload_n 1, 1) := by decide +kernel
theorem dX7_berthIn_2 : decode cX7_berthIn 2 = .ok (.aload_n 0, 1) := by decide +kernel
theorem dX7_berthIn_3 : decode cX7_berthIn 3 = .ok (.iload_n 1, 1) := by decide +kernel
theorem dX7_berthIn_4 : decode cX7_berthIn 4 = .ok (.invokevirtual 139, 3) := by decide +kernel
theorem dX7_berthIn_7 : decode cX7_berthIn 7 = .ok (.iload_n 2, 1) := by decide +kernel
theorem dX7_berthIn_8 : decode cX7_berthIn 8 = .ok (.aload_n 0, 1) := by decide +kernel
theorem dX7_berthIn_9 : decode cX7_berthIn 9 = .ok (.getfield 25, 3) := by decide +kernel
theorem dX7_berthIn_12 : decode cX7_berthIn 12 = .ok (.iconst 1, 1) := by decide +kernel
theorem dX7_berthIn_13 : decode cX7_berthIn 13 = .ok (.iaload, 1) := by decide +kernel
theorem dX7_berthIn_14 : decode cX7_berthIn 14 = .ok (.invokevirtual 150, 3) := by decide +kernel
theorem dX7_berthIn_17 : decode cX7_berthIn 17 = .ok (.ireturn, 1) := by decide +kernel
theorem dX7_shiftedBy_0 : decode cX7_shiftedBy 0 = .ok (.iload_n 2, 1) := by decide +kernel
theorem dX7_shiftedBy_1 : decode cX7_shiftedBy 1 = .ok (.iconst 1, 1) := by decide +kernel
theorem dX7_shiftedBy_2 : decode cX7_shiftedBy 2 = .ok (.iload_n 1, 1) := by decide +kernel
theorem dX7_shiftedBy_3 : decode cX7_shiftedBy 3 = .ok (.ishl, 1) := by decide +kernel
theorem dX7_shiftedBy_4 : decode cX7_shiftedBy 4 = .ok (.iconst (-1), 1) := by decide +kernel
theorem dX7_shiftedBy_5 : decode cX7_shiftedBy 5 = .ok (.ixor, 1) := by decide +kernel
theorem dX7_shiftedBy_6 : decode cX7_shiftedBy 6 = .ok (.iand, 1) := by decide +kernel
theorem dX7_shiftedBy_7 : decode cX7_shiftedBy 7 = .ok (.invokestatic 153, 3) := by decide +kernel
theorem dX7_shiftedBy_10 : decode cX7_shiftedBy 10 = .ok (.aload_n 0, 1) := by decide +kernel
theorem dX7_shiftedBy_11 : decode cX7_shiftedBy 11 = .ok (.iload_n 1, 1) := by decide +kernel
theorem dX7_shiftedBy_12 : decode cX7_shiftedBy 12 = .ok (.iload_n 2, 1) := by decide +kernel
theorem dX7_shiftedBy_13 : decode cX7_shiftedBy 13 = .ok (.invokevirtual 156, 3) := by decide +kernel
theorem dX7_shiftedBy_16 : decode cX7_shiftedBy 16 = .ok (.isub, 1) := by decide +kernel
theorem dX7_shiftedBy_17 : decode cX7_shiftedBy 17 = .ok (.ireturn, 1) := by decide +kernel
theorem dX7_shipHas_0 : decode cX7_shipHas 0 = .ok (.iload_n 2, 1) := by decide +kernel
theorem dX7_shipHas_1 : decode cX7_shipHas 1 = .ok (.bipush 6, 2) := by decide +kernel
theorem dX7_shipHas_3 : decode cX7_shipHas 3 = .ok (.if_icmp .ge 10, 3) := by decide +kernel
theorem dX7_shipHas_6 : decode cX7_shipHas 6 = .ok (.aload_n 0, 1) := by decide +kernel
theorem dX7_shipHas_7 : decode cX7_shipHas 7 = .ok (.iload_n 1, 1) := by decide +kernel
theorem dX7_shipHas_8 : decode cX7_shipHas 8 = .ok (.iload_n 2, 1) := by decide +kernel
theorem dX7_shipHas_9 : decode cX7_shipHas 9 = .ok (.invokevirtual 126, 3) := by decide +kernel
theorem dX7_shipHas_12 : decode cX7_shipHas 12 = .ok (.ireturn, 1) := by decide +kernel
theorem dX7_shipHas_13 : decode cX7_shipHas 13 = .ok (.iload_n 2, 1) := by decide +kernel
theorem dX7_shipHas_14 : decode cX7_shipHas 14 = .ok (.bipush 6, 2) := by decide +kernel
theorem dX7_shipHas_16 : decode cX7_shipHas 16 = .ok (.if_icmp .ne 11, 3) := by decide +kernel
theorem dX7_shipHas_19 : decode cX7_shipHas 19 = .ok (.aload_n 0, 1) := by decide +kernel
theorem dX7_shipHas_20 : decode cX7_shipHas 20 = .ok (.iload_n 1, 1) := by decide +kernel
theorem dX7_shipHas_21 : decode cX7_shipHas 21 = .ok (.invokevirtual 139, 3) := by decide +kernel
theorem dX7_shipHas_24 : decode cX7_shipHas 24 = .ok (.goto 48, 3) := by decide +kernel
theorem dX7_shipHas_27 : decode cX7_shipHas 27 = .ok (.iload_n 2, 1) := by decide +kernel
theorem dX7_shipHas_28 : decode cX7_shipHas 28 = .ok (.bipush 7, 2) := by decide +kernel
theorem dX7_shipHas_30 : decode cX7_shipHas 30 = .ok (.if_icmp .ne 35, 3) := by decide +kernel
theorem dX7_shipHas_33 : decode cX7_shipHas 33 = .ok (.aload_n 0, 1) := by decide +kernel
theorem dX7_shipHas_34 : decode cX7_shipHas 34 = .ok (.getfield 25, 3) := by decide +kernel
theorem dX7_shipHas_37 : decode cX7_shipHas 37 = .ok (.iconst 5, 1) := by decide +kernel
theorem dX7_shipHas_38 : decode cX7_shipHas 38 = .ok (.iaload, 1) := by decide +kernel
theorem dX7_shipHas_39 : decode cX7_shipHas 39 = .ok (.iload_n 1, 1) := by decide +kernel
theorem dX7_shipHas_40 : decode cX7_shipHas 40 = .ok (.invokestatic 146, 3) := by decide +kernel
theorem dX7_shipHas_43 : decode cX7_shipHas 43 = .ok (.ifCond .eq 17, 3) := by decide +kernel
theorem dX7_shipHas_46 : decode cX7_shipHas 46 = .ok (.aload_n 0, 1) := by decide +kernel
theorem dX7_shipHas_47 : decode cX7_shipHas 47 = .ok (.iload_n 1, 1) := by decide +kernel
theorem dX7_shipHas_48 : decode cX7_shipHas 48 = .ok (.aload_n 0, 1) := by decide +kernel
theorem dX7_shipHas_49 : decode cX7_shipHas 49 = .ok (.getfield 25, 3) := by decide +kernel
theorem dX7_shipHas_52 : decode cX7_shipHas 52 = .ok (.iconst 5, 1) := by decide +kernel
theorem dX7_shipHas_53 : decode cX7_shipHas 53 = .ok (.iaload, 1) := by decide +kernel
theorem dX7_shipHas_54 : decode cX7_shipHas 54 = .ok (.invokevirtual 156, 3) := by decide +kernel
theorem dX7_shipHas_57 : decode cX7_shipHas 57 = .ok (.goto 15, 3) := by decide +kernel
theorem dX7_shipHas_60 : decode cX7_shipHas 60 = .ok (.bipush (-9), 2) := by decide +kernel
theorem dX7_shipHas_62 : decode cX7_shipHas 62 = .ok (.goto 10, 3) := by decide +kernel
theorem dX7_shipHas_65 : decode cX7_shipHas 65 = .ok (.aload_n 0, 1) := by decide +kernel
theorem dX7_shipHas_66 : decode cX7_shipHas 66 = .ok (.iload_n 1, 1) := by decide +kernel
theorem dX7_shipHas_67 : decode cX7_shipHas 67 = .ok (.bipush 7, 2) := by decide +kernel
theorem dX7_shipHas_69 : decode cX7_shipHas 69 = .ok (.invokevirtual 126, 3) := by decide +kernel
theorem dX7_shipHas_72 : decode cX7_shipHas 72 = .ok (.ireturn, 1) := by decide +kernel
theorem dX7_ship_0 : decode cX7_ship 0 = .ok (.aload_n 0, 1) := by decide +kernel
theorem dX7_ship_1 : decode cX7_ship 1 = .ok (.iload_n 1, 1) := by decide +kernel
theorem dX7_ship_2 : decode cX7_ship 2 = .ok (.invokevirtual 159, 3) := by decide +kernel
theorem dX7_ship_5 : decode cX7_ship 5 = .ok (.ifCond .eq 27, 3) := by decide +kernel
theorem dX7_ship_8 : decode cX7_ship 8 = .ok (.iload_n 2, 1) := by decide +kernel
theorem dX7_ship_9 : decode cX7_ship 9 = .ok (.iconst 0, 1) := by decide +kernel
theorem dX7_ship_10 : decode cX7_ship 10 = .ok (.bipush 8, 2) := by decide +kernel
theorem dX7_ship_12 : decode cX7_ship 12 = .ok (.invokestatic 64, 3) := by decide +kernel
theorem dX7_ship_15 : decode cX7_ship 15 = .ok (.ifCond .eq 17, 3) := by decide +kernel
theorem dX7_ship_18 : decode cX7_ship 18 = .ok (.aload_n 0, 1) := by decide +kernel
theorem dX7_ship_19 : decode cX7_ship 19 = .ok (.iconst 1, 1) := by decide +kernel
theorem dX7_ship_20 : decode cX7_ship 20 = .ok (.aload_n 0, 1) := by decide +kernel
theorem dX7_ship_21 : decode cX7_ship 21 = .ok (.iload_n 1, 1) := by decide +kernel
theorem dX7_ship_22 : decode cX7_ship 22 = .ok (.iload_n 2, 1) := by decide +kernel
theorem dX7_ship_23 : decode cX7_ship 23 = .ok (.invokevirtual 162, 3) := by decide +kernel
theorem dX7_ship_26 : decode cX7_ship 26 = .ok (.invokevirtual 84, 3) := by decide +kernel
theorem dX7_ship_29 : decode cX7_ship 29 = .ok (.goto 4, 3) := by decide +kernel
theorem dX7_ship_32 : decode cX7_ship 32 = .ok (.iconst (-1), 1) := by decide +kernel
theorem dX7_ship_33 : decode cX7_ship 33 = .ok (.ireturn, 1) := by decide +kernel
theorem dX7_isOf_0 : decode cX7_isOf 0 = .ok (.iload_n 0, 1) := by decide +kernel
theorem dX7_isOf_1 : decode cX7_isOf 1 = .ok (.iload_n 1, 1) := by decide +kernel
theorem dX7_isOf_2 : decode cX7_isOf 2 = .ok (.if_icmp .eq 23, 3) := by decide +kernel
theorem dX7_isOf_5 : decode cX7_isOf 5 = .ok (.iload_n 0, 1) := by decide +kernel
theorem dX7_isOf_6 : decode cX7_isOf 6 = .ok (.iconst 4, 1) := by decide +kernel
theorem dX7_isOf_7 : decode cX7_isOf 7 = .ok (.if_icmp .ne 8, 3) := by decide +kernel
theorem dX7_isOf_10 : decode cX7_isOf 10 = .ok (.iload_n 1, 1) := by decide +kernel
theorem dX7_isOf_11 : decode cX7_isOf 11 = .ok (.iconst 1, 1) := by decide +kernel
theorem dX7_isOf_12 : decode cX7_isOf 12 = .ok (.if_icmp .eq 13, 3) := by decide +kernel
theorem dX7_isOf_15 : decode cX7_isOf 15 = .ok (.iload_n 0, 1) := by decide +kernel
theorem dX7_isOf_16 : decode cX7_isOf 16 = .ok (.iconst 5, 1) := by decide +kernel
theorem dX7_isOf_17 : decode cX7_isOf 17 = .ok (.if_icmp .ne 12, 3) := by decide +kernel
theorem dX7_isOf_20 : decode cX7_isOf 20 = .ok (.iload_n 1, 1) := by decide +kernel
theorem dX7_isOf_21 : decode cX7_isOf 21 = .ok (.iconst 3, 1) := by decide +kernel
theorem dX7_isOf_22 : decode cX7_isOf 22 = .ok (.if_icmp .ne 7, 3) := by decide +kernel
theorem dX7_isOf_25 : decode cX7_isOf 25 = .ok (.iconst 1, 1) := by decide +kernel
theorem dX7_isOf_26 : decode cX7_isOf 26 = .ok (.goto 4, 3) := by decide +kernel
theorem dX7_isOf_29 : decode cX7_isOf 29 = .ok (.iconst 0, 1) := by decide +kernel
theorem dX7_isOf_30 : decode cX7_isOf 30 = .ok (.ireturn, 1) := by decide +kernel
theorem dX7_markOf_0 : decode cX7_markOf 0 = .ok (.aload_n 0, 1) := by decide +kernel
theorem dX7_markOf_1 : decode cX7_markOf 1 = .ok (.iload_n 1, 1) := by decide +kernel
theorem dX7_markOf_2 : decode cX7_markOf 2 = .ok (.invokevirtual 139, 3) := by decide +kernel
theorem dX7_markOf_5 : decode cX7_markOf 5 = .ok (.istore_n 3, 1) := by decide +kernel
theorem dX7_markOf_6 : decode cX7_markOf 6 = .ok (.aload_n 0, 1) := by decide +kernel
theorem dX7_markOf_7 : decode cX7_markOf 7 = .ok (.getfield 25, 3) := by decide +kernel
theorem dX7_markOf_10 : decode cX7_markOf 10 = .ok (.iconst 1, 1) := by decide +kernel
theorem dX7_markOf_11 : decode cX7_markOf 11 = .ok (.iaload, 1) := by decide +kernel
theorem dX7_markOf_12 : decode cX7_markOf 12 = .ok (.aload_n 0, 1) := by decide +kernel
theorem dX7_markOf_13 : decode cX7_markOf 13 = .ok (.iload_n 1, 1) := by decide +kernel
theorem dX7_markOf_14 : decode cX7_markOf 14 = .ok (.iconst 1, 1) := by decide +kernel
theorem dX7_markOf_15 : decode cX7_markOf 15 = .ok (.invokevirtual 126, 3) := by decide +kernel
theorem dX7_markOf_18 : decode cX7_markOf 18 = .ok (.invokestatic 129, 3) := by decide +kernel
theorem dX7_markOf_21 : decode cX7_markOf 21 = .ok (.istore 4, 2) := by decide +kernel
theorem dX7_markOf_23 : decode cX7_markOf 23 = .ok (.iconst 0, 1) := by decide +kernel
theorem dX7_markOf_24 : decode cX7_markOf 24 = .ok (.istore 5, 2) := by decide +kernel
theorem dX7_markOf_26 : decode cX7_markOf 26 = .ok (.iload_n 2, 1) := by decide +kernel
theorem dX7_markOf_27 : decode cX7_markOf 27 = .ok (.tableswitch 114 1 5 #[33, 45, 65, 114, 57], 33) := by decide +kernel
theorem dX7_markOf_60 : decode cX7_markOf 60 = .ok (.iload_n 3, 1) := by decide +kernel
theorem dX7_markOf_61 : decode cX7_markOf 61 = .ok (.iload 4, 2) := by decide +kernel
theorem dX7_markOf_63 : decode cX7_markOf 63 = .ok (.isub, 1) := by decide +kernel
theorem dX7_markOf_64 : decode cX7_markOf 64 = .ok (.aload_n 0, 1) := by decide +kernel
theorem dX7_markOf_65 : decode cX7_markOf 65 = .ok (.iload_n 1, 1) := by decide +kernel
theorem dX7_markOf_66 : decode cX7_markOf 66 = .ok (.iconst 5, 1) := by decide +kernel
theorem dX7_markOf_67 : decode cX7_markOf 67 = .ok (.invokevirtual 126, 3) := by decide +kernel
theorem dX7_markOf_70 : decode cX7_markOf 70 = .ok (.isub, 1) := by decide +kernel
theorem dX7_markOf_71 : decode cX7_markOf 71 = .ok (.ireturn, 1) := by decide +kernel
theorem dX7_markOf_72 : decode cX7_markOf 72 = .ok (.iload 4, 2) := by decide +kernel
theorem dX7_markOf_74 : decode cX7_markOf 74 = .ok (.aload_n 0, 1) := by decide +kernel
theorem dX7_markOf_75 : decode cX7_markOf 75 = .ok (.iload_n 1, 1) := by decide +kernel
theorem dX7_markOf_76 : decode cX7_markOf 76 = .ok (.iconst 5, 1) := by decide +kernel
theorem dX7_markOf_77 : decode cX7_markOf 77 = .ok (.invokevirtual 126, 3) := by decide +kernel
theorem dX7_markOf_80 : decode cX7_markOf 80 = .ok (.iadd, 1) := by decide +kernel
theorem dX7_markOf_81 : decode cX7_markOf 81 = .ok (.iload_n 3, 1) := by decide +kernel
theorem dX7_markOf_82 : decode cX7_markOf 82 = .ok (.isub, 1) := by decide +kernel
theorem dX7_markOf_83 : decode cX7_markOf 83 = .ok (.ireturn, 1) := by decide +kernel
theorem dX7_markOf_84 : decode cX7_markOf 84 = .ok (.aload_n 0, 1) := by decide +kernel
theorem dX7_markOf_85 : decode cX7_markOf 85 = .ok (.iload_n 1, 1) := by decide +kernel
theorem dX7_markOf_86 : decode cX7_markOf 86 = .ok (.bipush 6, 2) := by decide +kernel
theorem dX7_markOf_88 : decode cX7_markOf 88 = .ok (.invokevirtual 126, 3) := by decide +kernel
theorem dX7_markOf_91 : decode cX7_markOf 91 = .ok (.ireturn, 1) := by decide +kernel
theorem dX7_markOf_92 : decode cX7_markOf 92 = .ok (.iconst 0, 1) := by decide +kernel
theorem dX7_markOf_93 : decode cX7_markOf 93 = .ok (.istore 6, 2) := by decide +kernel
theorem dX7_markOf_95 : decode cX7_markOf 95 = .ok (.iload 6, 2) := by decide +kernel
theorem dX7_markOf_97 : decode cX7_markOf 97 = .ok (.aload_n 0, 1) := by decide +kernel
theorem dX7_markOf_98 : decode cX7_markOf 98 = .ok (.getfield 25, 3) := by decide +kernel
theorem dX7_markOf_101 : decode cX7_markOf 101 = .ok (.iconst 0, 1) := by decide +kernel
theorem dX7_markOf_102 : decode cX7_markOf 102 = .ok (.iaload, 1) := by decide +kernel
theorem dX7_markOf_103 : decode cX7_markOf 103 = .ok (.if_icmp .ge 35, 3) := by decide +kernel
theorem dX7_markOf_106 : decode cX7_markOf 106 = .ok (.iload 5, 2) := by decide +kernel
theorem dX7_markOf_108 : decode cX7_markOf 108 = .ok (.iload 6, 2) := by decide +kernel
theorem dX7_markOf_110 : decode cX7_markOf 110 = .ok (.iload_n 1, 1) := by decide +kernel
theorem dX7_markOf_111 : decode cX7_markOf 111 = .ok (.if_icmp .eq 17, 3) := by decide +kernel
theorem dX7_markOf_114 : decode cX7_markOf 114 = .ok (.aload_n 0, 1) := by decide +kernel
theorem dX7_markOf_115 : decode cX7_markOf 115 = .ok (.iload 6, 2) := by decide +kernel
theorem dX7_markOf_117 : decode cX7_markOf 117 = .ok (.iload_n 1, 1) := by decide +kernel
theorem dX7_markOf_118 : decode cX7_markOf 118 = .ok (.invokevirtual 165, 3) := by decide +kernel
theorem dX7_markOf_121 : decode cX7_markOf 121 = .ok (.ifCond .eq 7, 3) := by decide +kernel
theorem dX7_markOf_124 : decode cX7_markOf 124 = .ok (.iconst 1, 1) := by decide +kernel
theorem dX7_markOf_125 : decode cX7_markOf 125 = .ok (.goto 4, 3) := by decide +kernel
theorem dX7_markOf_128 : decode cX7_markOf 128 = .ok (.iconst 0, 1) := by decide +kernel
theorem dX7_markOf_129 : decode cX7_markOf 129 = .ok (.iadd, 1) := by decide +kernel
theorem dX7_markOf_130 : decode cX7_markOf 130 = .ok (.istore 5, 2) := by decide +kernel
theorem dX7_markOf_132 : decode cX7_markOf 132 = .ok (.iinc 6 1, 3) := by decide +kernel
theorem dX7_markOf_135 : decode cX7_markOf 135 = .ok (.goto (-40), 3) := by decide +kernel
theorem dX7_markOf_138 : decode cX7_markOf 138 = .ok (.iload 5, 2) := by decide +kernel
theorem dX7_markOf_140 : decode cX7_markOf 140 = .ok (.ireturn, 1) := by decide +kernel
theorem dX7_markOf_141 : decode cX7_markOf 141 = .ok (.iconst 0, 1) := by decide +kernel
theorem dX7_markOf_142 : decode cX7_markOf 142 = .ok (.istore 6, 2) := by decide +kernel
theorem dX7_markOf_144 : decode cX7_markOf 144 = .ok (.iload 6, 2) := by decide +kernel
theorem dX7_markOf_146 : decode cX7_markOf 146 = .ok (.aload_n 0, 1) := by decide +kernel
theorem dX7_markOf_147 : decode cX7_markOf 147 = .ok (.getfield 25, 3) := by decide +kernel
theorem dX7_markOf_150 : decode cX7_markOf 150 = .ok (.iconst 0, 1) := by decide +kernel
theorem dX7_markOf_151 : decode cX7_markOf 151 = .ok (.iaload, 1) := by decide +kernel
theorem dX7_markOf_152 : decode cX7_markOf 152 = .ok (.if_icmp .ge 54, 3) := by decide +kernel
theorem dX7_markOf_155 : decode cX7_markOf 155 = .ok (.iload 5, 2) := by decide +kernel
theorem dX7_markOf_157 : decode cX7_markOf 157 = .ok (.iload 6, 2) := by decide +kernel
theorem dX7_markOf_159 : decode cX7_markOf 159 = .ok (.iload_n 1, 1) := by decide +kernel
theorem dX7_markOf_160 : decode cX7_markOf 160 = .ok (.if_icmp .eq 36, 3) := by decide +kernel
theorem dX7_markOf_163 : decode cX7_markOf 163 = .ok (.aload_n 0, 1) := by decide +kernel
theorem dX7_markOf_164 : decode cX7_markOf 164 = .ok (.iload_n 1, 1) := by decide +kernel
theorem dX7_markOf_165 : decode cX7_markOf 165 = .ok (.iload 6, 2) := by decide +kernel
theorem dX7_markOf_167 : decode cX7_markOf 167 = .ok (.invokevirtual 165, 3) := by decide +kernel
theorem dX7_markOf_170 : decode cX7_markOf 170 = .ok (.ifCond .eq 26, 3) := by decide +kernel
theorem dX7_markOf_173 : decode cX7_markOf 173 = .ok (.aload_n 0, 1) := by decide +kernel
theorem dX7_markOf_174 : decode cX7_markOf 174 = .ok (.iload_n 1, 1) := by decide +kernel
theorem dX7_markOf_175 : decode cX7_markOf 175 = .ok (.iload_n 3, 1) := by decide +kernel
theorem dX7_markOf_176 : decode cX7_markOf 176 = .ok (.iconst 5, 1) := by decide +kernel
theorem dX7_markOf_177 : decode cX7_markOf 177 = .ok (.isub, 1) := by decide +kernel
theorem dX7_markOf_178 : decode cX7_markOf 178 = .ok (.iload 6, 2) := by decide +kernel
theorem dX7_markOf_180 : decode cX7_markOf 180 = .ok (.aload_n 0, 1) := by decide +kernel
theorem dX7_markOf_181 : decode cX7_markOf 181 = .ok (.iload 6, 2) := by decide +kernel
theorem dX7_markOf_183 : decode cX7_markOf 183 = .ok (.invokevirtual 139, 3) := by decide +kernel
theorem dX7_markOf_186 : decode cX7_markOf 186 = .ok (.invokevirtual 142, 3) := by decide +kernel
theorem dX7_markOf_189 : decode cX7_markOf 189 = .ok (.ifCond .ne 7, 3) := by decide +kernel
theorem dX7_markOf_192 : decode cX7_markOf 192 = .ok (.iconst 1, 1) := by decide +kernel
theorem dX7_markOf_193 : decode cX7_markOf 193 = .ok (.goto 4, 3) := by decide +kernel
theorem dX7_markOf_196 : decode cX7_markOf 196 = .ok (.iconst 0, 1) := by decide +kernel
theorem dX7_markOf_197 : decode cX7_markOf 197 = .ok (.iadd, 1) := by decide +kernel
theorem dX7_markOf_198 : decode cX7_markOf 198 = .ok (.istore 5, 2) := by decide +kernel
theorem dX7_markOf_200 : decode cX7_markOf 200 = .ok (.iinc 6 1, 3) := by decide +kernel
theorem dX7_markOf_203 : decode cX7_markOf 203 = .ok (.goto (-59), 3) := by decide +kernel
theorem dX7_markOf_206 : decode cX7_markOf 206 = .ok (.iload 5, 2) := by decide +kernel
theorem dX7_markOf_208 : decode cX7_markOf 208 = .ok (.ireturn, 1) := by decide +kernel
theorem dX7_mark_0 : decode cX7_mark 0 = .ok (.aload_n 0, 1) := by decide +kernel
theorem dX7_mark_1 : decode cX7_mark 1 = .ok (.iload_n 1, 1) := by decide +kernel
theorem dX7_mark_2 : decode cX7_mark 2 = .ok (.invokevirtual 159, 3) := by decide +kernel
theorem dX7_mark_5 : decode cX7_mark 5 = .ok (.ifCond .eq 12, 3) := by decide +kernel
theorem dX7_mark_8 : decode cX7_mark 8 = .ok (.iload_n 2, 1) := by decide +kernel
theorem dX7_mark_9 : decode cX7_mark 9 = .ok (.iconst 1, 1) := by decide +kernel
theorem dX7_mark_10 : decode cX7_mark 10 = .ok (.iconst 5, 1) := by decide +kernel
theorem dX7_mark_11 : decode cX7_mark 11 = .ok (.invokestatic 64, 3) := by decide +kernel
theorem dX7_mark_14 : decode cX7_mark 14 = .ok (.ifCond .ne 5, 3) := by decide +kernel
theorem dX7_mark_17 : decode cX7_mark 17 = .ok (.iconst (-1), 1) := by decide +kernel
theorem dX7_mark_18 : decode cX7_mark 18 = .ok (.ireturn, 1) := by decide +kernel
theorem dX7_mark_19 : decode cX7_mark 19 = .ok (.aload_n 0, 1) := by decide +kernel
theorem dX7_mark_20 : decode cX7_mark 20 = .ok (.iload_n 1, 1) := by decide +kernel
theorem dX7_mark_21 : decode cX7_mark 21 = .ok (.iconst 0, 1) := by decide +kernel
theorem dX7_mark_22 : decode cX7_mark 22 = .ok (.invokevirtual 126, 3) := by decide +kernel
theorem dX7_mark_25 : decode cX7_mark 25 = .ok (.iload_n 2, 1) := by decide +kernel
theorem dX7_mark_26 : decode cX7_mark 26 = .ok (.invokestatic 168, 3) := by decide +kernel
theorem dX7_mark_29 : decode cX7_mark 29 = .ok (.ifCond .eq 12, 3) := by decide +kernel
theorem dX7_mark_32 : decode cX7_mark 32 = .ok (.aload_n 0, 1) := by decide +kernel
theorem dX7_mark_33 : decode cX7_mark 33 = .ok (.iload_n 1, 1) := by decide +kernel
theorem dX7_mark_34 : decode cX7_mark 34 = .ok (.iload_n 2, 1) := by decide +kernel
theorem dX7_mark_35 : decode cX7_mark 35 = .ok (.invokevirtual 171, 3) := by decide +kernel
theorem dX7_mark_38 : decode cX7_mark 38 = .ok (.goto 8, 3) := by decide +kernel
theorem dX7_mark_41 : decode cX7_mark 41 = .ok (.aload_n 0, 1) := by decide +kernel
theorem dX7_mark_42 : decode cX7_mark 42 = .ok (.iconst 3, 1) := by decide +kernel
theorem dX7_mark_43 : decode cX7_mark 43 = .ok (.invokevirtual 72, 3) := by decide +kernel
theorem dX7_mark_46 : decode cX7_mark 46 = .ok (.ireturn, 1) := by decide +kernel
theorem dX7_age_0 : decode cX7_age 0 = .ok (.aload_n 0, 1) := by decide +kernel
theorem dX7_age_1 : decode cX7_age 1 = .ok (.iload_n 1, 1) := by decide +kernel
theorem dX7_age_2 : decode cX7_age 2 = .ok (.invokevirtual 159, 3) := by decide +kernel
theorem dX7_age_5 : decode cX7_age 5 = .ok (.ifCond .eq 23, 3) := by decide +kernel
theorem dX7_age_8 : decode cX7_age 8 = .ok (.iload_n 2, 1) := by decide +kernel
theorem dX7_age_9 : decode cX7_age 9 = .ok (.iconst 0, 1) := by decide +kernel
theorem dX7_age_10 : decode cX7_age 10 = .ok (.sipush 999, 3) := by decide +kernel
theorem dX7_age_13 : decode cX7_age 13 = .ok (.invokestatic 64, 3) := by decide +kernel
theorem dX7_age_16 : decode cX7_age 16 = .ok (.ifCond .eq 12, 3) := by decide +kernel
theorem dX7_age_19 : decode cX7_age 19 = .ok (.aload_n 0, 1) := by decide +kernel
theorem dX7_age_20 : decode cX7_age 20 = .ok (.iload_n 1, 1) := by decide +kernel
theorem dX7_age_21 : decode cX7_age 21 = .ok (.iload_n 2, 1) := by decide +kernel
theorem dX7_age_22 : decode cX7_age 22 = .ok (.invokevirtual 136, 3) := by decide +kernel
theorem dX7_age_25 : decode cX7_age 25 = .ok (.goto 4, 3) := by decide +kernel
theorem dX7_age_28 : decode cX7_age 28 = .ok (.iconst (-1), 1) := by decide +kernel
theorem dX7_age_29 : decode cX7_age 29 = .ok (.ireturn, 1) := by decide +kernel
theorem dX7_notes_0 : decode cX7_notes 0 = .ok (.bipush 55, 2) := by decide +kernel
theorem dX7_notes_2 : decode cX7_notes 2 = .ok (.iconst 4, 1) := by decide +kernel
theorem dX7_notes_3 : decode cX7_notes 3 = .ok (.aload_n 0, 1) := by decide +kernel
theorem dX7_notes_4 : decode cX7_notes 4 = .ok (.getfield 25, 3) := by decide +kernel
theorem dX7_notes_7 : decode cX7_notes 7 = .ok (.iconst 3, 1) := by decide +kernel
theorem dX7_notes_8 : decode cX7_notes 8 = .ok (.iaload, 1) := by decide +kernel
theorem dX7_notes_9 : decode cX7_notes 9 = .ok (.imul, 1) := by decide +kernel
theorem dX7_notes_10 : decode cX7_notes 10 = .ok (.iadd, 1) := by decide +kernel
theorem dX7_notes_11 : decode cX7_notes 11 = .ok (.istore 5, 2) := by decide +kernel
theorem dX7_notes_13 : decode cX7_notes 13 = .ok (.aload_n 0, 1) := by decide +kernel
theorem dX7_notes_14 : decode cX7_notes 14 = .ok (.getfield 25, 3) := by decide +kernel
theorem dX7_notes_17 : decode cX7_notes 17 = .ok (.iload 5, 2) := by decide +kernel
theorem dX7_notes_19 : decode cX7_notes 19 = .ok (.iload_n 1, 1) := by decide +kernel
theorem dX7_notes_20 : decode cX7_notes 20 = .ok (.iastore, 1) := by decide +kernel
theorem dX7_notes_21 : decode cX7_notes 21 = .ok (.aload_n 0, 1) := by decide +kernel
theorem dX7_notes_22 : decode cX7_notes 22 = .ok (.getfield 25, 3) := by decide +kernel
theorem dX7_notes_25 : decode cX7_notes 25 = .ok (.iload 5, 2) := by decide +kernel
theorem dX7_notes_27 : decode cX7_notes 27 = .ok (.iconst 1, 1) := by decide +kernel
theorem dX7_notes_28 : decode cX7_notes 28 = .ok (.iadd, 1) := by decide +kernel
theorem dX7_notes_29 : decode cX7_notes 29 = .ok (.iload_n 2, 1) := by decide +kernel
theorem dX7_notes_30 : decode cX7_notes 30 = .ok (.iastore, 1) := by decide +kernel
theorem dX7_notes_31 : decode cX7_notes 31 = .ok (.aload_n 0, 1) := by decide +kernel
theorem dX7_notes_32 : decode cX7_notes 32 = .ok (.getfield 25, 3) := by decide +kernel
theorem dX7_notes_35 : decode cX7_notes 35 = .ok (.iload 5, 2) := by decide +kernel
theorem dX7_notes_37 : decode cX7_notes 37 = .ok (.iconst 2, 1) := by decide +kernel
theorem dX7_notes_38 : decode cX7_notes 38 = .ok (.iadd, 1) := by decide +kernel
theorem dX7_notes_39 : decode cX7_notes 39 = .ok (.iload_n 3, 1) := by decide +kernel
theorem dX7_notes_40 : decode cX7_notes 40 = .ok (.iastore, 1) := by decide +kernel
theorem dX7_notes_41 : decode cX7_notes 41 = .ok (.aload_n 0, 1) := by decide +kernel
theorem dX7_notes_42 : decode cX7_notes 42 = .ok (.getfield 25, 3) := by decide +kernel
theorem dX7_notes_45 : decode cX7_notes 45 = .ok (.iload 5, 2) := by decide +kernel
theorem dX7_notes_47 : decode cX7_notes 47 = .ok (.iconst 3, 1) := by decide +kernel
theorem dX7_notes_48 : decode cX7_notes 48 = .ok (.iadd, 1) := by decide +kernel
theorem dX7_notes_49 : decode cX7_notes 49 = .ok (.iload 4, 2) := by decide +kernel
theorem dX7_notes_51 : decode cX7_notes 51 = .ok (.iastore, 1) := by decide +kernel
theorem dX7_notes_52 : decode cX7_notes 52 = .ok (.aload_n 0, 1) := by decide +kernel
theorem dX7_notes_53 : decode cX7_notes 53 = .ok (.getfield 25, 3) := by decide +kernel
theorem dX7_notes_56 : decode cX7_notes 56 = .ok (.iconst 3, 1) := by decide +kernel
theorem dX7_notes_57 : decode cX7_notes 57 = .ok (.dup2, 1) := by decide +kernel
theorem dX7_notes_58 : decode cX7_notes 58 = .ok (.iaload, 1) := by decide +kernel
theorem dX7_notes_59 : decode cX7_notes 59 = .ok (.iconst 1, 1) := by decide +kernel
theorem dX7_notes_60 : decode cX7_notes 60 = .ok (.iadd, 1) := by decide +kernel
theorem dX7_notes_61 : decode cX7_notes 61 = .ok (.iastore, 1) := by decide +kernel
theorem dX7_notes_62 : decode cX7_notes 62 = .ok (.return_, 1) := by decide +kernel
theorem dX7_goes_0 : decode cX7_goes 0 = .ok (.aload_n 0, 1) := by decide +kernel
theorem dX7_goes_1 : decode cX7_goes 1 = .ok (.iload_n 1, 1) := by decide +kernel
theorem dX7_goes_2 : decode cX7_goes 2 = .ok (.aload_n 0, 1) := by decide +kernel
theorem dX7_goes_3 : decode cX7_goes 3 = .ok (.getfield 25, 3) := by decide +kernel
theorem dX7_goes_6 : decode cX7_goes 6 = .ok (.iconst 5, 1) := by decide +kernel
theorem dX7_goes_7 : decode cX7_goes 7 = .ok (.iaload, 1) := by decide +kernel
theorem dX7_goes_8 : decode cX7_goes 8 = .ok (.invokevirtual 174, 3) := by decide +kernel
theorem dX7_goes_11 : decode cX7_goes 11 = .ok (.istore_n 2, 1) := by decide +kernel
theorem dX7_goes_12 : decode cX7_goes 12 = .ok (.aload_n 0, 1) := by decide +kernel
theorem dX7_goes_13 : decode cX7_goes 13 = .ok (.iconst 0, 1) := by decide +kernel
theorem dX7_goes_14 : decode cX7_goes 14 = .ok (.iload_n 1, 1) := by decide +kernel
theorem dX7_goes_15 : decode cX7_goes 15 = .ok (.iload_n 2, 1) := by decide +kernel
theorem dX7_goes_16 : decode cX7_goes 16 = .ok (.iconst 0, 1) := by decide +kernel
theorem dX7_goes_17 : decode cX7_goes 17 = .ok (.invokevirtual 177, 3) := by decide +kernel
theorem dX7_goes_20 : decode cX7_goes 20 = .ok (.aload_n 0, 1) := by decide +kernel
theorem dX7_goes_21 : decode cX7_goes 21 = .ok (.getfield 25, 3) := by decide +kernel
theorem dX7_goes_24 : decode cX7_goes 24 = .ok (.iconst 5, 1) := by decide +kernel
theorem dX7_goes_25 : decode cX7_goes 25 = .ok (.dup2, 1) := by decide +kernel
theorem dX7_goes_26 : decode cX7_goes 26 = .ok (.iaload, 1) := by decide +kernel
theorem dX7_goes_27 : decode cX7_goes 27 = .ok (.iconst 1, 1) := by decide +kernel
theorem dX7_goes_28 : decode cX7_goes 28 = .ok (.iload_n 1, 1) := by decide +kernel
theorem dX7_goes_29 : decode cX7_goes 29 = .ok (.ishl, 1) := by decide +kernel
theorem dX7_goes_30 : decode cX7_goes 30 = .ok (.ixor, 1) := by decide +kernel
theorem dX7_goes_31 : decode cX7_goes 31 = .ok (.iastore, 1) := by decide +kernel
theorem dX7_goes_32 : decode cX7_goes 32 = .ok (.aload_n 0, 1) := by decide +kernel
theorem dX7_goes_33 : decode cX7_goes 33 = .ok (.getfield 25, 3) := by decide +kernel
theorem dX7_goes_36 : decode cX7_goes 36 = .ok (.bipush 6, 2) := by decide +kernel
theorem dX7_goes_38 : decode cX7_goes 38 = .ok (.dup2, 1) := by decide +kernel
theorem dX7_goes_39 : decode cX7_goes 39 = .ok (.iaload, 1) := by decide +kernel
theorem dX7_goes_40 : decode cX7_goes 40 = .ok (.iload_n 2, 1) := by decide +kernel
theorem dX7_goes_41 : decode cX7_goes 41 = .ok (.iadd, 1) := by decide +kernel
theorem dX7_goes_42 : decode cX7_goes 42 = .ok (.iastore, 1) := by decide +kernel
theorem dX7_goes_43 : decode cX7_goes 43 = .ok (.aload_n 0, 1) := by decide +kernel
theorem dX7_goes_44 : decode cX7_goes 44 = .ok (.getfield 25, 3) := by decide +kernel
theorem dX7_goes_47 : decode cX7_goes 47 = .ok (.iconst 4, 1) := by decide +kernel
theorem dX7_goes_48 : decode cX7_goes 48 = .ok (.dup2, 1) := by decide +kernel
theorem dX7_goes_49 : decode cX7_goes 49 = .ok (.iaload, 1) := by decide +kernel
theorem dX7_goes_50 : decode cX7_goes 50 = .ok (.iconst 1, 1) := by decide +kernel
theorem dX7_goes_51 : decode cX7_goes 51 = .ok (.iload_n 2, 1) := by decide +kernel
theorem dX7_goes_52 : decode cX7_goes 52 = .ok (.iadd, 1) := by decide +kernel
theorem dX7_goes_53 : decode cX7_goes 53 = .ok (.isub, 1) := by decide +kernel
theorem dX7_goes_54 : decode cX7_goes 54 = .ok (.iastore, 1) := by decide +kernel
theorem dX7_goes_55 : decode cX7_goes 55 = .ok (.iload_n 2, 1) := by decide +kernel
theorem dX7_goes_56 : decode cX7_goes 56 = .ok (.ireturn, 1) := by decide +kernel
theorem dX7_moves_0 : decode cX7_moves 0 = .ok (.aload_n 0, 1) := by decide +kernel
theorem dX7_moves_1 : decode cX7_moves 1 = .ok (.iload_n 1, 1) := by decide +kernel
theorem dX7_moves_2 : decode cX7_moves 2 = .ok (.invokevirtual 159, 3) := by decide +kernel
theorem dX7_moves_5 : decode cX7_moves 5 = .ok (.ifCond .ne 5, 3) := by decide +kernel
theorem dX7_moves_8 : decode cX7_moves 8 = .ok (.iconst (-1), 1) := by decide +kernel
theorem dX7_moves_9 : decode cX7_moves 9 = .ok (.ireturn, 1) := by decide +kernel
theorem dX7_moves_10 : decode cX7_moves 10 = .ok (.aload_n 0, 1) := by decide +kernel
theorem dX7_moves_11 : decode cX7_moves 11 = .ok (.getfield 25, 3) := by decide +kernel
theorem dX7_moves_14 : decode cX7_moves 14 = .ok (.iconst 5, 1) := by decide +kernel
theorem dX7_moves_15 : decode cX7_moves 15 = .ok (.iaload, 1) := by decide +kernel
theorem dX7_moves_16 : decode cX7_moves 16 = .ok (.iload_n 1, 1) := by decide +kernel
theorem dX7_moves_17 : decode cX7_moves 17 = .ok (.invokestatic 146, 3) := by decide +kernel
theorem dX7_moves_20 : decode cX7_moves 20 = .ok (.iload_n 2, 1) := by decide +kernel
theorem dX7_moves_21 : decode cX7_moves 21 = .ok (.if_icmp .eq 6, 3) := by decide +kernel
theorem dX7_moves_24 : decode cX7_moves 24 = .ok (.bipush (-4), 2) := by decide +kernel
theorem dX7_moves_26 : decode cX7_moves 26 = .ok (.ireturn, 1) := by decide +kernel
theorem dX7_moves_27 : decode cX7_moves 27 = .ok (.aload_n 0, 1) := by decide +kernel
theorem dX7_moves_28 : decode cX7_moves 28 = .ok (.iload_n 1, 1) := by decide +kernel
theorem dX7_moves_29 : decode cX7_moves 29 = .ok (.aload_n 0, 1) := by decide +kernel
theorem dX7_moves_30 : decode cX7_moves 30 = .ok (.getfield 25, 3) := by decide +kernel
theorem dX7_moves_33 : decode cX7_moves 33 = .ok (.iconst 5, 1) := by decide +kernel
theorem dX7_moves_34 : decode cX7_moves 34 = .ok (.iaload, 1) := by decide +kernel
theorem dX7_moves_35 : decode cX7_moves 35 = .ok (.invokevirtual 174, 3) := by decide +kernel
theorem dX7_moves_38 : decode cX7_moves 38 = .ok (.iconst 1, 1) := by decide +kernel
theorem dX7_moves_39 : decode cX7_moves 39 = .ok (.iadd, 1) := by decide +kernel
theorem dX7_moves_40 : decode cX7_moves 40 = .ok (.aload_n 0, 1) := by decide +kernel
theorem dX7_moves_41 : decode cX7_moves 41 = .ok (.getfield 25, 3) := by decide +kernel
theorem dX7_moves_44 : decode cX7_moves 44 = .ok (.iconst 4, 1) := by decide +kernel
theorem dX7_moves_45 : decode cX7_moves 45 = .ok (.iaload, 1) := by decide +kernel
theorem dX7_moves_46 : decode cX7_moves 46 = .ok (.if_icmp .le 6, 3) := by decide +kernel
theorem dX7_moves_49 : decode cX7_moves 49 = .ok (.bipush (-6), 2) := by decide +kernel
theorem dX7_moves_51 : decode cX7_moves 51 = .ok (.ireturn, 1) := by decide +kernel
theorem dX7_moves_52 : decode cX7_moves 52 = .ok (.aload_n 0, 1) := by decide +kernel
theorem dX7_moves_53 : decode cX7_moves 53 = .ok (.getfield 25, 3) := by decide +kernel
theorem dX7_moves_56 : decode cX7_moves 56 = .ok (.iconst 3, 1) := by decide +kernel
theorem dX7_moves_57 : decode cX7_moves 57 = .ok (.iaload, 1) := by decide +kernel
theorem dX7_moves_58 : decode cX7_moves 58 = .ok (.bipush 40, 2) := by decide +kernel
theorem dX7_moves_60 : decode cX7_moves 60 = .ok (.if_icmp .ne 8, 3) := by decide +kernel
theorem dX7_moves_63 : decode cX7_moves 63 = .ok (.bipush (-2), 2) := by decide +kernel
theorem dX7_moves_65 : decode cX7_moves 65 = .ok (.goto 8, 3) := by decide +kernel
theorem dX7_moves_68 : decode cX7_moves 68 = .ok (.aload_n 0, 1) := by decide +kernel
theorem dX7_moves_69 : decode cX7_moves 69 = .ok (.iload_n 1, 1) := by decide +kernel
theorem dX7_moves_70 : decode cX7_moves 70 = .ok (.invokevirtual 181, 3) := by decide +kernel
theorem dX7_moves_73 : decode cX7_moves 73 = .ok (.ireturn, 1) := by decide +kernel
theorem dX7_come_0 : decode cX7_come 0 = .ok (.aload_n 0, 1) := by decide +kernel
theorem dX7_come_1 : decode cX7_come 1 = .ok (.iload_n 1, 1) := by decide +kernel
theorem dX7_come_2 : decode cX7_come 2 = .ok (.iconst 0, 1) := by decide +kernel
theorem dX7_come_3 : decode cX7_come 3 = .ok (.invokevirtual 184, 3) := by decide +kernel
theorem dX7_come_6 : decode cX7_come 6 = .ok (.ireturn, 1) := by decide +kernel
theorem dX7_leave_0 : decode cX7_leave 0 = .ok (.aload_n 0, 1) := by decide +kernel
theorem dX7_leave_1 : decode cX7_leave 1 = .ok (.iload_n 1, 1) := by decide +kernel
theorem dX7_leave_2 : decode cX7_leave 2 = .ok (.iconst 1, 1) := by decide +kernel
theorem dX7_leave_3 : decode cX7_leave 3 = .ok (.invokevirtual 184, 3) := by decide +kernel
theorem dX7_leave_6 : decode cX7_leave 6 = .ok (.ireturn, 1) := by decide +kernel
theorem dX7_pay_0 : decode cX7_pay 0 = .ok (.aload_n 0, 1) := by decide +kernel
theorem dX7_pay_1 : decode cX7_pay 1 = .ok (.iload_n 1, 1) := by decide +kernel
theorem dX7_pay_2 : decode cX7_pay 2 = .ok (.invokevirtual 159, 3) := by decide +kernel
theorem dX7_pay_5 : decode cX7_pay 5 = .ok (.ifCond .ne 5, 3) := by decide +kernel
theorem dX7_pay_8 : decode cX7_pay 8 = .ok (.iconst (-1), 1) := by decide +kernel
theorem dX7_pay_9 : decode cX7_pay 9 = .ok (.ireturn, 1) := by decide +kernel
theorem dX7_pay_10 : decode cX7_pay 10 = .ok (.aload_n 0, 1) := by decide +kernel
theorem dX7_pay_11 : decode cX7_pay 11 = .ok (.iload_n 1, 1) := by decide +kernel
theorem dX7_pay_12 : decode cX7_pay 12 = .ok (.iconst 0, 1) := by decide +kernel
theorem dX7_pay_13 : decode cX7_pay 13 = .ok (.invokevirtual 126, 3) := by decide +kernel
theorem dX7_pay_16 : decode cX7_pay 16 = .ok (.iconst 5, 1) := by decide +kernel
theorem dX7_pay_17 : decode cX7_pay 17 = .ok (.if_icmp .eq 9, 3) := by decide +kernel
theorem dX7_pay_20 : decode cX7_pay 20 = .ok (.aload_n 0, 1) := by decide +kernel
theorem dX7_pay_21 : decode cX7_pay 21 = .ok (.iconst 3, 1) := by decide +kernel
theorem dX7_pay_22 : decode cX7_pay 22 = .ok (.invokevirtual 72, 3) := by decide +kernel
theorem dX7_pay_25 : decode cX7_pay 25 = .ok (.ireturn, 1) := by decide +kernel
theorem dX7_pay_26 : decode cX7_pay 26 = .ok (.aload_n 0, 1) := by decide +kernel
theorem dX7_pay_27 : decode cX7_pay 27 = .ok (.iload_n 1, 1) := by decide +kernel
theorem dX7_pay_28 : decode cX7_pay 28 = .ok (.bipush 6, 2) := by decide +kernel
theorem dX7_pay_30 : decode cX7_pay 30 = .ok (.invokevirtual 126, 3) := by decide +kernel
theorem dX7_pay_33 : decode cX7_pay 33 = .ok (.iconst 1, 1) := by decide +kernel
theorem dX7_pay_34 : decode cX7_pay 34 = .ok (.if_icmp .ne 6, 3) := by decide +kernel
theorem dX7_pay_37 : decode cX7_pay 37 = .ok (.bipush (-4), 2) := by decide +kernel
theorem dX7_pay_39 : decode cX7_pay 39 = .ok (.ireturn, 1) := by decide +kernel
theorem dX7_pay_40 : decode cX7_pay 40 = .ok (.aload_n 0, 1) := by decide +kernel
theorem dX7_pay_41 : decode cX7_pay 41 = .ok (.getfield 25, 3) := by decide +kernel
theorem dX7_pay_44 : decode cX7_pay 44 = .ok (.iconst 3, 1) := by decide +kernel
theorem dX7_pay_45 : decode cX7_pay 45 = .ok (.iaload, 1) := by decide +kernel
theorem dX7_pay_46 : decode cX7_pay 46 = .ok (.bipush 40, 2) := by decide +kernel
theorem dX7_pay_48 : decode cX7_pay 48 = .ok (.if_icmp .ne 6, 3) := by decide +kernel
theorem dX7_pay_51 : decode cX7_pay 51 = .ok (.bipush (-2), 2) := by decide +kernel
theorem dX7_pay_53 : decode cX7_pay 53 = .ok (.ireturn, 1) := by decide +kernel
theorem dX7_pay_54 : decode cX7_pay 54 = .ok (.aload_n 0, 1) := by decide +kernel
theorem dX7_pay_55 : decode cX7_pay 55 = .ok (.iconst 1, 1) := by decide +kernel
theorem dX7_pay_56 : decode cX7_pay 56 = .ok (.iload_n 1, 1) := by decide +kernel
theorem dX7_pay_57 : decode cX7_pay 57 = .ok (.iconst 0, 1) := by decide +kernel
theorem dX7_pay_58 : decode cX7_pay 58 = .ok (.iconst 0, 1) := by decide +kernel
theorem dX7_pay_59 : decode cX7_pay 59 = .ok (.invokevirtual 177, 3) := by decide +kernel
theorem dX7_pay_62 : decode cX7_pay 62 = .ok (.aload_n 0, 1) := by decide +kernel
theorem dX7_pay_63 : decode cX7_pay 63 = .ok (.getfield 25, 3) := by decide +kernel
theorem dX7_pay_66 : decode cX7_pay 66 = .ok (.bipush 7, 2) := by decide +kernel
theorem dX7_pay_68 : decode cX7_pay 68 = .ok (.bipush 8, 2) := by decide +kernel
theorem dX7_pay_70 : decode cX7_pay 70 = .ok (.iload_n 1, 1) := by decide +kernel
theorem dX7_pay_71 : decode cX7_pay 71 = .ok (.imul, 1) := by decide +kernel
theorem dX7_pay_72 : decode cX7_pay 72 = .ok (.iadd, 1) := by decide +kernel
theorem dX7_pay_73 : decode cX7_pay 73 = .ok (.bipush 6, 2) := by decide +kernel
theorem dX7_pay_75 : decode cX7_pay 75 = .ok (.iadd, 1) := by decide +kernel
theorem dX7_pay_76 : decode cX7_pay 76 = .ok (.iconst 1, 1) := by decide +kernel
theorem dX7_pay_77 : decode cX7_pay 77 = .ok (.iastore, 1) := by decide +kernel
theorem dX7_pay_78 : decode cX7_pay 78 = .ok (.aload_n 0, 1) := by decide +kernel
theorem dX7_pay_79 : decode cX7_pay 79 = .ok (.iload_n 1, 1) := by decide +kernel
theorem dX7_pay_80 : decode cX7_pay 80 = .ok (.invokevirtual 139, 3) := by decide +kernel
theorem dX7_pay_83 : decode cX7_pay 83 = .ok (.ireturn, 1) := by decide +kernel
theorem dX7_tea_0 : decode cX7_tea 0 = .ok (.aload_n 0, 1) := by decide +kernel
theorem dX7_tea_1 : decode cX7_tea 1 = .ok (.iload_n 1, 1) := by decide +kernel
theorem dX7_tea_2 : decode cX7_tea 2 = .ok (.invokevirtual 159, 3) := by decide +kernel
theorem dX7_tea_5 : decode cX7_tea 5 = .ok (.ifCond .ne 5, 3) := by decide +kernel
theorem dX7_tea_8 : decode cX7_tea 8 = .ok (.iconst (-1), 1) := by decide +kernel
theorem dX7_tea_9 : decode cX7_tea 9 = .ok (.ireturn, 1) := by decide +kernel
theorem dX7_tea_10 : decode cX7_tea 10 = .ok (.aload_n 0, 1) := by decide +kernel
theorem dX7_tea_11 : decode cX7_tea 11 = .ok (.iload_n 1, 1) := by decide +kernel
theorem dX7_tea_12 : decode cX7_tea 12 = .ok (.iconst 5, 1) := by decide +kernel
theorem dX7_tea_13 : decode cX7_tea 13 = .ok (.invokevirtual 126, 3) := by decide +kernel
theorem dX7_tea_16 : decode cX7_tea 16 = .ok (.bipush 20, 2) := by decide +kernel
theorem dX7_tea_18 : decode cX7_tea 18 = .ok (.if_icmp .ne 6, 3) := by decide +kernel
theorem dX7_tea_21 : decode cX7_tea 21 = .ok (.bipush (-4), 2) := by decide +kernel
theorem dX7_tea_23 : decode cX7_tea 23 = .ok (.ireturn, 1) := by decide +kernel
theorem dX7_tea_24 : decode cX7_tea 24 = .ok (.aload_n 0, 1) := by decide +kernel
theorem dX7_tea_25 : decode cX7_tea 25 = .ok (.getfield 25, 3) := by decide +kernel
theorem dX7_tea_28 : decode cX7_tea 28 = .ok (.iconst 3, 1) := by decide +kernel
theorem dX7_tea_29 : decode cX7_tea 29 = .ok (.iaload, 1) := by decide +kernel
theorem dX7_tea_30 : decode cX7_tea 30 = .ok (.bipush 40, 2) := by decide +kernel
theorem dX7_tea_32 : decode cX7_tea 32 = .ok (.if_icmp .ne 6, 3) := by decide +kernel
theorem dX7_tea_35 : decode cX7_tea 35 = .ok (.bipush (-2), 2) := by decide +kernel
theorem dX7_tea_37 : decode cX7_tea 37 = .ok (.ireturn, 1) := by decide +kernel
theorem dX7_tea_38 : decode cX7_tea 38 = .ok (.aload_n 0, 1) := by decide +kernel
theorem dX7_tea_39 : decode cX7_tea 39 = .ok (.iconst 2, 1) := by decide +kernel
theorem dX7_tea_40 : decode cX7_tea 40 = .ok (.iload_n 1, 1) := by decide +kernel
theorem dX7_tea_41 : decode cX7_tea 41 = .ok (.iconst 0, 1) := by decide +kernel
theorem dX7_tea_42 : decode cX7_tea 42 = .ok (.iconst 0, 1) := by decide +kernel
theorem dX7_tea_43 : decode cX7_tea 43 = .ok (.invokevirtual 177, 3) := by decide +kernel
theorem dX7_tea_46 : decode cX7_tea 46 = .ok (.aload_n 0, 1) := by decide +kernel
theorem dX7_tea_47 : decode cX7_tea 47 = .ok (.getfield 25, 3) := by decide +kernel
theorem dX7_tea_50 : decode cX7_tea 50 = .ok (.bipush 7, 2) := by decide +kernel
theorem dX7_tea_52 : decode cX7_tea 52 = .ok (.bipush 8, 2) := by decide +kernel
theorem dX7_tea_54 : decode cX7_tea 54 = .ok (.iload_n 1, 1) := by decide +kernel
theorem dX7_tea_55 : decode cX7_tea 55 = .ok (.imul, 1) := by decide +kernel
theorem dX7_tea_56 : decode cX7_tea 56 = .ok (.iadd, 1) := by decide +kernel
theorem dX7_tea_57 : decode cX7_tea 57 = .ok (.iconst 5, 1) := by decide +kernel
theorem dX7_tea_58 : decode cX7_tea 58 = .ok (.iadd, 1) := by decide +kernel
theorem dX7_tea_59 : decode cX7_tea 59 = .ok (.dup2, 1) := by decide +kernel
theorem dX7_tea_60 : decode cX7_tea 60 = .ok (.iaload, 1) := by decide +kernel
theorem dX7_tea_61 : decode cX7_tea 61 = .ok (.iconst 5, 1) := by decide +kernel
theorem dX7_tea_62 : decode cX7_tea 62 = .ok (.iadd, 1) := by decide +kernel
theorem dX7_tea_63 : decode cX7_tea 63 = .ok (.iastore, 1) := by decide +kernel
theorem dX7_tea_64 : decode cX7_tea 64 = .ok (.aload_n 0, 1) := by decide +kernel
theorem dX7_tea_65 : decode cX7_tea 65 = .ok (.iload_n 1, 1) := by decide +kernel
theorem dX7_tea_66 : decode cX7_tea 66 = .ok (.invokevirtual 139, 3) := by decide +kernel
theorem dX7_tea_69 : decode cX7_tea 69 = .ok (.ireturn, 1) := by decide +kernel
theorem dX7_excess_0 : decode cX7_excess 0 = .ok (.aload_n 0, 1) := by decide +kernel
theorem dX7_excess_1 : decode cX7_excess 1 = .ok (.getfield 25, 3) := by decide +kernel
theorem dX7_excess_4 : decode cX7_excess 4 = .ok (.iconst 5, 1) := by decide +kernel
theorem dX7_excess_5 : decode cX7_excess 5 = .ok (.iaload, 1) := by decide +kernel
theorem dX7_excess_6 : decode cX7_excess 6 = .ok (.iload_n 1, 1) := by decide +kernel
theorem dX7_excess_7 : decode cX7_excess 7 = .ok (.invokestatic 146, 3) := by decide +kernel
theorem dX7_excess_10 : decode cX7_excess 10 = .ok (.ifCond .eq 26, 3) := by decide +kernel
theorem dX7_excess_13 : decode cX7_excess 13 = .ok (.aload_n 0, 1) := by decide +kernel
theorem dX7_excess_14 : decode cX7_excess 14 = .ok (.iload_n 1, 1) := by decide +kernel
theorem dX7_excess_15 : decode cX7_excess 15 = .ok (.iconst 4, 1) := by decide +kernel
theorem dX7_excess_16 : decode cX7_excess 16 = .ok (.invokevirtual 126, 3) := by decide +kernel
theorem dX7_excess_19 : decode cX7_excess 19 = .ok (.aload_n 0, 1) := by decide +kernel
theorem dX7_excess_20 : decode cX7_excess 20 = .ok (.iload_n 1, 1) := by decide +kernel
theorem dX7_excess_21 : decode cX7_excess 21 = .ok (.aload_n 0, 1) := by decide +kernel
theorem dX7_excess_22 : decode cX7_excess 22 = .ok (.getfield 25, 3) := by decide +kernel
theorem dX7_excess_25 : decode cX7_excess 25 = .ok (.iconst 5, 1) := by decide +kernel
theorem dX7_excess_26 : decode cX7_excess 26 = .ok (.iaload, 1) := by decide +kernel
theorem dX7_excess_27 : decode cX7_excess 27 = .ok (.invokevirtual 156, 3) := by decide +kernel
theorem dX7_excess_30 : decode cX7_excess 30 = .ok (.isub, 1) := by decide +kernel
theorem dX7_excess_31 : decode cX7_excess 31 = .ok (.iconst 2, 1) := by decide +kernel
theorem dX7_excess_32 : decode cX7_excess 32 = .ok (.isub, 1) := by decide +kernel
theorem dX7_excess_33 : decode cX7_excess 33 = .ok (.goto 4, 3) := by decide +kernel
theorem dX7_excess_36 : decode cX7_excess 36 = .ok (.iconst 0, 1) := by decide +kernel
theorem dX7_excess_37 : decode cX7_excess 37 = .ok (.istore_n 2, 1) := by decide +kernel
theorem dX7_excess_38 : decode cX7_excess 38 = .ok (.iload_n 2, 1) := by decide +kernel
theorem dX7_excess_39 : decode cX7_excess 39 = .ok (.ifCond .ge 7, 3) := by decide +kernel
theorem dX7_excess_42 : decode cX7_excess 42 = .ok (.iconst 0, 1) := by decide +kernel
theorem dX7_excess_43 : decode cX7_excess 43 = .ok (.goto 4, 3) := by decide +kernel
theorem dX7_excess_46 : decode cX7_excess 46 = .ok (.iload_n 2, 1) := by decide +kernel
theorem dX7_excess_47 : decode cX7_excess 47 = .ok (.ireturn, 1) := by decide +kernel
theorem dX7_grounded_0 : decode cX7_grounded 0 = .ok (.iconst 0, 1) := by decide +kernel
theorem dX7_grounded_1 : decode cX7_grounded 1 = .ok (.istore_n 1, 1) := by decide +kernel
theorem dX7_grounded_2 : decode cX7_grounded 2 = .ok (.iconst 0, 1) := by decide +kernel
theorem dX7_grounded_3 : decode cX7_grounded 3 = .ok (.istore_n 2, 1) := by decide +kernel
theorem dX7_grounded_4 : decode cX7_grounded 4 = .ok (.iload_n 2, 1) := by decide +kernel
theorem dX7_grounded_5 : decode cX7_grounded 5 = .ok (.aload_n 0, 1) := by decide +kernel
theorem dX7_grounded_6 : decode cX7_grounded 6 = .ok (.getfield 25, 3) := by decide +kernel
theorem dX7_grounded_9 : decode cX7_grounded 9 = .ok (.iconst 0, 1) := by decide +kernel
theorem dX7_grounded_10 : decode cX7_grounded 10 = .ok (.iaload, 1) := by decide +kernel
theorem dX7_grounded_11 : decode cX7_grounded 11 = .ok (.if_icmp .ge 27, 3) := by decide +kernel
theorem dX7_grounded_14 : decode cX7_grounded 14 = .ok (.iload_n 1, 1) := by decide +kernel
theorem dX7_grounded_15 : decode cX7_grounded 15 = .ok (.aload_n 0, 1) := by decide +kernel
theorem dX7_grounded_16 : decode cX7_grounded 16 = .ok (.iload_n 2, 1) := by decide +kernel
theorem dX7_grounded_17 : decode cX7_grounded 17 = .ok (.invokevirtual 188, 3) := by decide +kernel
theorem dX7_grounded_20 : decode cX7_grounded 20 = .ok (.ifCond .le 9, 3) := by decide +kernel
theorem dX7_grounded_23 : decode cX7_grounded 23 = .ok (.iconst 1, 1) := by decide +kernel
theorem dX7_grounded_24 : decode cX7_grounded 24 = .ok (.iload_n 2, 1) := by decide +kernel
theorem dX7_grounded_25 : decode cX7_grounded 25 = .ok (.ishl, 1) := by decide +kernel
theorem dX7_grounded_26 : decode cX7_grounded 26 = .ok (.goto 4, 3) := by decide +kernel
theorem dX7_grounded_29 : decode cX7_grounded 29 = .ok (.iconst 0, 1) := by decide +kernel
theorem dX7_grounded_30 : decode cX7_grounded 30 = .ok (.ior, 1) := by decide +kernel
theorem dX7_grounded_31 : decode cX7_grounded 31 = .ok (.istore_n 1, 1) := by decide +kernel
theorem dX7_grounded_32 : decode cX7_grounded 32 = .ok (.iinc 2 1, 3) := by decide +kernel
theorem dX7_grounded_35 : decode cX7_grounded 35 = .ok (.goto (-31), 3) := by decide +kernel
theorem dX7_grounded_38 : decode cX7_grounded 38 = .ok (.iload_n 1, 1) := by decide +kernel
theorem dX7_grounded_39 : decode cX7_grounded 39 = .ok (.ireturn, 1) := by decide +kernel
theorem dX7_grounds_0 : decode cX7_grounds 0 = .ok (.iconst 0, 1) := by decide +kernel
theorem dX7_grounds_1 : decode cX7_grounds 1 = .ok (.istore_n 3, 1) := by decide +kernel
theorem dX7_grounds_2 : decode cX7_grounds 2 = .ok (.iload_n 3, 1) := by decide +kernel
theorem dX7_grounds_3 : decode cX7_grounds 3 = .ok (.aload_n 0, 1) := by decide +kernel
theorem dX7_grounds_4 : decode cX7_grounds 4 = .ok (.getfield 25, 3) := by decide +kernel
theorem dX7_grounds_7 : decode cX7_grounds 7 = .ok (.iconst 0, 1) := by decide +kernel
theorem dX7_grounds_8 : decode cX7_grounds 8 = .ok (.iaload, 1) := by decide +kernel
theorem dX7_grounds_9 : decode cX7_grounds 9 = .ok (.if_icmp .ge 40, 3) := by decide +kernel
theorem dX7_grounds_12 : decode cX7_grounds 12 = .ok (.aload_n 0, 1) := by decide +kernel
theorem dX7_grounds_13 : decode cX7_grounds 13 = .ok (.getfield 25, 3) := by decide +kernel
theorem dX7_grounds_16 : decode cX7_grounds 16 = .ok (.bipush 7, 2) := by decide +kernel
theorem dX7_grounds_18 : decode cX7_grounds 18 = .ok (.bipush 8, 2) := by decide +kernel
theorem dX7_grounds_20 : decode cX7_grounds 20 = .ok (.iload_n 3, 1) := by decide +kernel
theorem dX7_grounds_21 : decode cX7_grounds 21 = .ok (.imul, 1) := by decide +kernel
theorem dX7_grounds_22 : decode cX7_grounds 22 = .ok (.iadd, 1) := by decide +kernel
theorem dX7_grounds_23 : decode cX7_grounds 23 = .ok (.bipush 7, 2) := by decide +kernel
theorem dX7_grounds_25 : decode cX7_grounds 25 = .ok (.iadd, 1) := by decide +kernel
theorem dX7_grounds_26 : decode cX7_grounds 26 = .ok (.dup2, 1) := by decide +kernel
theorem dX7_grounds_27 : decode cX7_grounds 27 = .ok (.iaload, 1) := by decide +kernel
theorem dX7_grounds_28 : decode cX7_grounds 28 = .ok (.iload_n 1, 1) := by decide +kernel
theorem dX7_grounds_29 : decode cX7_grounds 29 = .ok (.iload_n 3, 1) := by decide +kernel
theorem dX7_grounds_30 : decode cX7_grounds 30 = .ok (.invokestatic 146, 3) := by decide +kernel
theorem dX7_grounds_33 : decode cX7_grounds 33 = .ok (.ifCond .eq 7, 3) := by decide +kernel
theorem dX7_grounds_36 : decode cX7_grounds 36 = .ok (.iload_n 2, 1) := by decide +kernel
theorem dX7_grounds_37 : decode cX7_grounds 37 = .ok (.goto 4, 3) := by decide +kernel
theorem dX7_grounds_40 : decode cX7_grounds 40 = .ok (.iconst 0, 1) := by decide +kernel
theorem dX7_grounds_41 : decode cX7_grounds 41 = .ok (.iadd, 1) := by decide +kernel
theorem dX7_grounds_42 : decode cX7_grounds 42 = .ok (.iastore, 1) := by decide +kernel
theorem dX7_grounds_43 : decode cX7_grounds 43 = .ok (.iinc 3 1, 3) := by decide +kernel
theorem dX7_grounds_46 : decode cX7_grounds 46 = .ok (.goto (-44), 3) := by decide +kernel
theorem dX7_grounds_49 : decode cX7_grounds 49 = .ok (.return_, 1) := by decide +kernel
theorem dX7_ebbs_0 : decode cX7_ebbs 0 = .ok (.aload_n 0, 1) := by decide +kernel
theorem dX7_ebbs_1 : decode cX7_ebbs 1 = .ok (.invokevirtual 191, 3) := by decide +kernel
theorem dX7_ebbs_4 : decode cX7_ebbs 4 = .ok (.istore_n 1, 1) := by decide +kernel
theorem dX7_ebbs_5 : decode cX7_ebbs 5 = .ok (.aload_n 0, 1) := by decide +kernel
theorem dX7_ebbs_6 : decode cX7_ebbs 6 = .ok (.iconst 3, 1) := by decide +kernel
theorem dX7_ebbs_7 : decode cX7_ebbs 7 = .ok (.aload_n 0, 1) := by decide +kernel
theorem dX7_ebbs_8 : decode cX7_ebbs 8 = .ok (.getfield 25, 3) := by decide +kernel
theorem dX7_ebbs_11 : decode cX7_ebbs 11 = .ok (.iconst 4, 1) := by decide +kernel
theorem dX7_ebbs_12 : decode cX7_ebbs 12 = .ok (.iaload, 1) := by decide +kernel
theorem dX7_ebbs_13 : decode cX7_ebbs 13 = .ok (.iload_n 1, 1) := by decide +kernel
theorem dX7_ebbs_14 : decode cX7_ebbs 14 = .ok (.iconst 0, 1) := by decide +kernel
theorem dX7_ebbs_15 : decode cX7_ebbs 15 = .ok (.invokevirtual 177, 3) := by decide +kernel
theorem dX7_ebbs_18 : decode cX7_ebbs 18 = .ok (.aload_n 0, 1) := by decide +kernel
theorem dX7_ebbs_19 : decode cX7_ebbs 19 = .ok (.iload_n 1, 1) := by decide +kernel
theorem dX7_ebbs_20 : decode cX7_ebbs 20 = .ok (.iconst 1, 1) := by decide +kernel
theorem dX7_ebbs_21 : decode cX7_ebbs 21 = .ok (.invokevirtual 195, 3) := by decide +kernel
theorem dX7_ebbs_24 : decode cX7_ebbs 24 = .ok (.aload_n 0, 1) := by decide +kernel
theorem dX7_ebbs_25 : decode cX7_ebbs 25 = .ok (.getfield 25, 3) := by decide +kernel
theorem dX7_ebbs_28 : decode cX7_ebbs 28 = .ok (.iconst 4, 1) := by decide +kernel
theorem dX7_ebbs_29 : decode cX7_ebbs 29 = .ok (.aload_n 0, 1) := by decide +kernel
theorem dX7_ebbs_30 : decode cX7_ebbs 30 = .ok (.getfield 25, 3) := by decide +kernel
theorem dX7_ebbs_33 : decode cX7_ebbs 33 = .ok (.iconst 2, 1) := by decide +kernel
theorem dX7_ebbs_34 : decode cX7_ebbs 34 = .ok (.iaload, 1) := by decide +kernel
theorem dX7_ebbs_35 : decode cX7_ebbs 35 = .ok (.iastore, 1) := by decide +kernel
theorem dX7_ebbs_36 : decode cX7_ebbs 36 = .ok (.iload_n 1, 1) := by decide +kernel
theorem dX7_ebbs_37 : decode cX7_ebbs 37 = .ok (.ireturn, 1) := by decide +kernel
theorem dX7_tide_0 : decode cX7_tide 0 = .ok (.aload_n 0, 1) := by decide +kernel
theorem dX7_tide_1 : decode cX7_tide 1 = .ok (.invokevirtual 198, 3) := by decide +kernel
theorem dX7_tide_4 : decode cX7_tide 4 = .ok (.ifCond .ne 6, 3) := by decide +kernel
theorem dX7_tide_7 : decode cX7_tide 7 = .ok (.bipush (-4), 2) := by decide +kernel
theorem dX7_tide_9 : decode cX7_tide 9 = .ok (.ireturn, 1) := by decide +kernel
theorem dX7_tide_10 : decode cX7_tide 10 = .ok (.aload_n 0, 1) := by decide +kernel
theorem dX7_tide_11 : decode cX7_tide 11 = .ok (.getfield 25, 3) := by decide +kernel
theorem dX7_tide_14 : decode cX7_tide 14 = .ok (.iconst 3, 1) := by decide +kernel
theorem dX7_tide_15 : decode cX7_tide 15 = .ok (.iaload, 1) := by decide +kernel
theorem dX7_tide_16 : decode cX7_tide 16 = .ok (.bipush 40, 2) := by decide +kernel
theorem dX7_tide_18 : decode cX7_tide 18 = .ok (.if_icmp .ne 8, 3) := by decide +kernel
theorem dX7_tide_21 : decode cX7_tide 21 = .ok (.bipush (-2), 2) := by decide +kernel
theorem dX7_tide_23 : decode cX7_tide 23 = .ok (.goto 7, 3) := by decide +kernel
theorem dX7_tide_26 : decode cX7_tide 26 = .ok (.aload_n 0, 1) := by decide +kernel
theorem dX7_tide_27 : decode cX7_tide 27 = .ok (.invokevirtual 202, 3) := by decide +kernel
theorem dX7_tide_30 : decode cX7_tide 30 = .ok (.ireturn, 1) := by decide +kernel
theorem dX7_year_0 : decode cX7_year 0 = .ok (.aload_n 0, 1) := by decide +kernel
theorem dX7_year_1 : decode cX7_year 1 = .ok (.invokevirtual 198, 3) := by decide +kernel
theorem dX7_year_4 : decode cX7_year 4 = .ok (.ifCond .eq 15, 3) := by decide +kernel
theorem dX7_year_7 : decode cX7_year 7 = .ok (.aload_n 0, 1) := by decide +kernel
theorem dX7_year_8 : decode cX7_year 8 = .ok (.getfield 25, 3) := by decide +kernel
theorem dX7_year_11 : decode cX7_year 11 = .ok (.iconst 1, 1) := by decide +kernel
theorem dX7_year_12 : decode cX7_year 12 = .ok (.iaload, 1) := by decide +kernel
theorem dX7_year_13 : decode cX7_year 13 = .ok (.sipush 999, 3) := by decide +kernel
theorem dX7_year_16 : decode cX7_year 16 = .ok (.if_icmp .ne 6, 3) := by decide +kernel
theorem dX7_year_19 : decode cX7_year 19 = .ok (.bipush (-4), 2) := by decide +kernel
theorem dX7_year_21 : decode cX7_year 21 = .ok (.ireturn, 1) := by decide +kernel
theorem dX7_year_22 : decode cX7_year 22 = .ok (.aload_n 0, 1) := by decide +kernel
theorem dX7_year_23 : decode cX7_year 23 = .ok (.getfield 25, 3) := by decide +kernel
theorem dX7_year_26 : decode cX7_year 26 = .ok (.iconst 3, 1) := by decide +kernel
theorem dX7_year_27 : decode cX7_year 27 = .ok (.iaload, 1) := by decide +kernel
theorem dX7_year_28 : decode cX7_year 28 = .ok (.bipush 40, 2) := by decide +kernel
theorem dX7_year_30 : decode cX7_year 30 = .ok (.if_icmp .ne 6, 3) := by decide +kernel
theorem dX7_year_33 : decode cX7_year 33 = .ok (.bipush (-2), 2) := by decide +kernel
theorem dX7_year_35 : decode cX7_year 35 = .ok (.ireturn, 1) := by decide +kernel
theorem dX7_year_36 : decode cX7_year 36 = .ok (.aload_n 0, 1) := by decide +kernel
theorem dX7_year_37 : decode cX7_year 37 = .ok (.iconst 4, 1) := by decide +kernel
theorem dX7_year_38 : decode cX7_year 38 = .ok (.iconst 0, 1) := by decide +kernel
theorem dX7_year_39 : decode cX7_year 39 = .ok (.iconst 0, 1) := by decide +kernel
theorem dX7_year_40 : decode cX7_year 40 = .ok (.iconst 0, 1) := by decide +kernel
theorem dX7_year_41 : decode cX7_year 41 = .ok (.invokevirtual 177, 3) := by decide +kernel
theorem dX7_year_44 : decode cX7_year 44 = .ok (.aload_n 0, 1) := by decide +kernel
theorem dX7_year_45 : decode cX7_year 45 = .ok (.getfield 25, 3) := by decide +kernel
theorem dX7_year_48 : decode cX7_year 48 = .ok (.iconst 1, 1) := by decide +kernel
theorem dX7_year_49 : decode cX7_year 49 = .ok (.dup2, 1) := by decide +kernel
theorem dX7_year_50 : decode cX7_year 50 = .ok (.iaload, 1) := by decide +kernel
theorem dX7_year_51 : decode cX7_year 51 = .ok (.iconst 1, 1) := by decide +kernel
theorem dX7_year_52 : decode cX7_year 52 = .ok (.iadd, 1) := by decide +kernel
theorem dX7_year_53 : decode cX7_year 53 = .ok (.iastore, 1) := by decide +kernel
theorem dX7_year_54 : decode cX7_year 54 = .ok (.aload_n 0, 1) := by decide +kernel
theorem dX7_year_55 : decode cX7_year 55 = .ok (.getfield 25, 3) := by decide +kernel
theorem dX7_year_58 : decode cX7_year 58 = .ok (.iconst 1, 1) := by decide +kernel
theorem dX7_year_59 : decode cX7_year 59 = .ok (.iaload, 1) := by decide +kernel
theorem dX7_year_60 : decode cX7_year 60 = .ok (.ireturn, 1) := by decide +kernel
theorem dX7_takesBack_0 : decode cX7_takesBack 0 = .ok (.aload_n 0, 1) := by decide +kernel
theorem dX7_takesBack_1 : decode cX7_takesBack 1 = .ok (.getfield 25, 3) := by decide +kernel
theorem dX7_takesBack_4 : decode cX7_takesBack 4 = .ok (.iload_n 1, 1) := by decide +kernel
theorem dX7_takesBack_5 : decode cX7_takesBack 5 = .ok (.iconst 1, 1) := by decide +kernel
theorem dX7_takesBack_6 : decode cX7_takesBack 6 = .ok (.iadd, 1) := by decide +kernel
theorem dX7_takesBack_7 : decode cX7_takesBack 7 = .ok (.iaload, 1) := by decide +kernel
theorem dX7_takesBack_8 : decode cX7_takesBack 8 = .ok (.istore_n 2, 1) := by decide +kernel
theorem dX7_takesBack_9 : decode cX7_takesBack 9 = .ok (.aload_n 0, 1) := by decide +kernel
theorem dX7_takesBack_10 : decode cX7_takesBack 10 = .ok (.getfield 25, 3) := by decide +kernel
theorem dX7_takesBack_13 : decode cX7_takesBack 13 = .ok (.iload_n 1, 1) := by decide +kernel
theorem dX7_takesBack_14 : decode cX7_takesBack 14 = .ok (.iaload, 1) := by decide +kernel
theorem dX7_takesBack_15 : decode cX7_takesBack 15 = .ok (.tableswitch 144 0 3 #[29, 81, 100, 121], 29) := by decide +kernel
theorem dX7_takesBack_44 : decode cX7_takesBack 44 = .ok (.aload_n 0, 1) := by decide +kernel
theorem dX7_takesBack_45 : decode cX7_takesBack 45 = .ok (.getfield 25, 3) := by decide +kernel
theorem dX7_takesBack_48 : decode cX7_takesBack 48 = .ok (.iconst 5, 1) := by decide +kernel
theorem dX7_takesBack_49 : decode cX7_takesBack 49 = .ok (.dup2, 1) := by decide +kernel
theorem dX7_takesBack_50 : decode cX7_takesBack 50 = .ok (.iaload, 1) := by decide +kernel
theorem dX7_takesBack_51 : decode cX7_takesBack 51 = .ok (.iconst 1, 1) := by decide +kernel
theorem dX7_takesBack_52 : decode cX7_takesBack 52 = .ok (.iload_n 2, 1) := by decide +kernel
theorem dX7_takesBack_53 : decode cX7_takesBack 53 = .ok (.ishl, 1) := by decide +kernel
theorem dX7_takesBack_54 : decode cX7_takesBack 54 = .ok (.ixor, 1) := by decide +kernel
theorem dX7_takesBack_55 : decode cX7_takesBack 55 = .ok (.iastore, 1) := by decide +kernel
theorem dX7_takesBack_56 : decode cX7_takesBack 56 = .ok (.aload_n 0, 1) := by decide +kernel
theorem dX7_takesBack_57 : decode cX7_takesBack 57 = .ok (.getfield 25, 3) := by decide +kernel
theorem dX7_takesBack_60 : decode cX7_takesBack 60 = .ok (.bipush 6, 2) := by decide +kernel
theorem dX7_takesBack_62 : decode cX7_takesBack 62 = .ok (.dup2, 1) := by decide +kernel
theorem dX7_takesBack_63 : decode cX7_takesBack 63 = .ok (.iaload, 1) := by decide +kernel
theorem dX7_takesBack_64 : decode cX7_takesBack 64 = .ok (.aload_n 0, 1) := by decide +kernel
theorem dX7_takesBack_65 : decode cX7_takesBack 65 = .ok (.getfield 25, 3) := by decide +kernel
theorem dX7_takesBack_68 : decode cX7_takesBack 68 = .ok (.iload_n 1, 1) := by decide +kernel
theorem dX7_takesBack_69 : decode cX7_takesBack 69 = .ok (.iconst 2, 1) := by decide +kernel
theorem dX7_takesBack_70 : decode cX7_takesBack 70 = .ok (.iadd, 1) := by decide +kernel
theorem dX7_takesBack_71 : decode cX7_takesBack 71 = .ok (.iaload, 1) := by decide +kernel
theorem dX7_takesBack_72 : decode cX7_takesBack 72 = .ok (.isub, 1) := by decide +kernel
theorem dX7_takesBack_73 : decode cX7_takesBack 73 = .ok (.iastore, 1) := by decide +kernel
theorem dX7_takesBack_74 : decode cX7_takesBack 74 = .ok (.aload_n 0, 1) := by decide +kernel
theorem dX7_takesBack_75 : decode cX7_takesBack 75 = .ok (.getfield 25, 3) := by decide +kernel
theorem dX7_takesBack_78 : decode cX7_takesBack 78 = .ok (.iconst 4, 1) := by decide +kernel
theorem dX7_takesBack_79 : decode cX7_takesBack 79 = .ok (.dup2, 1) := by decide +kernel
theorem dX7_takesBack_80 : decode cX7_takesBack 80 = .ok (.iaload, 1) := by decide +kernel
theorem dX7_takesBack_81 : decode cX7_takesBack 81 = .ok (.iconst 1, 1) := by decide +kernel
theorem dX7_takesBack_82 : decode cX7_takesBack 82 = .ok (.aload_n 0, 1) := by decide +kernel
theorem dX7_takesBack_83 : decode cX7_takesBack 83 = .ok (.getfield 25, 3) := by decide +kernel
theorem dX7_takesBack_86 : decode cX7_takesBack 86 = .ok (.iload_n 1, 1) := by decide +kernel
theorem dX7_takesBack_87 : decode cX7_takesBack 87 = .ok (.iconst 2, 1) := by decide +kernel
theorem dX7_takesBack_88 : decode cX7_takesBack 88 = .ok (.iadd, 1) := by decide +kernel
theorem dX7_takesBack_89 : decode cX7_takesBack 89 = .ok (.iaload, 1) := by decide +kernel
theorem dX7_takesBack_90 : decode cX7_takesBack 90 = .ok (.iadd, 1) := by decide +kernel
theorem dX7_takesBack_91 : decode cX7_takesBack 91 = .ok (.iadd, 1) := by decide +kernel
theorem dX7_takesBack_92 : decode cX7_takesBack 92 = .ok (.iastore, 1) := by decide +kernel
theorem dX7_takesBack_93 : decode cX7_takesBack 93 = .ok (.goto 76, 3) := by decide +kernel
theorem dX7_takesBack_96 : decode cX7_takesBack 96 = .ok (.aload_n 0, 1) := by decide +kernel
theorem dX7_takesBack_97 : decode cX7_takesBack 97 = .ok (.getfield 25, 3) := by decide +kernel
theorem dX7_takesBack_100 : decode cX7_takesBack 100 = .ok (.bipush 7, 2) := by decide +kernel
theorem dX7_takesBack_102 : decode cX7_takesBack 102 = .ok (.bipush 8, 2) := by decide +kernel
theorem dX7_takesBack_104 : decode cX7_takesBack 104 = .ok (.iload_n 2, 1) := by decide +kernel
theorem dX7_takesBack_105 : decode cX7_takesBack 105 = .ok (.imul, 1) := by decide +kernel
theorem dX7_takesBack_106 : decode cX7_takesBack 106 = .ok (.iadd, 1) := by decide +kernel
theorem dX7_takesBack_107 : decode cX7_takesBack 107 = .ok (.bipush 6, 2) := by decide +kernel
theorem dX7_takesBack_109 : decode cX7_takesBack 109 = .ok (.iadd, 1) := by decide +kernel
theorem dX7_takesBack_110 : decode cX7_takesBack 110 = .ok (.iconst 0, 1) := by decide +kernel
theorem dX7_takesBack_111 : decode cX7_takesBack 111 = .ok (.iastore, 1) := by decide +kernel
theorem dX7_takesBack_112 : decode cX7_takesBack 112 = .ok (.goto 57, 3) := by decide +kernel
theorem dX7_takesBack_115 : decode cX7_takesBack 115 = .ok (.aload_n 0, 1) := by decide +kernel
theorem dX7_takesBack_116 : decode cX7_takesBack 116 = .ok (.getfield 25, 3) := by decide +kernel
theorem dX7_takesBack_119 : decode cX7_takesBack 119 = .ok (.bipush 7, 2) := by decide +kernel
theorem dX7_takesBack_121 : decode cX7_takesBack 121 = .ok (.bipush 8, 2) := by decide +kernel
theorem dX7_takesBack_123 : decode cX7_takesBack 123 = .ok (.iload_n 2, 1) := by decide +kernel
theorem dX7_takesBack_124 : decode cX7_takesBack 124 = .ok (.imul, 1) := by decide +kernel
theorem dX7_takesBack_125 : decode cX7_takesBack 125 = .ok (.iadd, 1) := by decide +kernel
theorem dX7_takesBack_126 : decode cX7_takesBack 126 = .ok (.iconst 5, 1) := by decide +kernel
theorem dX7_takesBack_127 : decode cX7_takesBack 127 = .ok (.iadd, 1) := by decide +kernel
theorem dX7_takesBack_128 : decode cX7_takesBack 128 = .ok (.dup2, 1) := by decide +kernel
theorem dX7_takesBack_129 : decode cX7_takesBack 129 = .ok (.iaload, 1) := by decide +kernel
theorem dX7_takesBack_130 : decode cX7_takesBack 130 = .ok (.iconst 5, 1) := by decide +kernel
theorem dX7_takesBack_131 : decode cX7_takesBack 131 = .ok (.isub, 1) := by decide +kernel
theorem dX7_takesBack_132 : decode cX7_takesBack 132 = .ok (.iastore, 1) := by decide +kernel
theorem dX7_takesBack_133 : decode cX7_takesBack 133 = .ok (.goto 36, 3) := by decide +kernel
theorem dX7_takesBack_136 : decode cX7_takesBack 136 = .ok (.aload_n 0, 1) := by decide +kernel
theorem dX7_takesBack_137 : decode cX7_takesBack 137 = .ok (.getfield 25, 3) := by decide +kernel
theorem dX7_takesBack_140 : decode cX7_takesBack 140 = .ok (.iconst 4, 1) := by decide +kernel
theorem dX7_takesBack_141 : decode cX7_takesBack 141 = .ok (.iload_n 2, 1) := by decide +kernel
theorem dX7_takesBack_142 : decode cX7_takesBack 142 = .ok (.iastore, 1) := by decide +kernel
theorem dX7_takesBack_143 : decode cX7_takesBack 143 = .ok (.aload_n 0, 1) := by decide +kernel
theorem dX7_takesBack_144 : decode cX7_takesBack 144 = .ok (.aload_n 0, 1) := by decide +kernel
theorem dX7_takesBack_145 : decode cX7_takesBack 145 = .ok (.getfield 25, 3) := by decide +kernel
theorem dX7_takesBack_148 : decode cX7_takesBack 148 = .ok (.iload_n 1, 1) := by decide +kernel
theorem dX7_takesBack_149 : decode cX7_takesBack 149 = .ok (.iconst 2, 1) := by decide +kernel
theorem dX7_takesBack_150 : decode cX7_takesBack 150 = .ok (.iadd, 1) := by decide +kernel
theorem dX7_takesBack_151 : decode cX7_takesBack 151 = .ok (.iaload, 1) := by decide +kernel
theorem dX7_takesBack_152 : decode cX7_takesBack 152 = .ok (.iconst (-1), 1) := by decide +kernel
theorem dX7_takesBack_153 : decode cX7_takesBack 153 = .ok (.invokevirtual 195, 3) := by decide +kernel
theorem dX7_takesBack_156 : decode cX7_takesBack 156 = .ok (.goto 13, 3) := by decide +kernel
theorem dX7_takesBack_159 : decode cX7_takesBack 159 = .ok (.aload_n 0, 1) := by decide +kernel
theorem dX7_takesBack_160 : decode cX7_takesBack 160 = .ok (.getfield 25, 3) := by decide +kernel
theorem dX7_takesBack_163 : decode cX7_takesBack 163 = .ok (.iconst 1, 1) := by decide +kernel
theorem dX7_takesBack_164 : decode cX7_takesBack 164 = .ok (.dup2, 1) := by decide +kernel
theorem dX7_takesBack_165 : decode cX7_takesBack 165 = .ok (.iaload, 1) := by decide +kernel
theorem dX7_takesBack_166 : decode cX7_takesBack 166 = .ok (.iconst 1, 1) := by decide +kernel
theorem dX7_takesBack_167 : decode cX7_takesBack 167 = .ok (.isub, 1) := by decide +kernel
theorem dX7_takesBack_168 : decode cX7_takesBack 168 = .ok (.iastore, 1) := by decide +kernel
theorem dX7_takesBack_169 : decode cX7_takesBack 169 = .ok (.return_, 1) := by decide +kernel
theorem dX7_undo_0 : decode cX7_undo 0 = .ok (.iload_n 1, 1) := by decide +kernel
theorem dX7_undo_1 : decode cX7_undo 1 = .ok (.iconst 0, 1) := by decide +kernel
theorem dX7_undo_2 : decode cX7_undo 2 = .ok (.aload_n 0, 1) := by decide +kernel
theorem dX7_undo_3 : decode cX7_undo 3 = .ok (.getfield 25, 3) := by decide +kernel
theorem dX7_undo_6 : decode cX7_undo 6 = .ok (.iconst 3, 1) := by decide +kernel
theorem dX7_undo_7 : decode cX7_undo 7 = .ok (.iaload, 1) := by decide +kernel
theorem dX7_undo_8 : decode cX7_undo 8 = .ok (.invokestatic 64, 3) := by decide +kernel
theorem dX7_undo_11 : decode cX7_undo 11 = .ok (.ifCond .ne 5, 3) := by decide +kernel
theorem dX7_undo_14 : decode cX7_undo 14 = .ok (.iconst (-1), 1) := by decide +kernel
theorem dX7_undo_15 : decode cX7_undo 15 = .ok (.ireturn, 1) := by decide +kernel
theorem dX7_undo_16 : decode cX7_undo 16 = .ok (.aload_n 0, 1) := by decide +kernel
theorem dX7_undo_17 : decode cX7_undo 17 = .ok (.getfield 25, 3) := by decide +kernel
theorem dX7_undo_20 : decode cX7_undo 20 = .ok (.iconst 3, 1) := by decide +kernel
theorem dX7_undo_21 : decode cX7_undo 21 = .ok (.iaload, 1) := by decide +kernel
theorem dX7_undo_22 : decode cX7_undo 22 = .ok (.iload_n 1, 1) := by decide +kernel
theorem dX7_undo_23 : decode cX7_undo 23 = .ok (.isub, 1) := by decide +kernel
theorem dX7_undo_24 : decode cX7_undo 24 = .ok (.istore_n 2, 1) := by decide +kernel
theorem dX7_undo_25 : decode cX7_undo 25 = .ok (.aload_n 0, 1) := by decide +kernel
theorem dX7_undo_26 : decode cX7_undo 26 = .ok (.getfield 25, 3) := by decide +kernel
theorem dX7_undo_29 : decode cX7_undo 29 = .ok (.iconst 3, 1) := by decide +kernel
theorem dX7_undo_30 : decode cX7_undo 30 = .ok (.iaload, 1) := by decide +kernel
theorem dX7_undo_31 : decode cX7_undo 31 = .ok (.iconst 1, 1) := by decide +kernel
theorem dX7_undo_32 : decode cX7_undo 32 = .ok (.isub, 1) := by decide +kernel
theorem dX7_undo_33 : decode cX7_undo 33 = .ok (.istore_n 3, 1) := by decide +kernel
theorem dX7_undo_34 : decode cX7_undo 34 = .ok (.iload_n 3, 1) := by decide +kernel
theorem dX7_undo_35 : decode cX7_undo 35 = .ok (.iload_n 1, 1) := by decide +kernel
theorem dX7_undo_36 : decode cX7_undo 36 = .ok (.if_icmp .lt 19, 3) := by decide +kernel
theorem dX7_undo_39 : decode cX7_undo 39 = .ok (.aload_n 0, 1) := by decide +kernel
theorem dX7_undo_40 : decode cX7_undo 40 = .ok (.bipush 55, 2) := by decide +kernel
theorem dX7_undo_42 : decode cX7_undo 42 = .ok (.iconst 4, 1) := by decide +kernel
theorem dX7_undo_43 : decode cX7_undo 43 = .ok (.iload_n 3, 1) := by decide +kernel
theorem dX7_undo_44 : decode cX7_undo 44 = .ok (.imul, 1) := by decide +kernel
theorem dX7_undo_45 : decode cX7_undo 45 = .ok (.iadd, 1) := by decide +kernel
theorem dX7_undo_46 : decode cX7_undo 46 = .ok (.invokevirtual 205, 3) := by decide +kernel
theorem dX7_undo_49 : decode cX7_undo 49 = .ok (.iinc 3 (-1), 3) := by decide +kernel
theorem dX7_undo_52 : decode cX7_undo 52 = .ok (.goto (-18), 3) := by decide +kernel
theorem dX7_undo_55 : decode cX7_undo 55 = .ok (.aload_n 0, 1) := by decide +kernel
theorem dX7_undo_56 : decode cX7_undo 56 = .ok (.getfield 25, 3) := by decide +kernel
theorem dX7_undo_59 : decode cX7_undo 59 = .ok (.iconst 3, 1) := by decide +kernel
theorem dX7_undo_60 : decode cX7_undo 60 = .ok (.iload_n 1, 1) := by decide +kernel
theorem dX7_undo_61 : decode cX7_undo 61 = .ok (.iastore, 1) := by decide +kernel
theorem dX7_undo_62 : decode cX7_undo 62 = .ok (.iload_n 2, 1) := by decide +kernel
theorem dX7_undo_63 : decode cX7_undo 63 = .ok (.ireturn, 1) := by decide +kernel
theorem dX7_keep_0 : decode cX7_keep 0 = .ok (.iload_n 1, 1) := by decide +kernel
theorem dX7_keep_1 : decode cX7_keep 1 = .ok (.iconst 0, 1) := by decide +kernel
theorem dX7_keep_2 : decode cX7_keep 2 = .ok (.iconst 2, 1) := by decide +kernel
theorem dX7_keep_3 : decode cX7_keep 3 = .ok (.invokestatic 64, 3) := by decide +kernel
theorem dX7_keep_6 : decode cX7_keep 6 = .ok (.ifCond .ne 5, 3) := by decide +kernel
theorem dX7_keep_9 : decode cX7_keep 9 = .ok (.iconst (-1), 1) := by decide +kernel
theorem dX7_keep_10 : decode cX7_keep 10 = .ok (.ireturn, 1) := by decide +kernel
theorem dX7_keep_11 : decode cX7_keep 11 = .ok (.aload_n 0, 1) := by decide +kernel
theorem dX7_keep_12 : decode cX7_keep 12 = .ok (.invokevirtual 198, 3) := by decide +kernel
theorem dX7_keep_15 : decode cX7_keep 15 = .ok (.ifCond .ne 6, 3) := by decide +kernel
theorem dX7_keep_18 : decode cX7_keep 18 = .ok (.bipush (-4), 2) := by decide +kernel
theorem dX7_keep_20 : decode cX7_keep 20 = .ok (.ireturn, 1) := by decide +kernel
theorem dX7_keep_21 : decode cX7_keep 21 = .ok (.aload_n 0, 1) := by decide +kernel
theorem dX7_keep_22 : decode cX7_keep 22 = .ok (.getfield 25, 3) := by decide +kernel
theorem dX7_keep_25 : decode cX7_keep 25 = .ok (.iconst 0, 1) := by decide +kernel
theorem dX7_keep_26 : decode cX7_keep 26 = .ok (.aload_n 0, 1) := by decide +kernel
theorem dX7_keep_27 : decode cX7_keep 27 = .ok (.getfield 31, 3) := by decide +kernel
theorem dX7_keep_30 : decode cX7_keep 30 = .ok (.sipush 215, 3) := by decide +kernel
theorem dX7_keep_33 : decode cX7_keep 33 = .ok (.iload_n 1, 1) := by decide +kernel
theorem dX7_keep_34 : decode cX7_keep 34 = .ok (.imul, 1) := by decide +kernel
theorem dX7_keep_35 : decode cX7_keep 35 = .ok (.invokestatic 122, 3) := by decide +kernel
theorem dX7_keep_38 : decode cX7_keep 38 = .ok (.aload_n 0, 1) := by decide +kernel
theorem dX7_keep_39 : decode cX7_keep 39 = .ok (.getfield 34, 3) := by decide +kernel
theorem dX7_keep_42 : decode cX7_keep 42 = .ok (.iload_n 1, 1) := by decide +kernel
theorem dX7_keep_43 : decode cX7_keep 43 = .ok (.iconst 1, 1) := by decide +kernel
theorem dX7_keep_44 : decode cX7_keep 44 = .ok (.bastore, 1) := by decide +kernel
theorem dX7_keep_45 : decode cX7_keep 45 = .ok (.aload_n 0, 1) := by decide +kernel
theorem dX7_keep_46 : decode cX7_keep 46 = .ok (.getfield 25, 3) := by decide +kernel
theorem dX7_keep_49 : decode cX7_keep 49 = .ok (.iconst 3, 1) := by decide +kernel
theorem dX7_keep_50 : decode cX7_keep 50 = .ok (.iaload, 1) := by decide +kernel
theorem dX7_keep_51 : decode cX7_keep 51 = .ok (.ireturn, 1) := by decide +kernel
theorem dX7_on_0 : decode cX7_on 0 = .ok (.iload_n 1, 1) := by decide +kernel
theorem dX7_on_1 : decode cX7_on 1 = .ok (.iconst 0, 1) := by decide +kernel
theorem dX7_on_2 : decode cX7_on 2 = .ok (.iconst 2, 1) := by decide +kernel
theorem dX7_on_3 : decode cX7_on 3 = .ok (.invokestatic 64, 3) := by decide +kernel
theorem dX7_on_6 : decode cX7_on 6 = .ok (.ifCond .ne 5, 3) := by decide +kernel
theorem dX7_on_9 : decode cX7_on 9 = .ok (.iconst (-1), 1) := by decide +kernel
theorem dX7_on_10 : decode cX7_on 10 = .ok (.ireturn, 1) := by decide +kernel
theorem dX7_on_11 : decode cX7_on 11 = .ok (.aload_n 0, 1) := by decide +kernel
theorem dX7_on_12 : decode cX7_on 12 = .ok (.getfield 34, 3) := by decide +kernel
theorem dX7_on_15 : decode cX7_on 15 = .ok (.iload_n 1, 1) := by decide +kernel
theorem dX7_on_16 : decode cX7_on 16 = .ok (.baload, 1) := by decide +kernel
theorem dX7_on_17 : decode cX7_on 17 = .ok (.ifCond .ne 9, 3) := by decide +kernel
theorem dX7_on_20 : decode cX7_on 20 = .ok (.aload_n 0, 1) := by decide +kernel
theorem dX7_on_21 : decode cX7_on 21 = .ok (.iconst 1, 1) := by decide +kernel
theorem dX7_on_22 : decode cX7_on 22 = .ok (.invokevirtual 72, 3) := by decide +kernel
theorem dX7_on_25 : decode cX7_on 25 = .ok (.ireturn, 1) := by decide +kernel
theorem dX7_on_26 : decode cX7_on 26 = .ok (.aload_n 0, 1) := by decide +kernel
theorem dX7_on_27 : decode cX7_on 27 = .ok (.getfield 31, 3) := by decide +kernel
theorem dX7_on_30 : decode cX7_on 30 = .ok (.sipush 215, 3) := by decide +kernel
theorem dX7_on_33 : decode cX7_on 33 = .ok (.iload_n 1, 1) := by decide +kernel
theorem dX7_on_34 : decode cX7_on 34 = .ok (.imul, 1) := by decide +kernel
theorem dX7_on_35 : decode cX7_on 35 = .ok (.aload_n 0, 1) := by decide +kernel
theorem dX7_on_36 : decode cX7_on 36 = .ok (.getfield 25, 3) := by decide +kernel
theorem dX7_on_39 : decode cX7_on 39 = .ok (.iconst 0, 1) := by decide +kernel
theorem dX7_on_40 : decode cX7_on 40 = .ok (.invokestatic 122, 3) := by decide +kernel
theorem dX7_on_43 : decode cX7_on 43 = .ok (.aload_n 0, 1) := by decide +kernel
theorem dX7_on_44 : decode cX7_on 44 = .ok (.getfield 25, 3) := by decide +kernel
theorem dX7_on_47 : decode cX7_on 47 = .ok (.iconst 3, 1) := by decide +kernel
theorem dX7_on_48 : decode cX7_on 48 = .ok (.iaload, 1) := by decide +kernel
theorem dX7_on_49 : decode cX7_on 49 = .ok (.ireturn, 1) := by decide +kernel
theorem dX7_berths_0 : decode cX7_berths 0 = .ok (.iload_n 1, 1) := by decide +kernel
theorem dX7_berths_1 : decode cX7_berths 1 = .ok (.invokestatic 68, 3) := by decide +kernel
theorem dX7_berths_4 : decode cX7_berths 4 = .ok (.ifCond .ne 5, 3) := by decide +kernel
theorem dX7_berths_7 : decode cX7_berths 7 = .ok (.iconst (-1), 1) := by decide +kernel
theorem dX7_berths_8 : decode cX7_berths 8 = .ok (.ireturn, 1) := by decide +kernel
theorem dX7_berths_9 : decode cX7_berths 9 = .ok (.aload_n 0, 1) := by decide +kernel
theorem dX7_berths_10 : decode cX7_berths 10 = .ok (.invokevirtual 198, 3) := by decide +kernel
theorem dX7_berths_13 : decode cX7_berths 13 = .ok (.ifCond .ne 6, 3) := by decide +kernel
theorem dX7_berths_16 : decode cX7_berths 16 = .ok (.bipush (-4), 2) := by decide +kernel
theorem dX7_berths_18 : decode cX7_berths 18 = .ok (.ireturn, 1) := by decide +kernel
theorem dX7_berths_19 : decode cX7_berths 19 = .ok (.aload_n 0, 1) := by decide +kernel
theorem dX7_berths_20 : decode cX7_berths 20 = .ok (.getfield 25, 3) := by decide +kernel
theorem dX7_berths_23 : decode cX7_berths 23 = .ok (.iconst 5, 1) := by decide +kernel
theorem dX7_berths_24 : decode cX7_berths 24 = .ok (.iaload, 1) := by decide +kernel
theorem dX7_berths_25 : decode cX7_berths 25 = .ok (.invokestatic 153, 3) := by decide +kernel
theorem dX7_berths_28 : decode cX7_berths 28 = .ok (.istore_n 2, 1) := by decide +kernel
theorem dX7_berths_29 : decode cX7_berths 29 = .ok (.aload_n 0, 1) := by decide +kernel
theorem dX7_berths_30 : decode cX7_berths 30 = .ok (.iload_n 1, 1) := by decide +kernel
theorem dX7_berths_31 : decode cX7_berths 31 = .ok (.iload_n 2, 1) := by decide +kernel
theorem dX7_berths_32 : decode cX7_berths 32 = .ok (.invokevirtual 76, 3) := by decide +kernel
theorem dX7_berths_35 : decode cX7_berths 35 = .ok (.iconst 0, 1) := by decide +kernel
theorem dX7_berths_36 : decode cX7_berths 36 = .ok (.istore_n 3, 1) := by decide +kernel
theorem dX7_berths_37 : decode cX7_berths 37 = .ok (.iload_n 3, 1) := by decide +kernel
theorem dX7_berths_38 : decode cX7_berths 38 = .ok (.aload_n 0, 1) := by decide +kernel
theorem dX7_berths_39 : decode cX7_berths 39 = .ok (.getfield 25, 3) := by decide +kernel
theorem dX7_berths_42 : decode cX7_berths 42 = .ok (.iconst 0, 1) := by decide +kernel
theorem dX7_berths_43 : decode cX7_berths 43 = .ok (.iaload, 1) := by decide +kernel
theorem dX7_berths_44 : decode cX7_berths 44 = .ok (.if_icmp .ge 44, 3) := by decide +kernel
theorem dX7_berths_47 : decode cX7_berths 47 = .ok (.aload_n 0, 1) := by decide +kernel
theorem dX7_berths_48 : decode cX7_berths 48 = .ok (.getfield 25, 3) := by decide +kernel
theorem dX7_berths_51 : decode cX7_berths 51 = .ok (.iconst 5, 1) := by decide +kernel
theorem dX7_berths_52 : decode cX7_berths 52 = .ok (.iaload, 1) := by decide +kernel
theorem dX7_berths_53 : decode cX7_berths 53 = .ok (.iload_n 3, 1) := by decide +kernel
theorem dX7_berths_54 : decode cX7_berths 54 = .ok (.invokestatic 146, 3) := by decide +kernel
theorem dX7_berths_57 : decode cX7_berths 57 = .ok (.ifCond .eq 25, 3) := by decide +kernel
theorem dX7_berths_60 : decode cX7_berths 60 = .ok (.aload_n 0, 1) := by decide +kernel
theorem dX7_berths_61 : decode cX7_berths 61 = .ok (.getfield 13, 3) := by decide +kernel
theorem dX7_berths_64 : decode cX7_berths 64 = .ok (.bipush 40, 2) := by decide +kernel
theorem dX7_berths_66 : decode cX7_berths 66 = .ok (.iload_n 1, 1) := by decide +kernel
theorem dX7_berths_67 : decode cX7_berths 67 = .ok (.imul, 1) := by decide +kernel
theorem dX7_berths_68 : decode cX7_berths 68 = .ok (.aload_n 0, 1) := by decide +kernel
theorem dX7_berths_69 : decode cX7_berths 69 = .ok (.iload_n 3, 1) := by decide +kernel
theorem dX7_berths_70 : decode cX7_berths 70 = .ok (.aload_n 0, 1) := by decide +kernel
theorem dX7_berths_71 : decode cX7_berths 71 = .ok (.getfield 25, 3) := by decide +kernel
theorem dX7_berths_74 : decode cX7_berths 74 = .ok (.iconst 5, 1) := by decide +kernel
theorem dX7_berths_75 : decode cX7_berths 75 = .ok (.iaload, 1) := by decide +kernel
theorem dX7_berths_76 : decode cX7_berths 76 = .ok (.invokevirtual 156, 3) := by decide +kernel
theorem dX7_berths_79 : decode cX7_berths 79 = .ok (.iadd, 1) := by decide +kernel
theorem dX7_berths_80 : decode cX7_berths 80 = .ok (.iload_n 3, 1) := by decide +kernel
theorem dX7_berths_81 : decode cX7_berths 81 = .ok (.iastore, 1) := by decide +kernel
theorem dX7_berths_82 : decode cX7_berths 82 = .ok (.iinc 3 1, 3) := by decide +kernel
theorem dX7_berths_85 : decode cX7_berths 85 = .ok (.goto (-48), 3) := by decide +kernel
theorem dX7_berths_88 : decode cX7_berths 88 = .ok (.iload_n 2, 1) := by decide +kernel
theorem dX7_berths_89 : decode cX7_berths 89 = .ok (.ireturn, 1) := by decide +kernel
theorem dX7_hours_0 : decode cX7_hours 0 = .ok (.aload_n 0, 1) := by decide +kernel
theorem dX7_hours_1 : decode cX7_hours 1 = .ok (.iload_n 1, 1) := by decide +kernel
theorem dX7_hours_2 : decode cX7_hours 2 = .ok (.invokevirtual 159, 3) := by decide +kernel
theorem dX7_hours_5 : decode cX7_hours 5 = .ok (.ifCond .eq 19, 3) := by decide +kernel
theorem dX7_hours_8 : decode cX7_hours 8 = .ok (.iconst 1, 1) := by decide +kernel
theorem dX7_hours_9 : decode cX7_hours 9 = .ok (.aload_n 0, 1) := by decide +kernel
theorem dX7_hours_10 : decode cX7_hours 10 = .ok (.iload_n 1, 1) := by decide +kernel
theorem dX7_hours_11 : decode cX7_hours 11 = .ok (.aload_n 0, 1) := by decide +kernel
theorem dX7_hours_12 : decode cX7_hours 12 = .ok (.getfield 25, 3) := by decide +kernel
theorem dX7_hours_15 : decode cX7_hours 15 = .ok (.iconst 5, 1) := by decide +kernel
theorem dX7_hours_16 : decode cX7_hours 16 = .ok (.iaload, 1) := by decide +kernel
theorem dX7_hours_17 : decode cX7_hours 17 = .ok (.invokevirtual 174, 3) := by decide +kernel
theorem dX7_hours_20 : decode cX7_hours 20 = .ok (.iadd, 1) := by decide +kernel
theorem dX7_hours_21 : decode cX7_hours 21 = .ok (.goto 4, 3) := by decide +kernel
theorem dX7_hours_24 : decode cX7_hours 24 = .ok (.iconst (-1), 1) := by decide +kernel
theorem dX7_hours_25 : decode cX7_hours 25 = .ok (.ireturn, 1) := by decide +kernel
theorem dX7_ground_0 : decode cX7_ground 0 = .ok (.aload_n 0, 1) := by decide +kernel
theorem dX7_ground_1 : decode cX7_ground 1 = .ok (.invokevirtual 198, 3) := by decide +kernel
theorem dX7_ground_4 : decode cX7_ground 4 = .ok (.ifCond .ne 6, 3) := by decide +kernel
theorem dX7_ground_7 : decode cX7_ground 7 = .ok (.bipush (-4), 2) := by decide +kernel
theorem dX7_ground_9 : decode cX7_ground 9 = .ok (.ireturn, 1) := by decide +kernel
theorem dX7_ground_10 : decode cX7_ground 10 = .ok (.iconst 0, 1) := by decide +kernel
theorem dX7_ground_11 : decode cX7_ground 11 = .ok (.istore_n 1, 1) := by decide +kernel
theorem dX7_ground_12 : decode cX7_ground 12 = .ok (.iconst 0, 1) := by decide +kernel
theorem dX7_ground_13 : decode cX7_ground 13 = .ok (.istore_n 2, 1) := by decide +kernel
theorem dX7_ground_14 : decode cX7_ground 14 = .ok (.iload_n 2, 1) := by decide +kernel
theorem dX7_ground_15 : decode cX7_ground 15 = .ok (.aload_n 0, 1) := by decide +kernel
theorem dX7_ground_16 : decode cX7_ground 16 = .ok (.getfield 25, 3) := by decide +kernel
theorem dX7_ground_19 : decode cX7_ground 19 = .ok (.iconst 0, 1) := by decide +kernel
theorem dX7_ground_20 : decode cX7_ground 20 = .ok (.iaload, 1) := by decide +kernel
theorem dX7_ground_21 : decode cX7_ground 21 = .ok (.if_icmp .ge 17, 3) := by decide +kernel
theorem dX7_ground_24 : decode cX7_ground 24 = .ok (.iload_n 1, 1) := by decide +kernel
theorem dX7_ground_25 : decode cX7_ground 25 = .ok (.aload_n 0, 1) := by decide +kernel
theorem dX7_ground_26 : decode cX7_ground 26 = .ok (.iload_n 2, 1) := by decide +kernel
theorem dX7_ground_27 : decode cX7_ground 27 = .ok (.invokevirtual 188, 3) := by decide +kernel
theorem dX7_ground_30 : decode cX7_ground 30 = .ok (.iadd, 1) := by decide +kernel
theorem dX7_ground_31 : decode cX7_ground 31 = .ok (.istore_n 1, 1) := by decide +kernel
theorem dX7_ground_32 : decode cX7_ground 32 = .ok (.iinc 2 1, 3) := by decide +kernel
theorem dX7_ground_35 : decode cX7_ground 35 = .ok (.goto (-21), 3) := by decide +kernel
theorem dX7_ground_38 : decode cX7_ground 38 = .ok (.aload_n 0, 1) := by decide +kernel
theorem dX7_ground_39 : decode cX7_ground 39 = .ok (.aload_n 0, 1) := by decide +kernel
theorem dX7_ground_40 : decode cX7_ground 40 = .ok (.invokevirtual 191, 3) := by decide +kernel
theorem dX7_ground_43 : decode cX7_ground 43 = .ok (.iload_n 1, 1) := by decide +kernel
theorem dX7_ground_44 : decode cX7_ground 44 = .ok (.invokevirtual 84, 3) := by decide +kernel
theorem dX7_ground_47 : decode cX7_ground 47 = .ok (.ireturn, 1) := by decide +kernel
theorem dX7_enters_0 : decode cX7_enters 0 = .ok (.aload_n 0, 1) := by decide +kernel
theorem dX7_enters_1 : decode cX7_enters 1 = .ok (.getfield 25, 3) := by decide +kernel
theorem dX7_enters_4 : decode cX7_enters 4 = .ok (.iconst 5, 1) := by decide +kernel
theorem dX7_enters_5 : decode cX7_enters 5 = .ok (.iaload, 1) := by decide +kernel
theorem dX7_enters_6 : decode cX7_enters 6 = .ok (.istore_n 2, 1) := by decide +kernel
theorem dX7_enters_7 : decode cX7_enters 7 = .ok (.aload_n 0, 1) := by decide +kernel
theorem dX7_enters_8 : decode cX7_enters 8 = .ok (.getfield 25, 3) := by decide +kernel
theorem dX7_enters_11 : decode cX7_enters 11 = .ok (.iconst 4, 1) := by decide +kernel
theorem dX7_enters_12 : decode cX7_enters 12 = .ok (.iaload, 1) := by decide +kernel
theorem dX7_enters_13 : decode cX7_enters 13 = .ok (.istore_n 3, 1) := by decide +kernel
theorem dX7_enters_14 : decode cX7_enters 14 = .ok (.iconst 1, 1) := by decide +kernel
theorem dX7_enters_15 : decode cX7_enters 15 = .ok (.istore 4, 2) := by decide +kernel
theorem dX7_enters_17 : decode cX7_enters 17 = .ok (.aload_n 0, 1) := by decide +kernel
theorem dX7_enters_18 : decode cX7_enters 18 = .ok (.iconst 0, 1) := by decide +kernel
theorem dX7_enters_19 : decode cX7_enters 19 = .ok (.putfield 208, 3) := by decide +kernel
theorem dX7_enters_22 : decode cX7_enters 22 = .ok (.aload_n 0, 1) := by decide +kernel
theorem dX7_enters_23 : decode cX7_enters 23 = .ok (.iconst 0, 1) := by decide +kernel
theorem dX7_enters_24 : decode cX7_enters 24 = .ok (.putfield 211, 3) := by decide +kernel
theorem dX7_enters_27 : decode cX7_enters 27 = .ok (.iconst 0, 1) := by decide +kernel
theorem dX7_enters_28 : decode cX7_enters 28 = .ok (.istore 5, 2) := by decide +kernel
theorem dX7_enters_30 : decode cX7_enters 30 = .ok (.iload 5, 2) := by decide +kernel
theorem dX7_enters_32 : decode cX7_enters 32 = .ok (.iload_n 1, 1) := by decide +kernel
theorem dX7_enters_33 : decode cX7_enters 33 = .ok (.if_icmp .ge 103, 3) := by decide +kernel
theorem dX7_enters_36 : decode cX7_enters 36 = .ok (.iload 4, 2) := by decide +kernel
theorem dX7_enters_38 : decode cX7_enters 38 = .ok (.ifCond .eq 98, 3) := by decide +kernel
theorem dX7_enters_41 : decode cX7_enters 41 = .ok (.aload_n 0, 1) := by decide +kernel
theorem dX7_enters_42 : decode cX7_enters 42 = .ok (.aload_n 0, 1) := by decide +kernel
theorem dX7_enters_43 : decode cX7_enters 43 = .ok (.getfield 41, 3) := by decide +kernel
theorem dX7_enters_46 : decode cX7_enters 46 = .ok (.iload 5, 2) := by decide +kernel
theorem dX7_enters_48 : decode cX7_enters 48 = .ok (.iaload, 1) := by decide +kernel
theorem dX7_enters_49 : decode cX7_enters 49 = .ok (.iload_n 2, 1) := by decide +kernel
theorem dX7_enters_50 : decode cX7_enters 50 = .ok (.invokevirtual 174, 3) := by decide +kernel
theorem dX7_enters_53 : decode cX7_enters 53 = .ok (.istore 6, 2) := by decide +kernel
theorem dX7_enters_55 : decode cX7_enters 55 = .ok (.iload 6, 2) := by decide +kernel
theorem dX7_enters_57 : decode cX7_enters 57 = .ok (.iconst 1, 1) := by decide +kernel
theorem dX7_enters_58 : decode cX7_enters 58 = .ok (.iadd, 1) := by decide +kernel
theorem dX7_enters_59 : decode cX7_enters 59 = .ok (.aload_n 0, 1) := by decide +kernel
theorem dX7_enters_60 : decode cX7_enters 60 = .ok (.getfield 25, 3) := by decide +kernel
theorem dX7_enters_63 : decode cX7_enters 63 = .ok (.iconst 2, 1) := by decide +kernel
theorem dX7_enters_64 : decode cX7_enters 64 = .ok (.iaload, 1) := by decide +kernel
theorem dX7_enters_65 : decode cX7_enters 65 = .ok (.if_icmp .gt 7, 3) := by decide +kernel
theorem dX7_enters_68 : decode cX7_enters 68 = .ok (.iconst 1, 1) := by decide +kernel
theorem dX7_enters_69 : decode cX7_enters 69 = .ok (.goto 4, 3) := by decide +kernel
theorem dX7_enters_72 : decode cX7_enters 72 = .ok (.iconst 0, 1) := by decide +kernel
theorem dX7_enters_73 : decode cX7_enters 73 = .ok (.istore 4, 2) := by decide +kernel
theorem dX7_enters_75 : decode cX7_enters 75 = .ok (.iload 6, 2) := by decide +kernel
theorem dX7_enters_77 : decode cX7_enters 77 = .ok (.iconst 1, 1) := by decide +kernel
theorem dX7_enters_78 : decode cX7_enters 78 = .ok (.iadd, 1) := by decide +kernel
theorem dX7_enters_79 : decode cX7_enters 79 = .ok (.iload_n 3, 1) := by decide +kernel
theorem dX7_enters_80 : decode cX7_enters 80 = .ok (.if_icmp .le 20, 3) := by decide +kernel
theorem dX7_enters_83 : decode cX7_enters 83 = .ok (.aload_n 0, 1) := by decide +kernel
theorem dX7_enters_84 : decode cX7_enters 84 = .ok (.dup, 1) := by decide +kernel
theorem dX7_enters_85 : decode cX7_enters 85 = .ok (.getfield 208, 3) := by decide +kernel
theorem dX7_enters_88 : decode cX7_enters 88 = .ok (.iconst 1, 1) := by decide +kernel
theorem dX7_enters_89 : decode cX7_enters 89 = .ok (.iadd, 1) := by decide +kernel
theorem dX7_enters_90 : decode cX7_enters 90 = .ok (.putfield 208, 3) := by decide +kernel
theorem dX7_enters_93 : decode cX7_enters 93 = .ok (.aload_n 0, 1) := by decide +kernel
theorem dX7_enters_94 : decode cX7_enters 94 = .ok (.getfield 25, 3) := by decide +kernel
theorem dX7_enters_97 : decode cX7_enters 97 = .ok (.iconst 2, 1) := by decide +kernel
theorem dX7_enters_98 : decode cX7_enters 98 = .ok (.iaload, 1) := by decide +kernel
theorem dX7_enters_99 : decode cX7_enters 99 = .ok (.istore_n 3, 1) := by decide +kernel
theorem dX7_enters_100 : decode cX7_enters 100 = .ok (.iload_n 3, 1) := by decide +kernel
theorem dX7_enters_101 : decode cX7_enters 101 = .ok (.iload 6, 2) := by decide +kernel
theorem dX7_enters_103 : decode cX7_enters 103 = .ok (.iconst 1, 1) := by decide +kernel
theorem dX7_enters_104 : decode cX7_enters 104 = .ok (.iadd, 1) := by decide +kernel
theorem dX7_enters_105 : decode cX7_enters 105 = .ok (.isub, 1) := by decide +kernel
theorem dX7_enters_106 : decode cX7_enters 106 = .ok (.istore_n 3, 1) := by decide +kernel
theorem dX7_enters_107 : decode cX7_enters 107 = .ok (.aload_n 0, 1) := by decide +kernel
theorem dX7_enters_108 : decode cX7_enters 108 = .ok (.dup, 1) := by decide +kernel
theorem dX7_enters_109 : decode cX7_enters 109 = .ok (.getfield 211, 3) := by decide +kernel
theorem dX7_enters_112 : decode cX7_enters 112 = .ok (.iload 6, 2) := by decide +kernel
theorem dX7_enters_114 : decode cX7_enters 114 = .ok (.iadd, 1) := by decide +kernel
theorem dX7_enters_115 : decode cX7_enters 115 = .ok (.putfield 211, 3) := by decide +kernel
theorem dX7_enters_118 : decode cX7_enters 118 = .ok (.iload_n 2, 1) := by decide +kernel
theorem dX7_enters_119 : decode cX7_enters 119 = .ok (.iconst 1, 1) := by decide +kernel
theorem dX7_enters_120 : decode cX7_enters 120 = .ok (.aload_n 0, 1) := by decide +kernel
theorem dX7_enters_121 : decode cX7_enters 121 = .ok (.getfield 41, 3) := by decide +kernel
theorem dX7_enters_124 : decode cX7_enters 124 = .ok (.iload 5, 2) := by decide +kernel
theorem dX7_enters_126 : decode cX7_enters 126 = .ok (.iaload, 1) := by decide +kernel
theorem dX7_enters_127 : decode cX7_enters 127 = .ok (.ishl, 1) := by decide +kernel
theorem dX7_enters_128 : decode cX7_enters 128 = .ok (.ior, 1) := by decide +kernel
theorem dX7_enters_129 : decode cX7_enters 129 = .ok (.istore_n 2, 1) := by decide +kernel
theorem dX7_enters_130 : decode cX7_enters 130 = .ok (.iinc 5 1, 3) := by decide +kernel
theorem dX7_enters_133 : decode cX7_enters 133 = .ok (.goto (-103), 3) := by decide +kernel
theorem dX7_enters_136 : decode cX7_enters 136 = .ok (.iload 4, 2) := by decide +kernel
theorem dX7_enters_138 : decode cX7_enters 138 = .ok (.ireturn, 1) := by decide +kernel
theorem dX7_nextOrder_0 : decode cX7_nextOrder 0 = .ok (.iload_n 1, 1) := by decide +kernel
theorem dX7_nextOrder_1 : decode cX7_nextOrder 1 = .ok (.iconst 2, 1) := by decide +kernel
theorem dX7_nextOrder_2 : decode cX7_nextOrder 2 = .ok (.isub, 1) := by decide +kernel
theorem dX7_nextOrder_3 : decode cX7_nextOrder 3 = .ok (.istore_n 2, 1) := by decide +kernel
theorem dX7_nextOrder_4 : decode cX7_nextOrder 4 = .ok (.iload_n 2, 1) := by decide +kernel
theorem dX7_nextOrder_5 : decode cX7_nextOrder 5 = .ok (.ifCond .lt 26, 3) := by decide +kernel
theorem dX7_nextOrder_8 : decode cX7_nextOrder 8 = .ok (.aload_n 0, 1) := by decide +kernel
theorem dX7_nextOrder_9 : decode cX7_nextOrder 9 = .ok (.getfield 41, 3) := by decide +kernel
theorem dX7_nextOrder_12 : decode cX7_nextOrder 12 = .ok (.iload_n 2, 1) := by decide +kernel
theorem dX7_nextOrder_13 : decode cX7_nextOrder 13 = .ok (.iaload, 1) := by decide +kernel
theorem dX7_nextOrder_14 : decode cX7_nextOrder 14 = .ok (.aload_n 0, 1) := by decide +kernel
theorem dX7_nextOrder_15 : decode cX7_nextOrder 15 = .ok (.getfield 41, 3) := by decide +kernel
theorem dX7_nextOrder_18 : decode cX7_nextOrder 18 = .ok (.iload_n 2, 1) := by decide +kernel
theorem dX7_nextOrder_19 : decode cX7_nextOrder 19 = .ok (.iconst 1, 1) := by decide +kernel
theorem dX7_nextOrder_20 : decode cX7_nextOrder 20 = .ok (.iadd, 1) := by decide +kernel
theorem dX7_nextOrder_21 : decode cX7_nextOrder 21 = .ok (.iaload, 1) := by decide +kernel
theorem dX7_nextOrder_22 : decode cX7_nextOrder 22 = .ok (.if_icmp .le 9, 3) := by decide +kernel
theorem dX7_nextOrder_25 : decode cX7_nextOrder 25 = .ok (.iinc 2 (-1), 3) := by decide +kernel
theorem dX7_nextOrder_28 : decode cX7_nextOrder 28 = .ok (.goto (-24), 3) := by decide +kernel
theorem dX7_nextOrder_31 : decode cX7_nextOrder 31 = .ok (.iload_n 2, 1) := by decide +kernel
theorem dX7_nextOrder_32 : decode cX7_nextOrder 32 = .ok (.ifCond .ge 5, 3) := by decide +kernel
theorem dX7_nextOrder_35 : decode cX7_nextOrder 35 = .ok (.iconst 0, 1) := by decide +kernel
theorem dX7_nextOrder_36 : decode cX7_nextOrder 36 = .ok (.ireturn, 1) := by decide +kernel
theorem dX7_nextOrder_37 : decode cX7_nextOrder 37 = .ok (.iload_n 1, 1) := by decide +kernel
theorem dX7_nextOrder_38 : decode cX7_nextOrder 38 = .ok (.iconst 1, 1) := by decide +kernel
theorem dX7_nextOrder_39 : decode cX7_nextOrder 39 = .ok (.isub, 1) := by decide +kernel
theorem dX7_nextOrder_40 : decode cX7_nextOrder 40 = .ok (.istore_n 3, 1) := by decide +kernel
theorem dX7_nextOrder_41 : decode cX7_nextOrder 41 = .ok (.aload_n 0, 1) := by decide +kernel
theorem dX7_nextOrder_42 : decode cX7_nextOrder 42 = .ok (.getfield 41, 3) := by decide +kernel
theorem dX7_nextOrder_45 : decode cX7_nextOrder 45 = .ok (.iload_n 3, 1) := by decide +kernel
theorem dX7_nextOrder_46 : decode cX7_nextOrder 46 = .ok (.iaload, 1) := by decide +kernel
theorem dX7_nextOrder_47 : decode cX7_nextOrder 47 = .ok (.aload_n 0, 1) := by decide +kernel
theorem dX7_nextOrder_48 : decode cX7_nextOrder 48 = .ok (.getfield 41, 3) := by decide +kernel
theorem dX7_nextOrder_51 : decode cX7_nextOrder 51 = .ok (.iload_n 2, 1) := by decide +kernel
theorem dX7_nextOrder_52 : decode cX7_nextOrder 52 = .ok (.iaload, 1) := by decide +kernel
theorem dX7_nextOrder_53 : decode cX7_nextOrder 53 = .ok (.if_icmp .ge 9, 3) := by decide +kernel
theorem dX7_nextOrder_56 : decode cX7_nextOrder 56 = .ok (.iinc 3 (-1), 3) := by decide +kernel
theorem dX7_nextOrder_59 : decode cX7_nextOrder 59 = .ok (.goto (-18), 3) := by decide +kernel
theorem dX7_nextOrder_62 : decode cX7_nextOrder 62 = .ok (.aload_n 0, 1) := by decide +kernel
theorem dX7_nextOrder_63 : decode cX7_nextOrder 63 = .ok (.iload_n 2, 1) := by decide +kernel
theorem dX7_nextOrder_64 : decode cX7_nextOrder 64 = .ok (.iload_n 3, 1) := by decide +kernel
theorem dX7_nextOrder_65 : decode cX7_nextOrder 65 = .ok (.invokevirtual 214, 3) := by decide +kernel
theorem dX7_nextOrder_68 : decode cX7_nextOrder 68 = .ok (.iload_n 2, 1) := by decide +kernel
theorem dX7_nextOrder_69 : decode cX7_nextOrder 69 = .ok (.iconst 1, 1) := by decide +kernel
theorem dX7_nextOrder_70 : decode cX7_nextOrder 70 = .ok (.iadd, 1) := by decide +kernel
theorem dX7_nextOrder_71 : decode cX7_nextOrder 71 = .ok (.istore 4, 2) := by decide +kernel
theorem dX7_nextOrder_73 : decode cX7_nextOrder 73 = .ok (.iload 4, 2) := by decide +kernel
theorem dX7_nextOrder_75 : decode cX7_nextOrder 75 = .ok (.iload_n 1, 1) := by decide +kernel
theorem dX7_nextOrder_76 : decode cX7_nextOrder 76 = .ok (.iload_n 2, 1) := by decide +kernel
theorem dX7_nextOrder_77 : decode cX7_nextOrder 77 = .ok (.iadd, 1) := by decide +kernel
theorem dX7_nextOrder_78 : decode cX7_nextOrder 78 = .ok (.iload 4, 2) := by decide +kernel
theorem dX7_nextOrder_80 : decode cX7_nextOrder 80 = .ok (.isub, 1) := by decide +kernel
theorem dX7_nextOrder_81 : decode cX7_nextOrder 81 = .ok (.if_icmp .ge 21, 3) := by decide +kernel
theorem dX7_nextOrder_84 : decode cX7_nextOrder 84 = .ok (.aload_n 0, 1) := by decide +kernel
theorem dX7_nextOrder_85 : decode cX7_nextOrder 85 = .ok (.iload 4, 2) := by decide +kernel
theorem dX7_nextOrder_87 : decode cX7_nextOrder 87 = .ok (.iload_n 1, 1) := by decide +kernel
theorem dX7_nextOrder_88 : decode cX7_nextOrder 88 = .ok (.iload_n 2, 1) := by decide +kernel
theorem dX7_nextOrder_89 : decode cX7_nextOrder 89 = .ok (.iadd, 1) := by decide +kernel
theorem dX7_nextOrder_90 : decode cX7_nextOrder 90 = .ok (.iload 4, 2) := by decide +kernel
theorem dX7_nextOrder_92 : decode cX7_nextOrder 92 = .ok (.isub, 1) := by decide +kernel
theorem dX7_nextOrder_93 : decode cX7_nextOrder 93 = .ok (.invokevirtual 214, 3) := by decide +kernel
theorem dX7_nextOrder_96 : decode cX7_nextOrder 96 = .ok (.iinc 4 1, 3) := by decide +kernel
theorem dX7_nextOrder_99 : decode cX7_nextOrder 99 = .ok (.goto (-26), 3) := by decide +kernel
theorem dX7_nextOrder_102 : decode cX7_nextOrder 102 = .ok (.iconst 1, 1) := by decide +kernel
theorem dX7_nextOrder_103 : decode cX7_nextOrder 103 = .ok (.ireturn, 1) := by decide +kernel
theorem dX7_swaps_0 : decode cX7_swaps 0 = .ok (.aload_n 0, 1) := by decide +kernel
theorem dX7_swaps_1 : decode cX7_swaps 1 = .ok (.getfield 41, 3) := by decide +kernel
theorem dX7_swaps_4 : decode cX7_swaps 4 = .ok (.iload_n 1, 1) := by decide +kernel
theorem dX7_swaps_5 : decode cX7_swaps 5 = .ok (.iaload, 1) := by decide +kernel
theorem dX7_swaps_6 : decode cX7_swaps 6 = .ok (.istore_n 3, 1) := by decide +kernel
theorem dX7_swaps_7 : decode cX7_swaps 7 = .ok (.aload_n 0, 1) := by decide +kernel
theorem dX7_swaps_8 : decode cX7_swaps 8 = .ok (.getfield 41, 3) := by decide +kernel
theorem dX7_swaps_11 : decode cX7_swaps 11 = .ok (.iload_n 1, 1) := by decide +kernel
theorem dX7_swaps_12 : decode cX7_swaps 12 = .ok (.aload_n 0, 1) := by decide +kernel
theorem dX7_swaps_13 : decode cX7_swaps 13 = .ok (.getfield 41, 3) := by decide +kernel
theorem dX7_swaps_16 : decode cX7_swaps 16 = .ok (.iload_n 2, 1) := by decide +kernel
theorem dX7_swaps_17 : decode cX7_swaps 17 = .ok (.iaload, 1) := by decide +kernel
theorem dX7_swaps_18 : decode cX7_swaps 18 = .ok (.iastore, 1) := by decide +kernel
theorem dX7_swaps_19 : decode cX7_swaps 19 = .ok (.aload_n 0, 1) := by decide +kernel
theorem dX7_swaps_20 : decode cX7_swaps 20 = .ok (.getfield 41, 3) := by decide +kernel
theorem dX7_swaps_23 : decode cX7_swaps 23 = .ok (.iload_n 2, 1) := by decide +kernel
theorem dX7_swaps_24 : decode cX7_swaps 24 = .ok (.iload_n 3, 1) := by decide +kernel
theorem dX7_swaps_25 : decode cX7_swaps 25 = .ok (.iastore, 1) := by decide +kernel
theorem dX7_swaps_26 : decode cX7_swaps 26 = .ok (.return_, 1) := by decide +kernel
theorem dX7_enter_0 : decode cX7_enter 0 = .ok (.iload_n 1, 1) := by decide +kernel
theorem dX7_enter_1 : decode cX7_enter 1 = .ok (.invokestatic 68, 3) := by decide +kernel
theorem dX7_enter_4 : decode cX7_enter 4 = .ok (.ifCond .ne 5, 3) := by decide +kernel
theorem dX7_enter_7 : decode cX7_enter 7 = .ok (.iconst (-1), 1) := by decide +kernel
theorem dX7_enter_8 : decode cX7_enter 8 = .ok (.ireturn, 1) := by decide +kernel
theorem dX7_enter_9 : decode cX7_enter 9 = .ok (.aload_n 0, 1) := by decide +kernel
theorem dX7_enter_10 : decode cX7_enter 10 = .ok (.invokevirtual 198, 3) := by decide +kernel
theorem dX7_enter_13 : decode cX7_enter 13 = .ok (.ifCond .ne 6, 3) := by decide +kernel
theorem dX7_enter_16 : decode cX7_enter 16 = .ok (.bipush (-4), 2) := by decide +kernel
theorem dX7_enter_18 : decode cX7_enter 18 = .ok (.ireturn, 1) := by decide +kernel
theorem dX7_enter_19 : decode cX7_enter 19 = .ok (.iconst 0, 1) := by decide +kernel
theorem dX7_enter_20 : decode cX7_enter 20 = .ok (.istore_n 2, 1) := by decide +kernel
theorem dX7_enter_21 : decode cX7_enter 21 = .ok (.iconst 0, 1) := by decide +kernel
theorem dX7_enter_22 : decode cX7_enter 22 = .ok (.istore_n 3, 1) := by decide +kernel
theorem dX7_enter_23 : decode cX7_enter 23 = .ok (.iload_n 3, 1) := by decide +kernel
theorem dX7_enter_24 : decode cX7_enter 24 = .ok (.aload_n 0, 1) := by decide +kernel
theorem dX7_enter_25 : decode cX7_enter 25 = .ok (.getfield 25, 3) := by decide +kernel
theorem dX7_enter_28 : decode cX7_enter 28 = .ok (.iconst 0, 1) := by decide +kernel
theorem dX7_enter_29 : decode cX7_enter 29 = .ok (.iaload, 1) := by decide +kernel
theorem dX7_enter_30 : decode cX7_enter 30 = .ok (.if_icmp .ge 32, 3) := by decide +kernel
theorem dX7_enter_33 : decode cX7_enter 33 = .ok (.aload_n 0, 1) := by decide +kernel
theorem dX7_enter_34 : decode cX7_enter 34 = .ok (.getfield 25, 3) := by decide +kernel
theorem dX7_enter_37 : decode cX7_enter 37 = .ok (.iconst 5, 1) := by decide +kernel
theorem dX7_enter_38 : decode cX7_enter 38 = .ok (.iaload, 1) := by decide +kernel
theorem dX7_enter_39 : decode cX7_enter 39 = .ok (.iload_n 3, 1) := by decide +kernel
theorem dX7_enter_40 : decode cX7_enter 40 = .ok (.invokestatic 146, 3) := by decide +kernel
theorem dX7_enter_43 : decode cX7_enter 43 = .ok (.ifCond .ne 13, 3) := by decide +kernel
theorem dX7_enter_46 : decode cX7_enter 46 = .ok (.aload_n 0, 1) := by decide +kernel
theorem dX7_enter_47 : decode cX7_enter 47 = .ok (.getfield 41, 3) := by decide +kernel
theorem dX7_enter_50 : decode cX7_enter 50 = .ok (.iload_n 2, 1) := by decide +kernel
theorem dX7_enter_51 : decode cX7_enter 51 = .ok (.iload_n 3, 1) := by decide +kernel
theorem dX7_enter_52 : decode cX7_enter 52 = .ok (.iastore, 1) := by decide +kernel
theorem dX7_enter_53 : decode cX7_enter 53 = .ok (.iinc 2 1, 3) := by decide +kernel
theorem dX7_enter_56 : decode cX7_enter 56 = .ok (.iinc 3 1, 3) := by decide +kernel
theorem dX7_enter_59 : decode cX7_enter 59 = .ok (.goto (-36), 3) := by decide +kernel
theorem dX7_enter_62 : decode cX7_enter 62 = .ok (.bipush (-9), 2) := by decide +kernel
theorem dX7_enter_64 : decode cX7_enter 64 = .ok (.istore_n 3, 1) := by decide +kernel
theorem dX7_enter_65 : decode cX7_enter 65 = .ok (.iconst 0, 1) := by decide +kernel
theorem dX7_enter_66 : decode cX7_enter 66 = .ok (.istore 4, 2) := by decide +kernel
theorem dX7_enter_68 : decode cX7_enter 68 = .ok (.iconst 1, 1) := by decide +kernel
theorem dX7_enter_69 : decode cX7_enter 69 = .ok (.istore 5, 2) := by decide +kernel
theorem dX7_enter_71 : decode cX7_enter 71 = .ok (.iload 5, 2) := by decide +kernel
theorem dX7_enter_73 : decode cX7_enter 73 = .ok (.ifCond .eq 96, 3) := by decide +kernel
theorem dX7_enter_76 : decode cX7_enter 76 = .ok (.aload_n 0, 1) := by decide +kernel
theorem dX7_enter_77 : decode cX7_enter 77 = .ok (.iload_n 2, 1) := by decide +kernel
theorem dX7_enter_78 : decode cX7_enter 78 = .ok (.invokevirtual 217, 3) := by decide +kernel
theorem dX7_enter_81 : decode cX7_enter 81 = .ok (.istore 6, 2) := by decide +kernel
theorem dX7_enter_83 : decode cX7_enter 83 = .ok (.iload 6, 2) := by decide +kernel
theorem dX7_enter_85 : decode cX7_enter 85 = .ok (.ifCond .eq 74, 3) := by decide +kernel
theorem dX7_enter_88 : decode cX7_enter 88 = .ok (.iload_n 3, 1) := by decide +kernel
theorem dX7_enter_89 : decode cX7_enter 89 = .ok (.bipush (-9), 2) := by decide +kernel
theorem dX7_enter_91 : decode cX7_enter 91 = .ok (.if_icmp .eq 28, 3) := by decide +kernel
theorem dX7_enter_94 : decode cX7_enter 94 = .ok (.aload_n 0, 1) := by decide +kernel
theorem dX7_enter_95 : decode cX7_enter 95 = .ok (.getfield 208, 3) := by decide +kernel
theorem dX7_enter_98 : decode cX7_enter 98 = .ok (.iload_n 3, 1) := by decide +kernel
theorem dX7_enter_99 : decode cX7_enter 99 = .ok (.if_icmp .lt 20, 3) := by decide +kernel
theorem dX7_enter_102 : decode cX7_enter 102 = .ok (.aload_n 0, 1) := by decide +kernel
theorem dX7_enter_103 : decode cX7_enter 103 = .ok (.getfield 208, 3) := by decide +kernel
theorem dX7_enter_106 : decode cX7_enter 106 = .ok (.iload_n 3, 1) := by decide +kernel
theorem dX7_enter_107 : decode cX7_enter 107 = .ok (.if_icmp .ne 52, 3) := by decide +kernel
theorem dX7_enter_110 : decode cX7_enter 110 = .ok (.aload_n 0, 1) := by decide +kernel
theorem dX7_enter_111 : decode cX7_enter 111 = .ok (.getfield 211, 3) := by decide +kernel
theorem dX7_enter_114 : decode cX7_enter 114 = .ok (.iload 4, 2) := by decide +kernel
theorem dX7_enter_116 : decode cX7_enter 116 = .ok (.if_icmp .ge 43, 3) := by decide +kernel
theorem dX7_enter_119 : decode cX7_enter 119 = .ok (.aload_n 0, 1) := by decide +kernel
theorem dX7_enter_120 : decode cX7_enter 120 = .ok (.getfield 208, 3) := by decide +kernel
theorem dX7_enter_123 : decode cX7_enter 123 = .ok (.istore_n 3, 1) := by decide +kernel
theorem dX7_enter_124 : decode cX7_enter 124 = .ok (.aload_n 0, 1) := by decide +kernel
theorem dX7_enter_125 : decode cX7_enter 125 = .ok (.getfield 211, 3) := by decide +kernel
theorem dX7_enter_128 : decode cX7_enter 128 = .ok (.istore 4, 2) := by decide +kernel
theorem dX7_enter_130 : decode cX7_enter 130 = .ok (.iconst 0, 1) := by decide +kernel
theorem dX7_enter_131 : decode cX7_enter 131 = .ok (.istore 7, 2) := by decide +kernel
theorem dX7_enter_133 : decode cX7_enter 133 = .ok (.iload 7, 2) := by decide +kernel
theorem dX7_enter_135 : decode cX7_enter 135 = .ok (.iload_n 2, 1) := by decide +kernel
theorem dX7_enter_136 : decode cX7_enter 136 = .ok (.if_icmp .ge 23, 3) := by decide +kernel
theorem dX7_enter_139 : decode cX7_enter 139 = .ok (.aload_n 0, 1) := by decide +kernel
theorem dX7_enter_140 : decode cX7_enter 140 = .ok (.getfield 44, 3) := by decide +kernel
theorem dX7_enter_143 : decode cX7_enter 143 = .ok (.iload 7, 2) := by decide +kernel
theorem dX7_enter_145 : decode cX7_enter 145 = .ok (.aload_n 0, 1) := by decide +kernel
theorem dX7_enter_146 : decode cX7_enter 146 = .ok (.getfield 41, 3) := by decide +kernel
theorem dX7_enter_149 : decode cX7_enter 149 = .ok (.iload 7, 2) := by decide +kernel
theorem dX7_enter_151 : decode cX7_enter 151 = .ok (.iaload, 1) := by decide +kernel
theorem dX7_enter_152 : decode cX7_enter 152 = .ok (.iastore, 1) := by decide +kernel
theorem dX7_enter_153 : decode cX7_enter 153 = .ok (.iinc 7 1, 3) := by decide +kernel
theorem dX7_enter_156 : decode cX7_enter 156 = .ok (.goto (-23), 3) := by decide +kernel
theorem dX7_enter_159 : decode cX7_enter 159 = .ok (.aload_n 0, 1) := by decide +kernel
theorem dX7_enter_160 : decode cX7_enter 160 = .ok (.iload_n 2, 1) := by decide +kernel
theorem dX7_enter_161 : decode cX7_enter 161 = .ok (.invokevirtual 220, 3) := by decide +kernel
theorem dX7_enter_164 : decode cX7_enter 164 = .ok (.istore 5, 2) := by decide +kernel
theorem dX7_enter_166 : decode cX7_enter 166 = .ok (.goto (-95), 3) := by decide +kernel
theorem dX7_enter_169 : decode cX7_enter 169 = .ok (.iload_n 3, 1) := by decide +kernel
theorem dX7_enter_170 : decode cX7_enter 170 = .ok (.bipush (-9), 2) := by decide +kernel
theorem dX7_enter_172 : decode cX7_enter 172 = .ok (.if_icmp .ne 6, 3) := by decide +kernel
theorem dX7_enter_175 : decode cX7_enter 175 = .ok (.bipush (-9), 2) := by decide +kernel
theorem dX7_enter_177 : decode cX7_enter 177 = .ok (.ireturn, 1) := by decide +kernel
theorem dX7_enter_178 : decode cX7_enter 178 = .ok (.aload_n 0, 1) := by decide +kernel
theorem dX7_enter_179 : decode cX7_enter 179 = .ok (.iload_n 1, 1) := by decide +kernel
theorem dX7_enter_180 : decode cX7_enter 180 = .ok (.iload_n 2, 1) := by decide +kernel
theorem dX7_enter_181 : decode cX7_enter 181 = .ok (.invokevirtual 76, 3) := by decide +kernel
theorem dX7_enter_184 : decode cX7_enter 184 = .ok (.iconst 0, 1) := by decide +kernel
theorem dX7_enter_185 : decode cX7_enter 185 = .ok (.istore 6, 2) := by decide +kernel
theorem dX7_enter_187 : decode cX7_enter 187 = .ok (.iload 6, 2) := by decide +kernel
theorem dX7_enter_189 : decode cX7_enter 189 = .ok (.iload_n 2, 1) := by decide +kernel
theorem dX7_enter_190 : decode cX7_enter 190 = .ok (.if_icmp .ge 28, 3) := by decide +kernel
theorem dX7_enter_193 : decode cX7_enter 193 = .ok (.aload_n 0, 1) := by decide +kernel
theorem dX7_enter_194 : decode cX7_enter 194 = .ok (.getfield 13, 3) := by decide +kernel
theorem dX7_enter_197 : decode cX7_enter 197 = .ok (.bipush 40, 2) := by decide +kernel
theorem dX7_enter_199 : decode cX7_enter 199 = .ok (.iload_n 1, 1) := by decide +kernel
theorem dX7_enter_200 : decode cX7_enter 200 = .ok (.imul, 1) := by decide +kernel
theorem dX7_enter_201 : decode cX7_enter 201 = .ok (.iload 6, 2) := by decide +kernel
theorem dX7_enter_203 : decode cX7_enter 203 = .ok (.iadd, 1) := by decide +kernel
theorem dX7_enter_204 : decode cX7_enter 204 = .ok (.aload_n 0, 1) := by decide +kernel
theorem dX7_enter_205 : decode cX7_enter 205 = .ok (.getfield 44, 3) := by decide +kernel
theorem dX7_enter_208 : decode cX7_enter 208 = .ok (.iload 6, 2) := by decide +kernel
theorem dX7_enter_210 : decode cX7_enter 210 = .ok (.iaload, 1) := by decide +kernel
theorem dX7_enter_211 : decode cX7_enter 211 = .ok (.iastore, 1) := by decide +kernel
theorem dX7_enter_212 : decode cX7_enter 212 = .ok (.iinc 6 1, 3) := by decide +kernel
theorem dX7_enter_215 : decode cX7_enter 215 = .ok (.goto (-28), 3) := by decide +kernel
theorem dX7_enter_218 : decode cX7_enter 218 = .ok (.aload_n 0, 1) := by decide +kernel
theorem dX7_enter_219 : decode cX7_enter 219 = .ok (.iload_n 3, 1) := by decide +kernel
theorem dX7_enter_220 : decode cX7_enter 220 = .ok (.iload 4, 2) := by decide +kernel
theorem dX7_enter_222 : decode cX7_enter 222 = .ok (.invokevirtual 84, 3) := by decide +kernel
theorem dX7_enter_225 : decode cX7_enter 225 = .ok (.ireturn, 1) := by decide +kernel
theorem dX7_areOnce_0 : decode cX7_areOnce 0 = .ok (.iload_n 2, 1) := by decide +kernel
theorem dX7_areOnce_1 : decode cX7_areOnce 1 = .ok (.istore_n 3, 1) := by decide +kernel
theorem dX7_areOnce_2 : decode cX7_areOnce 2 = .ok (.iconst 1, 1) := by decide +kernel
theorem dX7_areOnce_3 : decode cX7_areOnce 3 = .ok (.istore 4, 2) := by decide +kernel
theorem dX7_areOnce_5 : decode cX7_areOnce 5 = .ok (.iconst 0, 1) := by decide +kernel
theorem dX7_areOnce_6 : decode cX7_areOnce 6 = .ok (.istore 5, 2) := by decide +kernel
theorem dX7_areOnce_8 : decode cX7_areOnce 8 = .ok (.iload 5, 2) := by decide +kernel
theorem dX7_areOnce_10 : decode cX7_areOnce 10 = .ok (.aload_n 0, 1) := by decide +kernel
theorem dX7_areOnce_11 : decode cX7_areOnce 11 = .ok (.getfield 7, 3) := by decide +kernel
theorem dX7_areOnce_14 : decode cX7_areOnce 14 = .ok (.iload_n 1, 1) := by decide +kernel
theorem dX7_areOnce_15 : decode cX7_areOnce 15 = .ok (.iaload, 1) := by decide +kernel
theorem dX7_areOnce_16 : decode cX7_areOnce 16 = .ok (.if_icmp .ge 71, 3) := by decide +kernel
theorem dX7_areOnce_19 : decode cX7_areOnce 19 = .ok (.aload_n 0, 1) := by decide +kernel
theorem dX7_areOnce_20 : decode cX7_areOnce 20 = .ok (.getfield 13, 3) := by decide +kernel
theorem dX7_areOnce_23 : decode cX7_areOnce 23 = .ok (.bipush 40, 2) := by decide +kernel
theorem dX7_areOnce_25 : decode cX7_areOnce 25 = .ok (.iload_n 1, 1) := by decide +kernel
theorem dX7_areOnce_26 : decode cX7_areOnce 26 = .ok (.imul, 1) := by decide +kernel
theorem dX7_areOnce_27 : decode cX7_areOnce 27 = .ok (.iload 5, 2) := by decide +kernel
theorem dX7_areOnce_29 : decode cX7_areOnce 29 = .ok (.iadd, 1) := by decide +kernel
theorem dX7_areOnce_30 : decode cX7_areOnce 30 = .ok (.iaload, 1) := by decide +kernel
theorem dX7_areOnce_31 : decode cX7_areOnce 31 = .ok (.istore 6, 2) := by decide +kernel
theorem dX7_areOnce_33 : decode cX7_areOnce 33 = .ok (.iload 4, 2) := by decide +kernel
theorem dX7_areOnce_35 : decode cX7_areOnce 35 = .ok (.ifCond .eq 25, 3) := by decide +kernel
theorem dX7_areOnce_38 : decode cX7_areOnce 38 = .ok (.aload_n 0, 1) := by decide +kernel
theorem dX7_areOnce_39 : decode cX7_areOnce 39 = .ok (.iload 6, 2) := by decide +kernel
theorem dX7_areOnce_41 : decode cX7_areOnce 41 = .ok (.invokevirtual 159, 3) := by decide +kernel
theorem dX7_areOnce_44 : decode cX7_areOnce 44 = .ok (.ifCond .eq 16, 3) := by decide +kernel
theorem dX7_areOnce_47 : decode cX7_areOnce 47 = .ok (.iload_n 3, 1) := by decide +kernel
theorem dX7_areOnce_48 : decode cX7_areOnce 48 = .ok (.iload 6, 2) := by decide +kernel
theorem dX7_areOnce_50 : decode cX7_areOnce 50 = .ok (.invokestatic 146, 3) := by decide +kernel
theorem dX7_areOnce_53 : decode cX7_areOnce 53 = .ok (.ifCond .eq 7, 3) := by decide +kernel
theorem dX7_areOnce_56 : decode cX7_areOnce 56 = .ok (.iconst 1, 1) := by decide +kernel
theorem dX7_areOnce_57 : decode cX7_areOnce 57 = .ok (.goto 4, 3) := by decide +kernel
theorem dX7_areOnce_60 : decode cX7_areOnce 60 = .ok (.iconst 0, 1) := by decide +kernel
theorem dX7_areOnce_61 : decode cX7_areOnce 61 = .ok (.istore 4, 2) := by decide +kernel
theorem dX7_areOnce_63 : decode cX7_areOnce 63 = .ok (.iload_n 3, 1) := by decide +kernel
theorem dX7_areOnce_64 : decode cX7_areOnce 64 = .ok (.iload 4, 2) := by decide +kernel
theorem dX7_areOnce_66 : decode cX7_areOnce 66 = .ok (.ifCond .eq 12, 3) := by decide +kernel
theorem dX7_areOnce_69 : decode cX7_areOnce 69 = .ok (.iconst 1, 1) := by decide +kernel
theorem dX7_areOnce_70 : decode cX7_areOnce 70 = .ok (.iload 6, 2) := by decide +kernel
theorem dX7_areOnce_72 : decode cX7_areOnce 72 = .ok (.ishl, 1) := by decide +kernel
theorem dX7_areOnce_73 : decode cX7_areOnce 73 = .ok (.iconst (-1), 1) := by decide +kernel
theorem dX7_areOnce_74 : decode cX7_areOnce 74 = .ok (.ixor, 1) := by decide +kernel
theorem dX7_areOnce_75 : decode cX7_areOnce 75 = .ok (.goto 4, 3) := by decide +kernel
theorem dX7_areOnce_78 : decode cX7_areOnce 78 = .ok (.iconst (-1), 1) := by decide +kernel
theorem dX7_areOnce_79 : decode cX7_areOnce 79 = .ok (.iand, 1) := by decide +kernel
theorem dX7_areOnce_80 : decode cX7_areOnce 80 = .ok (.istore_n 3, 1) := by decide +kernel
theorem dX7_areOnce_81 : decode cX7_areOnce 81 = .ok (.iinc 5 1, 3) := by decide +kernel
theorem dX7_areOnce_84 : decode cX7_areOnce 84 = .ok (.goto (-76), 3) := by decide +kernel
theorem dX7_areOnce_87 : decode cX7_areOnce 87 = .ok (.iload 4, 2) := by decide +kernel
theorem dX7_areOnce_89 : decode cX7_areOnce 89 = .ok (.ireturn, 1) := by decide +kernel
theorem dX7_all_0 : decode cX7_all 0 = .ok (.iconst 1, 1) := by decide +kernel
theorem dX7_all_1 : decode cX7_all 1 = .ok (.aload_n 0, 1) := by decide +kernel
theorem dX7_all_2 : decode cX7_all 2 = .ok (.getfield 25, 3) := by decide +kernel
theorem dX7_all_5 : decode cX7_all 5 = .ok (.iconst 0, 1) := by decide +kernel
theorem dX7_all_6 : decode cX7_all 6 = .ok (.iaload, 1) := by decide +kernel
theorem dX7_all_7 : decode cX7_all 7 = .ok (.ishl, 1) := by decide +kernel
theorem dX7_all_8 : decode cX7_all 8 = .ok (.iconst 1, 1) := by decide +kernel
theorem dX7_all_9 : decode cX7_all 9 = .ok (.isub, 1) := by decide +kernel
theorem dX7_all_10 : decode cX7_all 10 = .ok (.ireturn, 1) := by decide +kernel
theorem dX7_order_0 : decode cX7_order 0 = .ok (.iload_n 1, 1) := by decide +kernel
theorem dX7_order_1 : decode cX7_order 1 = .ok (.invokestatic 68, 3) := by decide +kernel
theorem dX7_order_4 : decode cX7_order 4 = .ok (.ifCond .ne 5, 3) := by decide +kernel
theorem dX7_order_7 : decode cX7_order 7 = .ok (.iconst (-1), 1) := by decide +kernel
theorem dX7_order_8 : decode cX7_order 8 = .ok (.ireturn, 1) := by decide +kernel
theorem dX7_order_9 : decode cX7_order 9 = .ok (.aload_n 0, 1) := by decide +kernel
theorem dX7_order_10 : decode cX7_order 10 = .ok (.invokevirtual 198, 3) := by decide +kernel
theorem dX7_order_13 : decode cX7_order 13 = .ok (.ifCond .ne 6, 3) := by decide +kernel
theorem dX7_order_16 : decode cX7_order 16 = .ok (.bipush (-4), 2) := by decide +kernel
theorem dX7_order_18 : decode cX7_order 18 = .ok (.ireturn, 1) := by decide +kernel
theorem dX7_order_19 : decode cX7_order 19 = .ok (.aload_n 0, 1) := by decide +kernel
theorem dX7_order_20 : decode cX7_order 20 = .ok (.getfield 7, 3) := by decide +kernel
theorem dX7_order_23 : decode cX7_order 23 = .ok (.iload_n 1, 1) := by decide +kernel
theorem dX7_order_24 : decode cX7_order 24 = .ok (.iaload, 1) := by decide +kernel
theorem dX7_order_25 : decode cX7_order 25 = .ok (.ifCond .ge 9, 3) := by decide +kernel
theorem dX7_order_28 : decode cX7_order 28 = .ok (.aload_n 0, 1) := by decide +kernel
theorem dX7_order_29 : decode cX7_order 29 = .ok (.iconst 1, 1) := by decide +kernel
theorem dX7_order_30 : decode cX7_order 30 = .ok (.invokevirtual 72, 3) := by decide +kernel
theorem dX7_order_33 : decode cX7_order 33 = .ok (.ireturn, 1) := by decide +kernel
theorem dX7_order_34 : decode cX7_order 34 = .ok (.aload_n 0, 1) := by decide +kernel
theorem dX7_order_35 : decode cX7_order 35 = .ok (.iload_n 1, 1) := by decide +kernel
theorem dX7_order_36 : decode cX7_order 36 = .ok (.aload_n 0, 1) := by decide +kernel
theorem dX7_order_37 : decode cX7_order 37 = .ok (.invokevirtual 223, 3) := by decide +kernel
theorem dX7_order_40 : decode cX7_order 40 = .ok (.aload_n 0, 1) := by decide +kernel
theorem dX7_order_41 : decode cX7_order 41 = .ok (.getfield 25, 3) := by decide +kernel
theorem dX7_order_44 : decode cX7_order 44 = .ok (.iconst 5, 1) := by decide +kernel
theorem dX7_order_45 : decode cX7_order 45 = .ok (.iaload, 1) := by decide +kernel
theorem dX7_order_46 : decode cX7_order 46 = .ok (.iconst (-1), 1) := by decide +kernel
theorem dX7_order_47 : decode cX7_order 47 = .ok (.ixor, 1) := by decide +kernel
theorem dX7_order_48 : decode cX7_order 48 = .ok (.iand, 1) := by decide +kernel
theorem dX7_order_49 : decode cX7_order 49 = .ok (.invokevirtual 226, 3) := by decide +kernel
theorem dX7_order_52 : decode cX7_order 52 = .ok (.ifCond .ne 9, 3) := by decide +kernel
theorem dX7_order_55 : decode cX7_order 55 = .ok (.aload_n 0, 1) := by decide +kernel
theorem dX7_order_56 : decode cX7_order 56 = .ok (.iconst 3, 1) := by decide +kernel
theorem dX7_order_57 : decode cX7_order 57 = .ok (.invokevirtual 72, 3) := by decide +kernel
theorem dX7_order_60 : decode cX7_order 60 = .ok (.ireturn, 1) := by decide +kernel
theorem dX7_order_61 : decode cX7_order 61 = .ok (.iconst 0, 1) := by decide +kernel
theorem dX7_order_62 : decode cX7_order 62 = .ok (.istore_n 2, 1) := by decide +kernel
theorem dX7_order_63 : decode cX7_order 63 = .ok (.iload_n 2, 1) := by decide +kernel
theorem dX7_order_64 : decode cX7_order 64 = .ok (.aload_n 0, 1) := by decide +kernel
theorem dX7_order_65 : decode cX7_order 65 = .ok (.getfield 7, 3) := by decide +kernel
theorem dX7_order_68 : decode cX7_order 68 = .ok (.iload_n 1, 1) := by decide +kernel
theorem dX7_order_69 : decode cX7_order 69 = .ok (.iaload, 1) := by decide +kernel
theorem dX7_order_70 : decode cX7_order 70 = .ok (.if_icmp .ge 26, 3) := by decide +kernel
theorem dX7_order_73 : decode cX7_order 73 = .ok (.aload_n 0, 1) := by decide +kernel
theorem dX7_order_74 : decode cX7_order 74 = .ok (.getfield 41, 3) := by decide +kernel
theorem dX7_order_77 : decode cX7_order 77 = .ok (.iload_n 2, 1) := by decide +kernel
theorem dX7_order_78 : decode cX7_order 78 = .ok (.aload_n 0, 1) := by decide +kernel
theorem dX7_order_79 : decode cX7_order 79 = .ok (.getfield 13, 3) := by decide +kernel
theorem dX7_order_82 : decode cX7_order 82 = .ok (.bipush 40, 2) := by decide +kernel
theorem dX7_order_84 : decode cX7_order 84 = .ok (.iload_n 1, 1) := by decide +kernel
theorem dX7_order_85 : decode cX7_order 85 = .ok (.imul, 1) := by decide +kernel
theorem dX7_order_86 : decode cX7_order 86 = .ok (.iload_n 2, 1) := by decide +kernel
theorem dX7_order_87 : decode cX7_order 87 = .ok (.iadd, 1) := by decide +kernel
theorem dX7_order_88 : decode cX7_order 88 = .ok (.iaload, 1) := by decide +kernel
theorem dX7_order_89 : decode cX7_order 89 = .ok (.iastore, 1) := by decide +kernel
theorem dX7_order_90 : decode cX7_order 90 = .ok (.iinc 2 1, 3) := by decide +kernel
theorem dX7_order_93 : decode cX7_order 93 = .ok (.goto (-30), 3) := by decide +kernel
theorem dX7_order_96 : decode cX7_order 96 = .ok (.aload_n 0, 1) := by decide +kernel
theorem dX7_order_97 : decode cX7_order 97 = .ok (.aload_n 0, 1) := by decide +kernel
theorem dX7_order_98 : decode cX7_order 98 = .ok (.getfield 7, 3) := by decide +kernel
theorem dX7_order_101 : decode cX7_order 101 = .ok (.iload_n 1, 1) := by decide +kernel
theorem dX7_order_102 : decode cX7_order 102 = .ok (.iaload, 1) := by decide +kernel
theorem dX7_order_103 : decode cX7_order 103 = .ok (.invokevirtual 217, 3) := by decide +kernel
theorem dX7_order_106 : decode cX7_order 106 = .ok (.ifCond .eq 18, 3) := by decide +kernel
theorem dX7_order_109 : decode cX7_order 109 = .ok (.aload_n 0, 1) := by decide +kernel
theorem dX7_order_110 : decode cX7_order 110 = .ok (.aload_n 0, 1) := by decide +kernel
theorem dX7_order_111 : decode cX7_order 111 = .ok (.getfield 208, 3) := by decide +kernel
theorem dX7_order_114 : decode cX7_order 114 = .ok (.aload_n 0, 1) := by decide +kernel
theorem dX7_order_115 : decode cX7_order 115 = .ok (.getfield 211, 3) := by decide +kernel
theorem dX7_order_118 : decode cX7_order 118 = .ok (.invokevirtual 84, 3) := by decide +kernel
theorem dX7_order_121 : decode cX7_order 121 = .ok (.goto 5, 3) := by decide +kernel
theorem dX7_order_124 : decode cX7_order 124 = .ok (.bipush (-9), 2) := by decide +kernel
theorem dX7_order_126 : decode cX7_order 126 = .ok (.ireturn, 1) := by decide +kernel
theorem dX7_isBerth_0 : decode cX7_isBerth 0 = .ok (.iload_n 0, 1) := by decide +kernel
theorem dX7_isBerth_1 : decode cX7_isBerth 1 = .ok (.iconst 0, 1) := by decide +kernel
theorem dX7_isBerth_2 : decode cX7_isBerth 2 = .ok (.iconst 5, 1) := by decide +kernel
theorem dX7_isBerth_3 : decode cX7_isBerth 3 = .ok (.invokestatic 64, 3) := by decide +kernel
theorem dX7_isBerth_6 : decode cX7_isBerth 6 = .ok (.ireturn, 1) := by decide +kernel
theorem dX7_when_0 : decode cX7_when 0 = .ok (.aload_n 0, 1) := by decide +kernel
theorem dX7_when_1 : decode cX7_when 1 = .ok (.iload_n 1, 1) := by decide +kernel
theorem dX7_when_2 : decode cX7_when 2 = .ok (.invokevirtual 159, 3) := by decide +kernel
theorem dX7_when_5 : decode cX7_when 5 = .ok (.ifCond .eq 10, 3) := by decide +kernel
theorem dX7_when_8 : decode cX7_when 8 = .ok (.iload_n 2, 1) := by decide +kernel
theorem dX7_when_9 : decode cX7_when 9 = .ok (.invokestatic 229, 3) := by decide +kernel
theorem dX7_when_12 : decode cX7_when 12 = .ok (.ifCond .ne 5, 3) := by decide +kernel
theorem dX7_when_15 : decode cX7_when 15 = .ok (.iconst (-1), 1) := by decide +kernel
theorem dX7_when_16 : decode cX7_when 16 = .ok (.ireturn, 1) := by decide +kernel
theorem dX7_when_17 : decode cX7_when 17 = .ok (.iconst 0, 1) := by decide +kernel
theorem dX7_when_18 : decode cX7_when 18 = .ok (.istore_n 3, 1) := by decide +kernel
theorem dX7_when_19 : decode cX7_when 19 = .ok (.iload_n 3, 1) := by decide +kernel
theorem dX7_when_20 : decode cX7_when 20 = .ok (.bipush 100, 2) := by decide +kernel
theorem dX7_when_22 : decode cX7_when 22 = .ok (.if_icmp .ge 45, 3) := by decide +kernel
theorem dX7_when_25 : decode cX7_when 25 = .ok (.aload_n 0, 1) := by decide +kernel
theorem dX7_when_26 : decode cX7_when 26 = .ok (.getfield 25, 3) := by decide +kernel
theorem dX7_when_29 : decode cX7_when 29 = .ok (.iconst 1, 1) := by decide +kernel
theorem dX7_when_30 : decode cX7_when 30 = .ok (.iaload, 1) := by decide +kernel
theorem dX7_when_31 : decode cX7_when 31 = .ok (.iload_n 3, 1) := by decide +kernel
theorem dX7_when_32 : decode cX7_when 32 = .ok (.iadd, 1) := by decide +kernel
theorem dX7_when_33 : decode cX7_when 33 = .ok (.istore 4, 2) := by decide +kernel
theorem dX7_when_35 : decode cX7_when 35 = .ok (.aload_n 0, 1) := by decide +kernel
theorem dX7_when_36 : decode cX7_when 36 = .ok (.iload_n 1, 1) := by decide +kernel
theorem dX7_when_37 : decode cX7_when 37 = .ok (.aload_n 0, 1) := by decide +kernel
theorem dX7_when_38 : decode cX7_when 38 = .ok (.iload_n 1, 1) := by decide +kernel
theorem dX7_when_39 : decode cX7_when 39 = .ok (.iload 4, 2) := by decide +kernel
theorem dX7_when_41 : decode cX7_when 41 = .ok (.invokevirtual 136, 3) := by decide +kernel
theorem dX7_when_44 : decode cX7_when 44 = .ok (.aload_n 0, 1) := by decide +kernel
theorem dX7_when_45 : decode cX7_when 45 = .ok (.getfield 25, 3) := by decide +kernel
theorem dX7_when_48 : decode cX7_when 48 = .ok (.iconst 5, 1) := by decide +kernel
theorem dX7_when_49 : decode cX7_when 49 = .ok (.iaload, 1) := by decide +kernel
theorem dX7_when_50 : decode cX7_when 50 = .ok (.iload 4, 2) := by decide +kernel
theorem dX7_when_52 : decode cX7_when 52 = .ok (.invokevirtual 150, 3) := by decide +kernel
theorem dX7_when_55 : decode cX7_when 55 = .ok (.iload_n 2, 1) := by decide +kernel
theorem dX7_when_56 : decode cX7_when 56 = .ok (.if_icmp .ne 5, 3) := by decide +kernel
theorem dX7_when_59 : decode cX7_when 59 = .ok (.iload_n 3, 1) := by decide +kernel
theorem dX7_when_60 : decode cX7_when 60 = .ok (.ireturn, 1) := by decide +kernel
theorem dX7_when_61 : decode cX7_when 61 = .ok (.iinc 3 1, 3) := by decide +kernel
theorem dX7_when_64 : decode cX7_when 64 = .ok (.goto (-45), 3) := by decide +kernel
theorem dX7_when_67 : decode cX7_when 67 = .ok (.bipush (-9), 2) := by decide +kernel
theorem dX7_when_69 : decode cX7_when 69 = .ok (.ireturn, 1) := by decide +kernel
theorem dX7_built_0 : decode cX7_built 0 = .ok (.aload_n 0, 1) := by decide +kernel
theorem dX7_built_1 : decode cX7_built 1 = .ok (.iload_n 1, 1) := by decide +kernel
theorem dX7_built_2 : decode cX7_built 2 = .ok (.invokevirtual 159, 3) := by decide +kernel
theorem dX7_built_5 : decode cX7_built 5 = .ok (.ifCond .eq 10, 3) := by decide +kernel
theorem dX7_built_8 : decode cX7_built 8 = .ok (.iload_n 2, 1) := by decide +kernel
theorem dX7_built_9 : decode cX7_built 9 = .ok (.invokestatic 229, 3) := by decide +kernel
theorem dX7_built_12 : decode cX7_built 12 = .ok (.ifCond .ne 5, 3) := by decide +kernel
theorem dX7_built_15 : decode cX7_built 15 = .ok (.iconst (-1), 1) := by decide +kernel
theorem dX7_built_16 : decode cX7_built 16 = .ok (.ireturn, 1) := by decide +kernel
theorem dX7_built_17 : decode cX7_built 17 = .ok (.iconst 0, 1) := by decide +kernel
theorem dX7_built_18 : decode cX7_built 18 = .ok (.istore_n 3, 1) := by decide +kernel
theorem dX7_built_19 : decode cX7_built 19 = .ok (.iconst 0, 1) := by decide +kernel
theorem dX7_built_20 : decode cX7_built 20 = .ok (.istore 4, 2) := by decide +kernel
theorem dX7_built_22 : decode cX7_built 22 = .ok (.bipush 99, 2) := by decide +kernel
theorem dX7_built_24 : decode cX7_built 24 = .ok (.istore 5, 2) := by decide +kernel
theorem dX7_built_26 : decode cX7_built 26 = .ok (.iload 5, 2) := by decide +kernel
theorem dX7_built_28 : decode cX7_built 28 = .ok (.ifCond .lt 101, 3) := by decide +kernel
theorem dX7_built_31 : decode cX7_built 31 = .ok (.aload_n 0, 1) := by decide +kernel
theorem dX7_built_32 : decode cX7_built 32 = .ok (.iload_n 1, 1) := by decide +kernel
theorem dX7_built_33 : decode cX7_built 33 = .ok (.iconst 0, 1) := by decide +kernel
theorem dX7_built_34 : decode cX7_built 34 = .ok (.invokevirtual 126, 3) := by decide +kernel
theorem dX7_built_37 : decode cX7_built 37 = .ok (.aload_n 0, 1) := by decide +kernel
theorem dX7_built_38 : decode cX7_built 38 = .ok (.getfield 25, 3) := by decide +kernel
theorem dX7_built_41 : decode cX7_built 41 = .ok (.iconst 1, 1) := by decide +kernel
theorem dX7_built_42 : decode cX7_built 42 = .ok (.iaload, 1) := by decide +kernel
theorem dX7_built_43 : decode cX7_built 43 = .ok (.iload 5, 2) := by decide +kernel
theorem dX7_built_45 : decode cX7_built 45 = .ok (.invokestatic 129, 3) := by decide +kernel
theorem dX7_built_48 : decode cX7_built 48 = .ok (.aload_n 0, 1) := by decide +kernel
theorem dX7_built_49 : decode cX7_built 49 = .ok (.iload_n 1, 1) := by decide +kernel
theorem dX7_built_50 : decode cX7_built 50 = .ok (.iconst 5, 1) := by decide +kernel
theorem dX7_built_51 : decode cX7_built 51 = .ok (.invokevirtual 126, 3) := by decide +kernel
theorem dX7_built_54 : decode cX7_built 54 = .ok (.aload_n 0, 1) := by decide +kernel
theorem dX7_built_55 : decode cX7_built 55 = .ok (.iload_n 1, 1) := by decide +kernel
theorem dX7_built_56 : decode cX7_built 56 = .ok (.bipush 6, 2) := by decide +kernel
theorem dX7_built_58 : decode cX7_built 58 = .ok (.invokevirtual 126, 3) := by decide +kernel
theorem dX7_built_61 : decode cX7_built 61 = .ok (.invokestatic 132, 3) := by decide +kernel
theorem dX7_built_64 : decode cX7_built 64 = .ok (.istore 6, 2) := by decide +kernel
theorem dX7_built_66 : decode cX7_built 66 = .ok (.aload_n 0, 1) := by decide +kernel
theorem dX7_built_67 : decode cX7_built 67 = .ok (.iload_n 1, 1) := by decide +kernel
theorem dX7_built_68 : decode cX7_built 68 = .ok (.iload 6, 2) := by decide +kernel
theorem dX7_built_70 : decode cX7_built 70 = .ok (.aload_n 0, 1) := by decide +kernel
theorem dX7_built_71 : decode cX7_built 71 = .ok (.getfield 25, 3) := by decide +kernel
theorem dX7_built_74 : decode cX7_built 74 = .ok (.iconst 5, 1) := by decide +kernel
theorem dX7_built_75 : decode cX7_built 75 = .ok (.iaload, 1) := by decide +kernel
theorem dX7_built_76 : decode cX7_built 76 = .ok (.aload_n 0, 1) := by decide +kernel
theorem dX7_built_77 : decode cX7_built 77 = .ok (.getfield 25, 3) := by decide +kernel
theorem dX7_built_80 : decode cX7_built 80 = .ok (.iconst 1, 1) := by decide +kernel
theorem dX7_built_81 : decode cX7_built 81 = .ok (.iaload, 1) := by decide +kernel
theorem dX7_built_82 : decode cX7_built 82 = .ok (.invokevirtual 150, 3) := by decide +kernel
theorem dX7_built_85 : decode cX7_built 85 = .ok (.iload_n 2, 1) := by decide +kernel
theorem dX7_built_86 : decode cX7_built 86 = .ok (.if_icmp .ne 7, 3) := by decide +kernel
theorem dX7_built_89 : decode cX7_built 89 = .ok (.iconst 1, 1) := by decide +kernel
theorem dX7_built_90 : decode cX7_built 90 = .ok (.goto 4, 3) := by decide +kernel
theorem dX7_built_93 : decode cX7_built 93 = .ok (.iconst 0, 1) := by decide +kernel
theorem dX7_built_94 : decode cX7_built 94 = .ok (.istore 7, 2) := by decide +kernel
theorem dX7_built_96 : decode cX7_built 96 = .ok (.iload_n 3, 1) := by decide +kernel
theorem dX7_built_97 : decode cX7_built 97 = .ok (.iload 7, 2) := by decide +kernel
theorem dX7_built_99 : decode cX7_built 99 = .ok (.ifCond .eq 7, 3) := by decide +kernel
theorem dX7_built_102 : decode cX7_built 102 = .ok (.iconst 1, 1) := by decide +kernel
theorem dX7_built_103 : decode cX7_built 103 = .ok (.goto 4, 3) := by decide +kernel
theorem dX7_built_106 : decode cX7_built 106 = .ok (.iconst 0, 1) := by decide +kernel
theorem dX7_built_107 : decode cX7_built 107 = .ok (.iadd, 1) := by decide +kernel
theorem dX7_built_108 : decode cX7_built 108 = .ok (.istore_n 3, 1) := by decide +kernel
theorem dX7_built_109 : decode cX7_built 109 = .ok (.iload 7, 2) := by decide +kernel
theorem dX7_built_111 : decode cX7_built 111 = .ok (.ifCond .eq 8, 3) := by decide +kernel
theorem dX7_built_114 : decode cX7_built 114 = .ok (.iload 5, 2) := by decide +kernel
theorem dX7_built_116 : decode cX7_built 116 = .ok (.goto 5, 3) := by decide +kernel
theorem dX7_built_119 : decode cX7_built 119 = .ok (.iload 4, 2) := by decide +kernel
theorem dX7_built_121 : decode cX7_built 121 = .ok (.istore 4, 2) := by decide +kernel
theorem dX7_built_123 : decode cX7_built 123 = .ok (.iinc 5 (-1), 3) := by decide +kernel
theorem dX7_built_126 : decode cX7_built 126 = .ok (.goto (-100), 3) := by decide +kernel
theorem dX7_built_129 : decode cX7_built 129 = .ok (.iload_n 3, 1) := by decide +kernel
theorem dX7_built_130 : decode cX7_built 130 = .ok (.ifCond .ne 8, 3) := by decide +kernel
theorem dX7_built_133 : decode cX7_built 133 = .ok (.bipush (-9), 2) := by decide +kernel
theorem dX7_built_135 : decode cX7_built 135 = .ok (.goto 10, 3) := by decide +kernel
theorem dX7_built_138 : decode cX7_built 138 = .ok (.aload_n 0, 1) := by decide +kernel
theorem dX7_built_139 : decode cX7_built 139 = .ok (.iload_n 3, 1) := by decide +kernel
theorem dX7_built_140 : decode cX7_built 140 = .ok (.iload 4, 2) := by decide +kernel
theorem dX7_built_142 : decode cX7_built 142 = .ok (.invokevirtual 84, 3) := by decide +kernel
theorem dX7_built_145 : decode cX7_built 145 = .ok (.ireturn, 1) := by decide +kernel
theorem dX7_least_0 : decode cX7_least 0 = .ok (.aload_n 0, 1) := by decide +kernel
theorem dX7_least_1 : decode cX7_least 1 = .ok (.iload_n 1, 1) := by decide +kernel
theorem dX7_least_2 : decode cX7_least 2 = .ok (.invokevirtual 159, 3) := by decide +kernel
theorem dX7_least_5 : decode cX7_least 5 = .ok (.ifCond .eq 10, 3) := by decide +kernel
theorem dX7_least_8 : decode cX7_least 8 = .ok (.iload_n 2, 1) := by decide +kernel
theorem dX7_least_9 : decode cX7_least 9 = .ok (.invokestatic 229, 3) := by decide +kernel
theorem dX7_least_12 : decode cX7_least 12 = .ok (.ifCond .ne 5, 3) := by decide +kernel
theorem dX7_least_15 : decode cX7_least 15 = .ok (.iconst (-1), 1) := by decide +kernel
theorem dX7_least_16 : decode cX7_least 16 = .ok (.ireturn, 1) := by decide +kernel
theorem dX7_least_17 : decode cX7_least 17 = .ok (.iconst 0, 1) := by decide +kernel
theorem dX7_least_18 : decode cX7_least 18 = .ok (.istore_n 3, 1) := by decide +kernel
theorem dX7_least_19 : decode cX7_least 19 = .ok (.iload_n 3, 1) := by decide +kernel
theorem dX7_least_20 : decode cX7_least 20 = .ok (.bipush 41, 2) := by decide +kernel
theorem dX7_least_22 : decode cX7_least 22 = .ok (.if_icmp .ge 75, 3) := by decide +kernel
theorem dX7_least_25 : decode cX7_least 25 = .ok (.aload_n 0, 1) := by decide +kernel
theorem dX7_least_26 : decode cX7_least 26 = .ok (.iload_n 1, 1) := by decide +kernel
theorem dX7_least_27 : decode cX7_least 27 = .ok (.iconst 0, 1) := by decide +kernel
theorem dX7_least_28 : decode cX7_least 28 = .ok (.invokevirtual 126, 3) := by decide +kernel
theorem dX7_least_31 : decode cX7_least 31 = .ok (.aload_n 0, 1) := by decide +kernel
theorem dX7_least_32 : decode cX7_least 32 = .ok (.getfield 25, 3) := by decide +kernel
theorem dX7_least_35 : decode cX7_least 35 = .ok (.iconst 1, 1) := by decide +kernel
theorem dX7_least_36 : decode cX7_least 36 = .ok (.iaload, 1) := by decide +kernel
theorem dX7_least_37 : decode cX7_least 37 = .ok (.aload_n 0, 1) := by decide +kernel
theorem dX7_least_38 : decode cX7_least 38 = .ok (.iload_n 1, 1) := by decide +kernel
theorem dX7_least_39 : decode cX7_least 39 = .ok (.iconst 1, 1) := by decide +kernel
theorem dX7_least_40 : decode cX7_least 40 = .ok (.invokevirtual 126, 3) := by decide +kernel
theorem dX7_least_43 : decode cX7_least 43 = .ok (.invokestatic 129, 3) := by decide +kernel
theorem dX7_least_46 : decode cX7_least 46 = .ok (.aload_n 0, 1) := by decide +kernel
theorem dX7_least_47 : decode cX7_least 47 = .ok (.iload_n 1, 1) := by decide +kernel
theorem dX7_least_48 : decode cX7_least 48 = .ok (.iconst 5, 1) := by decide +kernel
theorem dX7_least_49 : decode cX7_least 49 = .ok (.invokevirtual 126, 3) := by decide +kernel
theorem dX7_least_52 : decode cX7_least 52 = .ok (.iload_n 3, 1) := by decide +kernel
theorem dX7_least_53 : decode cX7_least 53 = .ok (.iadd, 1) := by decide +kernel
theorem dX7_least_54 : decode cX7_least 54 = .ok (.aload_n 0, 1) := by decide +kernel
theorem dX7_least_55 : decode cX7_least 55 = .ok (.iload_n 1, 1) := by decide +kernel
theorem dX7_least_56 : decode cX7_least 56 = .ok (.bipush 6, 2) := by decide +kernel
theorem dX7_least_58 : decode cX7_least 58 = .ok (.invokevirtual 126, 3) := by decide +kernel
theorem dX7_least_61 : decode cX7_least 61 = .ok (.invokestatic 132, 3) := by decide +kernel
theorem dX7_least_64 : decode cX7_least 64 = .ok (.istore 4, 2) := by decide +kernel
theorem dX7_least_66 : decode cX7_least 66 = .ok (.aload_n 0, 1) := by decide +kernel
theorem dX7_least_67 : decode cX7_least 67 = .ok (.iload_n 1, 1) := by decide +kernel
theorem dX7_least_68 : decode cX7_least 68 = .ok (.iload 4, 2) := by decide +kernel
theorem dX7_least_70 : decode cX7_least 70 = .ok (.aload_n 0, 1) := by decide +kernel
theorem dX7_least_71 : decode cX7_least 71 = .ok (.getfield 25, 3) := by decide +kernel
theorem dX7_least_74 : decode cX7_least 74 = .ok (.iconst 5, 1) := by decide +kernel
theorem dX7_least_75 : decode cX7_least 75 = .ok (.iaload, 1) := by decide +kernel
theorem dX7_least_76 : decode cX7_least 76 = .ok (.aload_n 0, 1) := by decide +kernel
theorem dX7_least_77 : decode cX7_least 77 = .ok (.getfield 25, 3) := by decide +kernel
theorem dX7_least_80 : decode cX7_least 80 = .ok (.iconst 1, 1) := by decide +kernel
theorem dX7_least_81 : decode cX7_least 81 = .ok (.iaload, 1) := by decide +kernel
theorem dX7_least_82 : decode cX7_least 82 = .ok (.invokevirtual 150, 3) := by decide +kernel
theorem dX7_least_85 : decode cX7_least 85 = .ok (.iload_n 2, 1) := by decide +kernel
theorem dX7_least_86 : decode cX7_least 86 = .ok (.if_icmp .gt 5, 3) := by decide +kernel
theorem dX7_least_89 : decode cX7_least 89 = .ok (.iload_n 3, 1) := by decide +kernel
theorem dX7_least_90 : decode cX7_least 90 = .ok (.ireturn, 1) := by decide +kernel
theorem dX7_least_91 : decode cX7_least 91 = .ok (.iinc 3 1, 3) := by decide +kernel
theorem dX7_least_94 : decode cX7_least 94 = .ok (.goto (-75), 3) := by decide +kernel
theorem dX7_least_97 : decode cX7_least 97 = .ok (.bipush (-9), 2) := by decide +kernel
theorem dX7_least_99 : decode cX7_least 99 = .ok (.ireturn, 1) := by decide +kernel
theorem dX7_wrong_0 : decode cX7_wrong 0 = .ok (.iload_n 1, 1) := by decide +kernel
theorem dX7_wrong_1 : decode cX7_wrong 1 = .ok (.invokestatic 68, 3) := by decide +kernel
theorem dX7_wrong_4 : decode cX7_wrong 4 = .ok (.ifCond .ne 5, 3) := by decide +kernel
theorem dX7_wrong_7 : decode cX7_wrong 7 = .ok (.iconst (-1), 1) := by decide +kernel
theorem dX7_wrong_8 : decode cX7_wrong 8 = .ok (.ireturn, 1) := by decide +kernel
theorem dX7_wrong_9 : decode cX7_wrong 9 = .ok (.aload_n 0, 1) := by decide +kernel
theorem dX7_wrong_10 : decode cX7_wrong 10 = .ok (.invokevirtual 198, 3) := by decide +kernel
theorem dX7_wrong_13 : decode cX7_wrong 13 = .ok (.ifCond .ne 6, 3) := by decide +kernel
theorem dX7_wrong_16 : decode cX7_wrong 16 = .ok (.bipush (-4), 2) := by decide +kernel
theorem dX7_wrong_18 : decode cX7_wrong 18 = .ok (.ireturn, 1) := by decide +kernel
theorem dX7_wrong_19 : decode cX7_wrong 19 = .ok (.aload_n 0, 1) := by decide +kernel
theorem dX7_wrong_20 : decode cX7_wrong 20 = .ok (.getfield 7, 3) := by decide +kernel
theorem dX7_wrong_23 : decode cX7_wrong 23 = .ok (.iload_n 1, 1) := by decide +kernel
theorem dX7_wrong_24 : decode cX7_wrong 24 = .ok (.iaload, 1) := by decide +kernel
theorem dX7_wrong_25 : decode cX7_wrong 25 = .ok (.ifCond .ge 9, 3) := by decide +kernel
theorem dX7_wrong_28 : decode cX7_wrong 28 = .ok (.aload_n 0, 1) := by decide +kernel
theorem dX7_wrong_29 : decode cX7_wrong 29 = .ok (.iconst 1, 1) := by decide +kernel
theorem dX7_wrong_30 : decode cX7_wrong 30 = .ok (.invokevirtual 72, 3) := by decide +kernel
theorem dX7_wrong_33 : decode cX7_wrong 33 = .ok (.ireturn, 1) := by decide +kernel
theorem dX7_wrong_34 : decode cX7_wrong 34 = .ok (.aload_n 0, 1) := by decide +kernel
theorem dX7_wrong_35 : decode cX7_wrong 35 = .ok (.iload_n 1, 1) := by decide +kernel
theorem dX7_wrong_36 : decode cX7_wrong 36 = .ok (.aload_n 0, 1) := by decide +kernel
theorem dX7_wrong_37 : decode cX7_wrong 37 = .ok (.getfield 25, 3) := by decide +kernel
theorem dX7_wrong_40 : decode cX7_wrong 40 = .ok (.iconst 5, 1) := by decide +kernel
theorem dX7_wrong_41 : decode cX7_wrong 41 = .ok (.iaload, 1) := by decide +kernel
theorem dX7_wrong_42 : decode cX7_wrong 42 = .ok (.invokevirtual 226, 3) := by decide +kernel
theorem dX7_wrong_45 : decode cX7_wrong 45 = .ok (.ifCond .ne 9, 3) := by decide +kernel
theorem dX7_wrong_48 : decode cX7_wrong 48 = .ok (.aload_n 0, 1) := by decide +kernel
theorem dX7_wrong_49 : decode cX7_wrong 49 = .ok (.iconst 3, 1) := by decide +kernel
theorem dX7_wrong_50 : decode cX7_wrong 50 = .ok (.invokevirtual 72, 3) := by decide +kernel
theorem dX7_wrong_53 : decode cX7_wrong 53 = .ok (.ireturn, 1) := by decide +kernel
theorem dX7_wrong_54 : decode cX7_wrong 54 = .ok (.iconst 0, 1) := by decide +kernel
theorem dX7_wrong_55 : decode cX7_wrong 55 = .ok (.istore_n 2, 1) := by decide +kernel
theorem dX7_wrong_56 : decode cX7_wrong 56 = .ok (.iconst 0, 1) := by decide +kernel
theorem dX7_wrong_57 : decode cX7_wrong 57 = .ok (.istore_n 3, 1) := by decide +kernel
theorem dX7_wrong_58 : decode cX7_wrong 58 = .ok (.iconst 0, 1) := by decide +kernel
theorem dX7_wrong_59 : decode cX7_wrong 59 = .ok (.istore 4, 2) := by decide +kernel
theorem dX7_wrong_61 : decode cX7_wrong 61 = .ok (.iload 4, 2) := by decide +kernel
theorem dX7_wrong_63 : decode cX7_wrong 63 = .ok (.aload_n 0, 1) := by decide +kernel
theorem dX7_wrong_64 : decode cX7_wrong 64 = .ok (.getfield 7, 3) := by decide +kernel
theorem dX7_wrong_67 : decode cX7_wrong 67 = .ok (.iload_n 1, 1) := by decide +kernel
theorem dX7_wrong_68 : decode cX7_wrong 68 = .ok (.iaload, 1) := by decide +kernel
theorem dX7_wrong_69 : decode cX7_wrong 69 = .ok (.if_icmp .ge 104, 3) := by decide +kernel
theorem dX7_wrong_72 : decode cX7_wrong 72 = .ok (.iload 4, 2) := by decide +kernel
theorem dX7_wrong_74 : decode cX7_wrong 74 = .ok (.iconst 1, 1) := by decide +kernel
theorem dX7_wrong_75 : decode cX7_wrong 75 = .ok (.iadd, 1) := by decide +kernel
theorem dX7_wrong_76 : decode cX7_wrong 76 = .ok (.istore 5, 2) := by decide +kernel
theorem dX7_wrong_78 : decode cX7_wrong 78 = .ok (.iload 5, 2) := by decide +kernel
theorem dX7_wrong_80 : decode cX7_wrong 80 = .ok (.aload_n 0, 1) := by decide +kernel
theorem dX7_wrong_81 : decode cX7_wrong 81 = .ok (.getfield 7, 3) := by decide +kernel
theorem dX7_wrong_84 : decode cX7_wrong 84 = .ok (.iload_n 1, 1) := by decide +kernel
theorem dX7_wrong_85 : decode cX7_wrong 85 = .ok (.iaload, 1) := by decide +kernel
theorem dX7_wrong_86 : decode cX7_wrong 86 = .ok (.if_icmp .ge 81, 3) := by decide +kernel
theorem dX7_wrong_89 : decode cX7_wrong 89 = .ok (.aload_n 0, 1) := by decide +kernel
theorem dX7_wrong_90 : decode cX7_wrong 90 = .ok (.getfield 13, 3) := by decide +kernel
theorem dX7_wrong_93 : decode cX7_wrong 93 = .ok (.bipush 40, 2) := by decide +kernel
theorem dX7_wrong_95 : decode cX7_wrong 95 = .ok (.iload_n 1, 1) := by decide +kernel
theorem dX7_wrong_96 : decode cX7_wrong 96 = .ok (.imul, 1) := by decide +kernel
theorem dX7_wrong_97 : decode cX7_wrong 97 = .ok (.iload 4, 2) := by decide +kernel
theorem dX7_wrong_99 : decode cX7_wrong 99 = .ok (.iadd, 1) := by decide +kernel
theorem dX7_wrong_100 : decode cX7_wrong 100 = .ok (.iaload, 1) := by decide +kernel
theorem dX7_wrong_101 : decode cX7_wrong 101 = .ok (.istore 6, 2) := by decide +kernel
theorem dX7_wrong_103 : decode cX7_wrong 103 = .ok (.aload_n 0, 1) := by decide +kernel
theorem dX7_wrong_104 : decode cX7_wrong 104 = .ok (.getfield 13, 3) := by decide +kernel
theorem dX7_wrong_107 : decode cX7_wrong 107 = .ok (.bipush 40, 2) := by decide +kernel
theorem dX7_wrong_109 : decode cX7_wrong 109 = .ok (.iload_n 1, 1) := by decide +kernel
theorem dX7_wrong_110 : decode cX7_wrong 110 = .ok (.imul, 1) := by decide +kernel
theorem dX7_wrong_111 : decode cX7_wrong 111 = .ok (.iload 5, 2) := by decide +kernel
theorem dX7_wrong_113 : decode cX7_wrong 113 = .ok (.iadd, 1) := by decide +kernel
theorem dX7_wrong_114 : decode cX7_wrong 114 = .ok (.iaload, 1) := by decide +kernel
theorem dX7_wrong_115 : decode cX7_wrong 115 = .ok (.istore 7, 2) := by decide +kernel
theorem dX7_wrong_117 : decode cX7_wrong 117 = .ok (.aload_n 0, 1) := by decide +kernel
theorem dX7_wrong_118 : decode cX7_wrong 118 = .ok (.iload 7, 2) := by decide +kernel
theorem dX7_wrong_120 : decode cX7_wrong 120 = .ok (.iload 6, 2) := by decide +kernel
theorem dX7_wrong_122 : decode cX7_wrong 122 = .ok (.invokevirtual 165, 3) := by decide +kernel
theorem dX7_wrong_125 : decode cX7_wrong 125 = .ok (.istore 8, 2) := by decide +kernel
theorem dX7_wrong_127 : decode cX7_wrong 127 = .ok (.iload_n 2, 1) := by decide +kernel
theorem dX7_wrong_128 : decode cX7_wrong 128 = .ok (.iload 8, 2) := by decide +kernel
theorem dX7_wrong_130 : decode cX7_wrong 130 = .ok (.ifCond .eq 7, 3) := by decide +kernel
theorem dX7_wrong_133 : decode cX7_wrong 133 = .ok (.iconst 1, 1) := by decide +kernel
theorem dX7_wrong_134 : decode cX7_wrong 134 = .ok (.goto 4, 3) := by decide +kernel
theorem dX7_wrong_137 : decode cX7_wrong 137 = .ok (.iconst 0, 1) := by decide +kernel
theorem dX7_wrong_138 : decode cX7_wrong 138 = .ok (.iadd, 1) := by decide +kernel
theorem dX7_wrong_139 : decode cX7_wrong 139 = .ok (.istore_n 2, 1) := by decide +kernel
theorem dX7_wrong_140 : decode cX7_wrong 140 = .ok (.iload_n 3, 1) := by decide +kernel
theorem dX7_wrong_141 : decode cX7_wrong 141 = .ok (.iload 8, 2) := by decide +kernel
theorem dX7_wrong_143 : decode cX7_wrong 143 = .ok (.ifCond .eq 15, 3) := by decide +kernel
theorem dX7_wrong_146 : decode cX7_wrong 146 = .ok (.iconst 1, 1) := by decide +kernel
theorem dX7_wrong_147 : decode cX7_wrong 147 = .ok (.iload 6, 2) := by decide +kernel
theorem dX7_wrong_149 : decode cX7_wrong 149 = .ok (.ishl, 1) := by decide +kernel
theorem dX7_wrong_150 : decode cX7_wrong 150 = .ok (.iconst 1, 1) := by decide +kernel
theorem dX7_wrong_151 : decode cX7_wrong 151 = .ok (.iload 7, 2) := by decide +kernel
theorem dX7_wrong_153 : decode cX7_wrong 153 = .ok (.ishl, 1) := by decide +kernel
theorem dX7_wrong_154 : decode cX7_wrong 154 = .ok (.ior, 1) := by decide +kernel
theorem dX7_wrong_155 : decode cX7_wrong 155 = .ok (.goto 4, 3) := by decide +kernel
theorem dX7_wrong_158 : decode cX7_wrong 158 = .ok (.iconst 0, 1) := by decide +kernel
theorem dX7_wrong_159 : decode cX7_wrong 159 = .ok (.ior, 1) := by decide +kernel
theorem dX7_wrong_160 : decode cX7_wrong 160 = .ok (.istore_n 3, 1) := by decide +kernel
theorem dX7_wrong_161 : decode cX7_wrong 161 = .ok (.iinc 5 1, 3) := by decide +kernel
theorem dX7_wrong_164 : decode cX7_wrong 164 = .ok (.goto (-86), 3) := by decide +kernel
theorem dX7_wrong_167 : decode cX7_wrong 167 = .ok (.iinc 4 1, 3) := by decide +kernel
theorem dX7_wrong_170 : decode cX7_wrong 170 = .ok (.goto (-109), 3) := by decide +kernel
theorem dX7_wrong_173 : decode cX7_wrong 173 = .ok (.aload_n 0, 1) := by decide +kernel
theorem dX7_wrong_174 : decode cX7_wrong 174 = .ok (.iload_n 2, 1) := by decide +kernel
theorem dX7_wrong_175 : decode cX7_wrong 175 = .ok (.iload_n 3, 1) := by decide +kernel
theorem dX7_wrong_176 : decode cX7_wrong 176 = .ok (.invokevirtual 84, 3) := by decide +kernel
theorem dX7_wrong_179 : decode cX7_wrong 179 = .ok (.ireturn, 1) := by decide +kernel
theorem dX7_barred_0 : decode cX7_barred 0 = .ok (.aload_n 0, 1) := by decide +kernel
theorem dX7_barred_1 : decode cX7_barred 1 = .ok (.iload_n 1, 1) := by decide +kernel
theorem dX7_barred_2 : decode cX7_barred 2 = .ok (.invokevirtual 159, 3) := by decide +kernel
theorem dX7_barred_5 : decode cX7_barred 5 = .ok (.ifCond .eq 10, 3) := by decide +kernel
theorem dX7_barred_8 : decode cX7_barred 8 = .ok (.iload_n 2, 1) := by decide +kernel
theorem dX7_barred_9 : decode cX7_barred 9 = .ok (.invokestatic 68, 3) := by decide +kernel
theorem dX7_barred_12 : decode cX7_barred 12 = .ok (.ifCond .ne 5, 3) := by decide +kernel
theorem dX7_barred_15 : decode cX7_barred 15 = .ok (.iconst (-1), 1) := by decide +kernel
theorem dX7_barred_16 : decode cX7_barred 16 = .ok (.ireturn, 1) := by decide +kernel
theorem dX7_barred_17 : decode cX7_barred 17 = .ok (.aload_n 0, 1) := by decide +kernel
theorem dX7_barred_18 : decode cX7_barred 18 = .ok (.getfield 7, 3) := by decide +kernel
theorem dX7_barred_21 : decode cX7_barred 21 = .ok (.iload_n 2, 1) := by decide +kernel
theorem dX7_barred_22 : decode cX7_barred 22 = .ok (.iaload, 1) := by decide +kernel
theorem dX7_barred_23 : decode cX7_barred 23 = .ok (.ifCond .ge 9, 3) := by decide +kernel
theorem dX7_barred_26 : decode cX7_barred 26 = .ok (.aload_n 0, 1) := by decide +kernel
theorem dX7_barred_27 : decode cX7_barred 27 = .ok (.iconst 1, 1) := by decide +kernel
theorem dX7_barred_28 : decode cX7_barred 28 = .ok (.invokevirtual 72, 3) := by decide +kernel
theorem dX7_barred_31 : decode cX7_barred 31 = .ok (.ireturn, 1) := by decide +kernel
theorem dX7_barred_32 : decode cX7_barred 32 = .ok (.aload_n 0, 1) := by decide +kernel
theorem dX7_barred_33 : decode cX7_barred 33 = .ok (.getfield 7, 3) := by decide +kernel
theorem dX7_barred_36 : decode cX7_barred 36 = .ok (.iload_n 2, 1) := by decide +kernel
theorem dX7_barred_37 : decode cX7_barred 37 = .ok (.iaload, 1) := by decide +kernel
theorem dX7_barred_38 : decode cX7_barred 38 = .ok (.iconst 2, 1) := by decide +kernel
theorem dX7_barred_39 : decode cX7_barred 39 = .ok (.irem, 1) := by decide +kernel
theorem dX7_barred_40 : decode cX7_barred 40 = .ok (.ifCond .eq 9, 3) := by decide +kernel
theorem dX7_barred_43 : decode cX7_barred 43 = .ok (.aload_n 0, 1) := by decide +kernel
theorem dX7_barred_44 : decode cX7_barred 44 = .ok (.iconst 5, 1) := by decide +kernel
theorem dX7_barred_45 : decode cX7_barred 45 = .ok (.invokevirtual 72, 3) := by decide +kernel
theorem dX7_barred_48 : decode cX7_barred 48 = .ok (.ireturn, 1) := by decide +kernel
theorem dX7_barred_49 : decode cX7_barred 49 = .ok (.iconst 1, 1) := by decide +kernel
theorem dX7_barred_50 : decode cX7_barred 50 = .ok (.istore_n 3, 1) := by decide +kernel
theorem dX7_barred_51 : decode cX7_barred 51 = .ok (.iconst 0, 1) := by decide +kernel
theorem dX7_barred_52 : decode cX7_barred 52 = .ok (.istore 4, 2) := by decide +kernel
theorem dX7_barred_54 : decode cX7_barred 54 = .ok (.iload 4, 2) := by decide +kernel
theorem dX7_barred_56 : decode cX7_barred 56 = .ok (.aload_n 0, 1) := by decide +kernel
theorem dX7_barred_57 : decode cX7_barred 57 = .ok (.getfield 7, 3) := by decide +kernel
theorem dX7_barred_60 : decode cX7_barred 60 = .ok (.iload_n 2, 1) := by decide +kernel
theorem dX7_barred_61 : decode cX7_barred 61 = .ok (.iaload, 1) := by decide +kernel
theorem dX7_barred_62 : decode cX7_barred 62 = .ok (.if_icmp .ge 65, 3) := by decide +kernel
theorem dX7_barred_65 : decode cX7_barred 65 = .ok (.iload_n 3, 1) := by decide +kernel
theorem dX7_barred_66 : decode cX7_barred 66 = .ok (.ifCond .eq 53, 3) := by decide +kernel
theorem dX7_barred_69 : decode cX7_barred 69 = .ok (.aload_n 0, 1) := by decide +kernel
theorem dX7_barred_70 : decode cX7_barred 70 = .ok (.getfield 13, 3) := by decide +kernel
theorem dX7_barred_73 : decode cX7_barred 73 = .ok (.bipush 40, 2) := by decide +kernel
theorem dX7_barred_75 : decode cX7_barred 75 = .ok (.iload_n 2, 1) := by decide +kernel
theorem dX7_barred_76 : decode cX7_barred 76 = .ok (.imul, 1) := by decide +kernel
theorem dX7_barred_77 : decode cX7_barred 77 = .ok (.iload 4, 2) := by decide +kernel
theorem dX7_barred_79 : decode cX7_barred 79 = .ok (.iadd, 1) := by decide +kernel
theorem dX7_barred_80 : decode cX7_barred 80 = .ok (.iaload, 1) := by decide +kernel
theorem dX7_barred_81 : decode cX7_barred 81 = .ok (.iconst 0, 1) := by decide +kernel
theorem dX7_barred_82 : decode cX7_barred 82 = .ok (.sipush 999, 3) := by decide +kernel
theorem dX7_barred_85 : decode cX7_barred 85 = .ok (.invokestatic 64, 3) := by decide +kernel
theorem dX7_barred_88 : decode cX7_barred 88 = .ok (.ifCond .eq 31, 3) := by decide +kernel
theorem dX7_barred_91 : decode cX7_barred 91 = .ok (.aload_n 0, 1) := by decide +kernel
theorem dX7_barred_92 : decode cX7_barred 92 = .ok (.getfield 13, 3) := by decide +kernel
theorem dX7_barred_95 : decode cX7_barred 95 = .ok (.bipush 40, 2) := by decide +kernel
theorem dX7_barred_97 : decode cX7_barred 97 = .ok (.iload_n 2, 1) := by decide +kernel
theorem dX7_barred_98 : decode cX7_barred 98 = .ok (.imul, 1) := by decide +kernel
theorem dX7_barred_99 : decode cX7_barred 99 = .ok (.iload 4, 2) := by decide +kernel
theorem dX7_barred_101 : decode cX7_barred 101 = .ok (.iadd, 1) := by decide +kernel
theorem dX7_barred_102 : decode cX7_barred 102 = .ok (.iconst 1, 1) := by decide +kernel
theorem dX7_barred_103 : decode cX7_barred 103 = .ok (.iadd, 1) := by decide +kernel
theorem dX7_barred_104 : decode cX7_barred 104 = .ok (.iaload, 1) := by decide +kernel
theorem dX7_barred_105 : decode cX7_barred 105 = .ok (.iconst 0, 1) := by decide +kernel
theorem dX7_barred_106 : decode cX7_barred 106 = .ok (.sipush 2000, 3) := by decide +kernel
theorem dX7_barred_109 : decode cX7_barred 109 = .ok (.invokestatic 64, 3) := by decide +kernel
theorem dX7_barred_112 : decode cX7_barred 112 = .ok (.ifCond .eq 7, 3) := by decide +kernel
theorem dX7_barred_115 : decode cX7_barred 115 = .ok (.iconst 1, 1) := by decide +kernel
theorem dX7_barred_116 : decode cX7_barred 116 = .ok (.goto 4, 3) := by decide +kernel
theorem dX7_barred_119 : decode cX7_barred 119 = .ok (.iconst 0, 1) := by decide +kernel
theorem dX7_barred_120 : decode cX7_barred 120 = .ok (.istore_n 3, 1) := by decide +kernel
theorem dX7_barred_121 : decode cX7_barred 121 = .ok (.iinc 4 2, 3) := by decide +kernel
theorem dX7_barred_124 : decode cX7_barred 124 = .ok (.goto (-70), 3) := by decide +kernel
theorem dX7_barred_127 : decode cX7_barred 127 = .ok (.iload_n 3, 1) := by decide +kernel
theorem dX7_barred_128 : decode cX7_barred 128 = .ok (.ifCond .eq 7, 3) := by decide +kernel
theorem dX7_barred_131 : decode cX7_barred 131 = .ok (.iconst 0, 1) := by decide +kernel
theorem dX7_barred_132 : decode cX7_barred 132 = .ok (.goto 8, 3) := by decide +kernel
theorem dX7_barred_135 : decode cX7_barred 135 = .ok (.aload_n 0, 1) := by decide +kernel
theorem dX7_barred_136 : decode cX7_barred 136 = .ok (.iconst 3, 1) := by decide +kernel
theorem dX7_barred_137 : decode cX7_barred 137 = .ok (.invokevirtual 72, 3) := by decide +kernel
theorem dX7_barred_140 : decode cX7_barred 140 = .ok (.ireturn, 1) := by decide +kernel
theorem dX7_ageAs_0 : decode cX7_ageAs 0 = .ok (.iload_n 2, 1) := by decide +kernel
theorem dX7_ageAs_1 : decode cX7_ageAs 1 = .ok (.iload_n 3, 1) := by decide +kernel
theorem dX7_ageAs_2 : decode cX7_ageAs 2 = .ok (.aload_n 0, 1) := by decide +kernel
theorem dX7_ageAs_3 : decode cX7_ageAs 3 = .ok (.iload_n 1, 1) := by decide +kernel
theorem dX7_ageAs_4 : decode cX7_ageAs 4 = .ok (.iconst 1, 1) := by decide +kernel
theorem dX7_ageAs_5 : decode cX7_ageAs 5 = .ok (.invokevirtual 126, 3) := by decide +kernel
theorem dX7_ageAs_8 : decode cX7_ageAs 8 = .ok (.invokestatic 129, 3) := by decide +kernel
theorem dX7_ageAs_11 : decode cX7_ageAs 11 = .ok (.aload_n 0, 1) := by decide +kernel
theorem dX7_ageAs_12 : decode cX7_ageAs 12 = .ok (.iload_n 1, 1) := by decide +kernel
theorem dX7_ageAs_13 : decode cX7_ageAs 13 = .ok (.iconst 5, 1) := by decide +kernel
theorem dX7_ageAs_14 : decode cX7_ageAs 14 = .ok (.invokevirtual 126, 3) := by decide +kernel
theorem dX7_ageAs_17 : decode cX7_ageAs 17 = .ok (.aload_n 0, 1) := by decide +kernel
theorem dX7_ageAs_18 : decode cX7_ageAs 18 = .ok (.iload_n 1, 1) := by decide +kernel
theorem dX7_ageAs_19 : decode cX7_ageAs 19 = .ok (.bipush 6, 2) := by decide +kernel
theorem dX7_ageAs_21 : decode cX7_ageAs 21 = .ok (.invokevirtual 126, 3) := by decide +kernel
theorem dX7_ageAs_24 : decode cX7_ageAs 24 = .ok (.invokestatic 132, 3) := by decide +kernel
theorem dX7_ageAs_27 : decode cX7_ageAs 27 = .ok (.ireturn, 1) := by decide +kernel
theorem dX7_kindsBy_0 : decode cX7_kindsBy 0 = .ok (.iconst 0, 1) := by decide +kernel
theorem dX7_kindsBy_1 : decode cX7_kindsBy 1 = .ok (.istore_n 3, 1) := by decide +kernel
theorem dX7_kindsBy_2 : decode cX7_kindsBy 2 = .ok (.iconst 0, 1) := by decide +kernel
theorem dX7_kindsBy_3 : decode cX7_kindsBy 3 = .ok (.istore 4, 2) := by decide +kernel
theorem dX7_kindsBy_5 : decode cX7_kindsBy 5 = .ok (.iload 4, 2) := by decide +kernel
theorem dX7_kindsBy_7 : decode cX7_kindsBy 7 = .ok (.bipush 6, 2) := by decide +kernel
theorem dX7_kindsBy_9 : decode cX7_kindsBy 9 = .ok (.if_icmp .ge 96, 3) := by decide +kernel
theorem dX7_kindsBy_12 : decode cX7_kindsBy 12 = .ok (.iconst 1, 1) := by decide +kernel
theorem dX7_kindsBy_13 : decode cX7_kindsBy 13 = .ok (.istore 5, 2) := by decide +kernel
theorem dX7_kindsBy_15 : decode cX7_kindsBy 15 = .ok (.iconst 0, 1) := by decide +kernel
theorem dX7_kindsBy_16 : decode cX7_kindsBy 16 = .ok (.istore 6, 2) := by decide +kernel
theorem dX7_kindsBy_18 : decode cX7_kindsBy 18 = .ok (.iload 6, 2) := by decide +kernel
theorem dX7_kindsBy_20 : decode cX7_kindsBy 20 = .ok (.aload_n 0, 1) := by decide +kernel
theorem dX7_kindsBy_21 : decode cX7_kindsBy 21 = .ok (.getfield 7, 3) := by decide +kernel
theorem dX7_kindsBy_24 : decode cX7_kindsBy 24 = .ok (.iload_n 2, 1) := by decide +kernel
theorem dX7_kindsBy_25 : decode cX7_kindsBy 25 = .ok (.iaload, 1) := by decide +kernel
theorem dX7_kindsBy_26 : decode cX7_kindsBy 26 = .ok (.if_icmp .ge 57, 3) := by decide +kernel
theorem dX7_kindsBy_29 : decode cX7_kindsBy 29 = .ok (.iload 5, 2) := by decide +kernel
theorem dX7_kindsBy_31 : decode cX7_kindsBy 31 = .ok (.ifCond .eq 43, 3) := by decide +kernel
theorem dX7_kindsBy_34 : decode cX7_kindsBy 34 = .ok (.aload_n 0, 1) := by decide +kernel
theorem dX7_kindsBy_35 : decode cX7_kindsBy 35 = .ok (.iload_n 1, 1) := by decide +kernel
theorem dX7_kindsBy_36 : decode cX7_kindsBy 36 = .ok (.iload 4, 2) := by decide +kernel
theorem dX7_kindsBy_38 : decode cX7_kindsBy 38 = .ok (.aload_n 0, 1) := by decide +kernel
theorem dX7_kindsBy_39 : decode cX7_kindsBy 39 = .ok (.getfield 13, 3) := by decide +kernel
theorem dX7_kindsBy_42 : decode cX7_kindsBy 42 = .ok (.bipush 40, 2) := by decide +kernel
theorem dX7_kindsBy_44 : decode cX7_kindsBy 44 = .ok (.iload_n 2, 1) := by decide +kernel
theorem dX7_kindsBy_45 : decode cX7_kindsBy 45 = .ok (.imul, 1) := by decide +kernel
theorem dX7_kindsBy_46 : decode cX7_kindsBy 46 = .ok (.iload 6, 2) := by decide +kernel
theorem dX7_kindsBy_48 : decode cX7_kindsBy 48 = .ok (.iadd, 1) := by decide +kernel
theorem dX7_kindsBy_49 : decode cX7_kindsBy 49 = .ok (.iaload, 1) := by decide +kernel
theorem dX7_kindsBy_50 : decode cX7_kindsBy 50 = .ok (.invokevirtual 232, 3) := by decide +kernel
theorem dX7_kindsBy_53 : decode cX7_kindsBy 53 = .ok (.aload_n 0, 1) := by decide +kernel
theorem dX7_kindsBy_54 : decode cX7_kindsBy 54 = .ok (.getfield 13, 3) := by decide +kernel
theorem dX7_kindsBy_57 : decode cX7_kindsBy 57 = .ok (.bipush 40, 2) := by decide +kernel
theorem dX7_kindsBy_59 : decode cX7_kindsBy 59 = .ok (.iload_n 2, 1) := by decide +kernel
theorem dX7_kindsBy_60 : decode cX7_kindsBy 60 = .ok (.imul, 1) := by decide +kernel
theorem dX7_kindsBy_61 : decode cX7_kindsBy 61 = .ok (.iload 6, 2) := by decide +kernel
theorem dX7_kindsBy_63 : decode cX7_kindsBy 63 = .ok (.iadd, 1) := by decide +kernel
theorem dX7_kindsBy_64 : decode cX7_kindsBy 64 = .ok (.iconst 1, 1) := by decide +kernel
theorem dX7_kindsBy_65 : decode cX7_kindsBy 65 = .ok (.iadd, 1) := by decide +kernel
theorem dX7_kindsBy_66 : decode cX7_kindsBy 66 = .ok (.iaload, 1) := by decide +kernel
theorem dX7_kindsBy_67 : decode cX7_kindsBy 67 = .ok (.if_icmp .ne 7, 3) := by decide +kernel
theorem dX7_kindsBy_70 : decode cX7_kindsBy 70 = .ok (.iconst 1, 1) := by decide +kernel
theorem dX7_kindsBy_71 : decode cX7_kindsBy 71 = .ok (.goto 4, 3) := by decide +kernel
theorem dX7_kindsBy_74 : decode cX7_kindsBy 74 = .ok (.iconst 0, 1) := by decide +kernel
theorem dX7_kindsBy_75 : decode cX7_kindsBy 75 = .ok (.istore 5, 2) := by decide +kernel
theorem dX7_kindsBy_77 : decode cX7_kindsBy 77 = .ok (.iinc 6 2, 3) := by decide +kernel
theorem dX7_kindsBy_80 : decode cX7_kindsBy 80 = .ok (.goto (-62), 3) := by decide +kernel
theorem dX7_kindsBy_83 : decode cX7_kindsBy 83 = .ok (.iload_n 3, 1) := by decide +kernel
theorem dX7_kindsBy_84 : decode cX7_kindsBy 84 = .ok (.iload 5, 2) := by decide +kernel
theorem dX7_kindsBy_86 : decode cX7_kindsBy 86 = .ok (.ifCond .eq 10, 3) := by decide +kernel
theorem dX7_kindsBy_89 : decode cX7_kindsBy 89 = .ok (.iconst 1, 1) := by decide +kernel
theorem dX7_kindsBy_90 : decode cX7_kindsBy 90 = .ok (.iload 4, 2) := by decide +kernel
theorem dX7_kindsBy_92 : decode cX7_kindsBy 92 = .ok (.ishl, 1) := by decide +kernel
theorem dX7_kindsBy_93 : decode cX7_kindsBy 93 = .ok (.goto 4, 3) := by decide +kernel
theorem dX7_kindsBy_96 : decode cX7_kindsBy 96 = .ok (.iconst 0, 1) := by decide +kernel
theorem dX7_kindsBy_97 : decode cX7_kindsBy 97 = .ok (.ior, 1) := by decide +kernel
theorem dX7_kindsBy_98 : decode cX7_kindsBy 98 = .ok (.istore_n 3, 1) := by decide +kernel
theorem dX7_kindsBy_99 : decode cX7_kindsBy 99 = .ok (.iinc 4 1, 3) := by decide +kernel
theorem dX7_kindsBy_102 : decode cX7_kindsBy 102 = .ok (.goto (-97), 3) := by decide +kernel
theorem dX7_kindsBy_105 : decode cX7_kindsBy 105 = .ok (.iload_n 3, 1) := by decide +kernel
theorem dX7_kindsBy_106 : decode cX7_kindsBy 106 = .ok (.ireturn, 1) := by decide +kernel
theorem dX7_kinds_0 : decode cX7_kinds 0 = .ok (.aload_n 0, 1) := by decide +kernel
theorem dX7_kinds_1 : decode cX7_kinds 1 = .ok (.iload_n 1, 1) := by decide +kernel
theorem dX7_kinds_2 : decode cX7_kinds 2 = .ok (.iload_n 2, 1) := by decide +kernel
theorem dX7_kinds_3 : decode cX7_kinds 3 = .ok (.invokevirtual 236, 3) := by decide +kernel
theorem dX7_kinds_6 : decode cX7_kinds 6 = .ok (.istore_n 3, 1) := by decide +kernel
theorem dX7_kinds_7 : decode cX7_kinds 7 = .ok (.iload_n 3, 1) := by decide +kernel
theorem dX7_kinds_8 : decode cX7_kinds 8 = .ok (.ifCond .ne 12, 3) := by decide +kernel
theorem dX7_kinds_11 : decode cX7_kinds 11 = .ok (.aload_n 0, 1) := by decide +kernel
theorem dX7_kinds_12 : decode cX7_kinds 12 = .ok (.iload_n 1, 1) := by decide +kernel
theorem dX7_kinds_13 : decode cX7_kinds 13 = .ok (.iload_n 2, 1) := by decide +kernel
theorem dX7_kinds_14 : decode cX7_kinds 14 = .ok (.invokevirtual 239, 3) := by decide +kernel
theorem dX7_kinds_17 : decode cX7_kinds 17 = .ok (.goto 4, 3) := by decide +kernel
theorem dX7_kinds_20 : decode cX7_kinds 20 = .ok (.iload_n 3, 1) := by decide +kernel
theorem dX7_kinds_21 : decode cX7_kinds 21 = .ok (.ireturn, 1) := by decide +kernel
theorem dX7_alike_0 : decode cX7_alike 0 = .ok (.iconst 0, 1) := by decide +kernel
theorem dX7_alike_1 : decode cX7_alike 1 = .ok (.istore 4, 2) := by decide +kernel
theorem dX7_alike_3 : decode cX7_alike 3 = .ok (.iconst 0, 1) := by decide +kernel
theorem dX7_alike_4 : decode cX7_alike 4 = .ok (.istore 5, 2) := by decide +kernel
theorem dX7_alike_6 : decode cX7_alike 6 = .ok (.iload 5, 2) := by decide +kernel
theorem dX7_alike_8 : decode cX7_alike 8 = .ok (.bipush 6, 2) := by decide +kernel
theorem dX7_alike_10 : decode cX7_alike 10 = .ok (.if_icmp .ge 91, 3) := by decide +kernel
theorem dX7_alike_13 : decode cX7_alike 13 = .ok (.iconst 0, 1) := by decide +kernel
theorem dX7_alike_14 : decode cX7_alike 14 = .ok (.istore 6, 2) := by decide +kernel
theorem dX7_alike_16 : decode cX7_alike 16 = .ok (.iconst 0, 1) := by decide +kernel
theorem dX7_alike_17 : decode cX7_alike 17 = .ok (.istore 7, 2) := by decide +kernel
theorem dX7_alike_19 : decode cX7_alike 19 = .ok (.iload 7, 2) := by decide +kernel
theorem dX7_alike_21 : decode cX7_alike 21 = .ok (.bipush 6, 2) := by decide +kernel
theorem dX7_alike_23 : decode cX7_alike 23 = .ok (.if_icmp .ge 56, 3) := by decide +kernel
theorem dX7_alike_26 : decode cX7_alike 26 = .ok (.iload 6, 2) := by decide +kernel
theorem dX7_alike_28 : decode cX7_alike 28 = .ok (.iload_n 2, 1) := by decide +kernel
theorem dX7_alike_29 : decode cX7_alike 29 = .ok (.iload 5, 2) := by decide +kernel
theorem dX7_alike_31 : decode cX7_alike 31 = .ok (.invokestatic 146, 3) := by decide +kernel
theorem dX7_alike_34 : decode cX7_alike 34 = .ok (.ifCond .eq 35, 3) := by decide +kernel
theorem dX7_alike_37 : decode cX7_alike 37 = .ok (.iload_n 2, 1) := by decide +kernel
theorem dX7_alike_38 : decode cX7_alike 38 = .ok (.iload 7, 2) := by decide +kernel
theorem dX7_alike_40 : decode cX7_alike 40 = .ok (.invokestatic 146, 3) := by decide +kernel
theorem dX7_alike_43 : decode cX7_alike 43 = .ok (.ifCond .eq 26, 3) := by decide +kernel
theorem dX7_alike_46 : decode cX7_alike 46 = .ok (.aload_n 0, 1) := by decide +kernel
theorem dX7_alike_47 : decode cX7_alike 47 = .ok (.iload_n 1, 1) := by decide +kernel
theorem dX7_alike_48 : decode cX7_alike 48 = .ok (.iload 5, 2) := by decide +kernel
theorem dX7_alike_50 : decode cX7_alike 50 = .ok (.iload_n 3, 1) := by decide +kernel
theorem dX7_alike_51 : decode cX7_alike 51 = .ok (.invokevirtual 232, 3) := by decide +kernel
theorem dX7_alike_54 : decode cX7_alike 54 = .ok (.aload_n 0, 1) := by decide +kernel
theorem dX7_alike_55 : decode cX7_alike 55 = .ok (.iload_n 1, 1) := by decide +kernel
theorem dX7_alike_56 : decode cX7_alike 56 = .ok (.iload 7, 2) := by decide +kernel
theorem dX7_alike_58 : decode cX7_alike 58 = .ok (.iload_n 3, 1) := by decide +kernel
theorem dX7_alike_59 : decode cX7_alike 59 = .ok (.invokevirtual 232, 3) := by decide +kernel
theorem dX7_alike_62 : decode cX7_alike 62 = .ok (.if_icmp .ne 7, 3) := by decide +kernel
theorem dX7_alike_65 : decode cX7_alike 65 = .ok (.iconst 1, 1) := by decide +kernel
theorem dX7_alike_66 : decode cX7_alike 66 = .ok (.goto 4, 3) := by decide +kernel
theorem dX7_alike_69 : decode cX7_alike 69 = .ok (.iconst 0, 1) := by decide +kernel
theorem dX7_alike_70 : decode cX7_alike 70 = .ok (.iadd, 1) := by decide +kernel
theorem dX7_alike_71 : decode cX7_alike 71 = .ok (.istore 6, 2) := by decide +kernel
theorem dX7_alike_73 : decode cX7_alike 73 = .ok (.iinc 7 1, 3) := by decide +kernel
theorem dX7_alike_76 : decode cX7_alike 76 = .ok (.goto (-57), 3) := by decide +kernel
theorem dX7_alike_79 : decode cX7_alike 79 = .ok (.iload 6, 2) := by decide +kernel
theorem dX7_alike_81 : decode cX7_alike 81 = .ok (.iload 4, 2) := by decide +kernel
theorem dX7_alike_83 : decode cX7_alike 83 = .ok (.if_icmp .le 8, 3) := by decide +kernel
theorem dX7_alike_86 : decode cX7_alike 86 = .ok (.iload 6, 2) := by decide +kernel
theorem dX7_alike_88 : decode cX7_alike 88 = .ok (.goto 5, 3) := by decide +kernel
theorem dX7_alike_91 : decode cX7_alike 91 = .ok (.iload 4, 2) := by decide +kernel
theorem dX7_alike_93 : decode cX7_alike 93 = .ok (.istore 4, 2) := by decide +kernel
theorem dX7_alike_95 : decode cX7_alike 95 = .ok (.iinc 5 1, 3) := by decide +kernel
theorem dX7_alike_98 : decode cX7_alike 98 = .ok (.goto (-92), 3) := by decide +kernel
theorem dX7_alike_101 : decode cX7_alike 101 = .ok (.iload 4, 2) := by decide +kernel
theorem dX7_alike_103 : decode cX7_alike 103 = .ok (.ireturn, 1) := by decide +kernel
theorem dX7_test_0 : decode cX7_test 0 = .ok (.aload_n 0, 1) := by decide +kernel
theorem dX7_test_1 : decode cX7_test 1 = .ok (.iload_n 1, 1) := by decide +kernel
theorem dX7_test_2 : decode cX7_test 2 = .ok (.iload_n 2, 1) := by decide +kernel
theorem dX7_test_3 : decode cX7_test 3 = .ok (.invokevirtual 236, 3) := by decide +kernel
theorem dX7_test_6 : decode cX7_test 6 = .ok (.istore_n 3, 1) := by decide +kernel
theorem dX7_test_7 : decode cX7_test 7 = .ok (.iload_n 3, 1) := by decide +kernel
theorem dX7_test_8 : decode cX7_test 8 = .ok (.ifCond .eq 5, 3) := by decide +kernel
theorem dX7_test_11 : decode cX7_test 11 = .ok (.iload_n 3, 1) := by decide +kernel
theorem dX7_test_12 : decode cX7_test 12 = .ok (.ireturn, 1) := by decide +kernel
theorem dX7_test_13 : decode cX7_test 13 = .ok (.aload_n 0, 1) := by decide +kernel
theorem dX7_test_14 : decode cX7_test 14 = .ok (.iload_n 1, 1) := by decide +kernel
theorem dX7_test_15 : decode cX7_test 15 = .ok (.iload_n 2, 1) := by decide +kernel
theorem dX7_test_16 : decode cX7_test 16 = .ok (.invokevirtual 239, 3) := by decide +kernel
theorem dX7_test_19 : decode cX7_test 19 = .ok (.istore 4, 2) := by decide +kernel
theorem dX7_test_21 : decode cX7_test 21 = .ok (.iconst 0, 1) := by decide +kernel
theorem dX7_test_22 : decode cX7_test 22 = .ok (.istore 5, 2) := by decide +kernel
theorem dX7_test_24 : decode cX7_test 24 = .ok (.bipush 7, 2) := by decide +kernel
theorem dX7_test_26 : decode cX7_test 26 = .ok (.istore 6, 2) := by decide +kernel
theorem dX7_test_28 : decode cX7_test 28 = .ok (.iconst 0, 1) := by decide +kernel
theorem dX7_test_29 : decode cX7_test 29 = .ok (.istore 7, 2) := by decide +kernel
theorem dX7_test_31 : decode cX7_test 31 = .ok (.iload 7, 2) := by decide +kernel
theorem dX7_test_33 : decode cX7_test 33 = .ok (.bipush 100, 2) := by decide +kernel
theorem dX7_test_35 : decode cX7_test 35 = .ok (.if_icmp .ge 59, 3) := by decide +kernel
theorem dX7_test_38 : decode cX7_test 38 = .ok (.aload_n 0, 1) := by decide +kernel
theorem dX7_test_39 : decode cX7_test 39 = .ok (.iload_n 1, 1) := by decide +kernel
theorem dX7_test_40 : decode cX7_test 40 = .ok (.iload 4, 2) := by decide +kernel
theorem dX7_test_42 : decode cX7_test 42 = .ok (.aload_n 0, 1) := by decide +kernel
theorem dX7_test_43 : decode cX7_test 43 = .ok (.getfield 25, 3) := by decide +kernel
theorem dX7_test_46 : decode cX7_test 46 = .ok (.iconst 1, 1) := by decide +kernel
theorem dX7_test_47 : decode cX7_test 47 = .ok (.iaload, 1) := by decide +kernel
theorem dX7_test_48 : decode cX7_test 48 = .ok (.iload 7, 2) := by decide +kernel
theorem dX7_test_50 : decode cX7_test 50 = .ok (.iadd, 1) := by decide +kernel
theorem dX7_test_51 : decode cX7_test 51 = .ok (.invokevirtual 242, 3) := by decide +kernel
theorem dX7_test_54 : decode cX7_test 54 = .ok (.istore 8, 2) := by decide +kernel
theorem dX7_test_56 : decode cX7_test 56 = .ok (.iload 8, 2) := by decide +kernel
theorem dX7_test_58 : decode cX7_test 58 = .ok (.iload 6, 2) := by decide +kernel
theorem dX7_test_60 : decode cX7_test 60 = .ok (.if_icmp .ge 8, 3) := by decide +kernel
theorem dX7_test_63 : decode cX7_test 63 = .ok (.iload 7, 2) := by decide +kernel
theorem dX7_test_65 : decode cX7_test 65 = .ok (.goto 5, 3) := by decide +kernel
theorem dX7_test_68 : decode cX7_test 68 = .ok (.iload 5, 2) := by decide +kernel
theorem dX7_test_70 : decode cX7_test 70 = .ok (.istore 5, 2) := by decide +kernel
theorem dX7_test_72 : decode cX7_test 72 = .ok (.iload 8, 2) := by decide +kernel
theorem dX7_test_74 : decode cX7_test 74 = .ok (.iload 6, 2) := by decide +kernel
theorem dX7_test_76 : decode cX7_test 76 = .ok (.if_icmp .ge 8, 3) := by decide +kernel
theorem dX7_test_79 : decode cX7_test 79 = .ok (.iload 8, 2) := by decide +kernel
theorem dX7_test_81 : decode cX7_test 81 = .ok (.goto 5, 3) := by decide +kernel
theorem dX7_test_84 : decode cX7_test 84 = .ok (.iload 6, 2) := by decide +kernel
theorem dX7_test_86 : decode cX7_test 86 = .ok (.istore 6, 2) := by decide +kernel
theorem dX7_test_88 : decode cX7_test 88 = .ok (.iinc 7 1, 3) := by decide +kernel
theorem dX7_test_91 : decode cX7_test 91 = .ok (.goto (-60), 3) := by decide +kernel
theorem dX7_test_94 : decode cX7_test 94 = .ok (.iload 4, 2) := by decide +kernel
theorem dX7_test_96 : decode cX7_test 96 = .ok (.ifCond .ne 8, 3) := by decide +kernel
theorem dX7_test_99 : decode cX7_test 99 = .ok (.bipush (-9), 2) := by decide +kernel
theorem dX7_test_101 : decode cX7_test 101 = .ok (.goto 11, 3) := by decide +kernel
theorem dX7_test_104 : decode cX7_test 104 = .ok (.aload_n 0, 1) := by decide +kernel
theorem dX7_test_105 : decode cX7_test 105 = .ok (.iload 5, 2) := by decide +kernel
theorem dX7_test_107 : decode cX7_test 107 = .ok (.iload 6, 2) := by decide +kernel
theorem dX7_test_109 : decode cX7_test 109 = .ok (.invokevirtual 84, 3) := by decide +kernel
theorem dX7_test_112 : decode cX7_test 112 = .ok (.ireturn, 1) := by decide +kernel
theorem dX7_valueOf_0 : decode cX7_valueOf 0 = .ok (.bipush 100, 2) := by decide +kernel
theorem dX7_valueOf_2 : decode cX7_valueOf 2 = .ok (.istore_n 2, 1) := by decide +kernel
theorem dX7_valueOf_3 : decode cX7_valueOf 3 = .ok (.iconst 0, 1) := by decide +kernel
theorem dX7_valueOf_4 : decode cX7_valueOf 4 = .ok (.istore_n 3, 1) := by decide +kernel
theorem dX7_valueOf_5 : decode cX7_valueOf 5 = .ok (.iload_n 3, 1) := by decide +kernel
theorem dX7_valueOf_6 : decode cX7_valueOf 6 = .ok (.aload_n 0, 1) := by decide +kernel
theorem dX7_valueOf_7 : decode cX7_valueOf 7 = .ok (.getfield 25, 3) := by decide +kernel
theorem dX7_valueOf_10 : decode cX7_valueOf 10 = .ok (.iconst 0, 1) := by decide +kernel
theorem dX7_valueOf_11 : decode cX7_valueOf 11 = .ok (.iaload, 1) := by decide +kernel
theorem dX7_valueOf_12 : decode cX7_valueOf 12 = .ok (.if_icmp .ge 47, 3) := by decide +kernel
theorem dX7_valueOf_15 : decode cX7_valueOf 15 = .ok (.iload_n 2, 1) := by decide +kernel
theorem dX7_valueOf_16 : decode cX7_valueOf 16 = .ok (.iload_n 1, 1) := by decide +kernel
theorem dX7_valueOf_17 : decode cX7_valueOf 17 = .ok (.iload_n 3, 1) := by decide +kernel
theorem dX7_valueOf_18 : decode cX7_valueOf 18 = .ok (.invokestatic 146, 3) := by decide +kernel
theorem dX7_valueOf_21 : decode cX7_valueOf 21 = .ok (.ifCond .ne 7, 3) := by decide +kernel
theorem dX7_valueOf_24 : decode cX7_valueOf 24 = .ok (.iconst 0, 1) := by decide +kernel
theorem dX7_valueOf_25 : decode cX7_valueOf 25 = .ok (.goto 26, 3) := by decide +kernel
theorem dX7_valueOf_28 : decode cX7_valueOf 28 = .ok (.iload_n 3, 1) := by decide +kernel
theorem dX7_valueOf_29 : decode cX7_valueOf 29 = .ok (.iconst 2, 1) := by decide +kernel
theorem dX7_valueOf_30 : decode cX7_valueOf 30 = .ok (.irem, 1) := by decide +kernel
theorem dX7_valueOf_31 : decode cX7_valueOf 31 = .ok (.iconst 1, 1) := by decide +kernel
theorem dX7_valueOf_32 : decode cX7_valueOf 32 = .ok (.if_icmp .ne 12, 3) := by decide +kernel
theorem dX7_valueOf_35 : decode cX7_valueOf 35 = .ok (.aload_n 0, 1) := by decide +kernel
theorem dX7_valueOf_36 : decode cX7_valueOf 36 = .ok (.iload_n 3, 1) := by decide +kernel
theorem dX7_valueOf_37 : decode cX7_valueOf 37 = .ok (.iload_n 1, 1) := by decide +kernel
theorem dX7_valueOf_38 : decode cX7_valueOf 38 = .ok (.invokevirtual 156, 3) := by decide +kernel
theorem dX7_valueOf_41 : decode cX7_valueOf 41 = .ok (.goto 10, 3) := by decide +kernel
theorem dX7_valueOf_44 : decode cX7_valueOf 44 = .ok (.aload_n 0, 1) := by decide +kernel
theorem dX7_valueOf_45 : decode cX7_valueOf 45 = .ok (.iload_n 3, 1) := by decide +kernel
theorem dX7_valueOf_46 : decode cX7_valueOf 46 = .ok (.iload_n 1, 1) := by decide +kernel
theorem dX7_valueOf_47 : decode cX7_valueOf 47 = .ok (.invokevirtual 156, 3) := by decide +kernel
theorem dX7_valueOf_50 : decode cX7_valueOf 50 = .ok (.ineg, 1) := by decide +kernel
theorem dX7_valueOf_51 : decode cX7_valueOf 51 = .ok (.iadd, 1) := by decide +kernel
theorem dX7_valueOf_52 : decode cX7_valueOf 52 = .ok (.istore_n 2, 1) := by decide +kernel
theorem dX7_valueOf_53 : decode cX7_valueOf 53 = .ok (.iinc 3 1, 3) := by decide +kernel
theorem dX7_valueOf_56 : decode cX7_valueOf 56 = .ok (.goto (-51), 3) := by decide +kernel
theorem dX7_valueOf_59 : decode cX7_valueOf 59 = .ok (.iload_n 2, 1) := by decide +kernel
theorem dX7_valueOf_60 : decode cX7_valueOf 60 = .ok (.ireturn, 1) := by decide +kernel
theorem dX7_comes_0 : decode cX7_comes 0 = .ok (.aload_n 0, 1) := by decide +kernel
theorem dX7_comes_1 : decode cX7_comes 1 = .ok (.getfield 44, 3) := by decide +kernel
theorem dX7_comes_4 : decode cX7_comes 4 = .ok (.iload_n 1, 1) := by decide +kernel
theorem dX7_comes_5 : decode cX7_comes 5 = .ok (.iaload, 1) := by decide +kernel
theorem dX7_comes_6 : decode cX7_comes 6 = .ok (.bipush (-9), 2) := by decide +kernel
theorem dX7_comes_8 : decode cX7_comes 8 = .ok (.if_icmp .eq 32, 3) := by decide +kernel
theorem dX7_comes_11 : decode cX7_comes 11 = .ok (.iload_n 1, 1) := by decide +kernel
theorem dX7_comes_12 : decode cX7_comes 12 = .ok (.iconst 2, 1) := by decide +kernel
theorem dX7_comes_13 : decode cX7_comes 13 = .ok (.irem, 1) := by decide +kernel
theorem dX7_comes_14 : decode cX7_comes 14 = .ok (.ifCond .ne 16, 3) := by decide +kernel
theorem dX7_comes_17 : decode cX7_comes 17 = .ok (.iload_n 2, 1) := by decide +kernel
theorem dX7_comes_18 : decode cX7_comes 18 = .ok (.aload_n 0, 1) := by decide +kernel
theorem dX7_comes_19 : decode cX7_comes 19 = .ok (.getfield 44, 3) := by decide +kernel
theorem dX7_comes_22 : decode cX7_comes 22 = .ok (.iload_n 1, 1) := by decide +kernel
theorem dX7_comes_23 : decode cX7_comes 23 = .ok (.iaload, 1) := by decide +kernel
theorem dX7_comes_24 : decode cX7_comes 24 = .ok (.if_icmp .le 20, 3) := by decide +kernel
theorem dX7_comes_27 : decode cX7_comes 27 = .ok (.goto 13, 3) := by decide +kernel
theorem dX7_comes_30 : decode cX7_comes 30 = .ok (.iload_n 2, 1) := by decide +kernel
theorem dX7_comes_31 : decode cX7_comes 31 = .ok (.aload_n 0, 1) := by decide +kernel
theorem dX7_comes_32 : decode cX7_comes 32 = .ok (.getfield 44, 3) := by decide +kernel
theorem dX7_comes_35 : decode cX7_comes 35 = .ok (.iload_n 1, 1) := by decide +kernel
theorem dX7_comes_36 : decode cX7_comes 36 = .ok (.iaload, 1) := by decide +kernel
theorem dX7_comes_37 : decode cX7_comes 37 = .ok (.if_icmp .ge 7, 3) := by decide +kernel
theorem dX7_comes_40 : decode cX7_comes 40 = .ok (.iconst 1, 1) := by decide +kernel
theorem dX7_comes_41 : decode cX7_comes 41 = .ok (.goto 4, 3) := by decide +kernel
theorem dX7_comes_44 : decode cX7_comes 44 = .ok (.iconst 0, 1) := by decide +kernel
theorem dX7_comes_45 : decode cX7_comes 45 = .ok (.istore_n 3, 1) := by decide +kernel
theorem dX7_comes_46 : decode cX7_comes 46 = .ok (.aload_n 0, 1) := by decide +kernel
theorem dX7_comes_47 : decode cX7_comes 47 = .ok (.getfield 44, 3) := by decide +kernel
theorem dX7_comes_50 : decode cX7_comes 50 = .ok (.iload_n 1, 1) := by decide +kernel
theorem dX7_comes_51 : decode cX7_comes 51 = .ok (.iload_n 3, 1) := by decide +kernel
theorem dX7_comes_52 : decode cX7_comes 52 = .ok (.ifCond .eq 7, 3) := by decide +kernel
theorem dX7_comes_55 : decode cX7_comes 55 = .ok (.iload_n 2, 1) := by decide +kernel
theorem dX7_comes_56 : decode cX7_comes 56 = .ok (.goto 9, 3) := by decide +kernel
theorem dX7_comes_59 : decode cX7_comes 59 = .ok (.aload_n 0, 1) := by decide +kernel
theorem dX7_comes_60 : decode cX7_comes 60 = .ok (.getfield 44, 3) := by decide +kernel
theorem dX7_comes_63 : decode cX7_comes 63 = .ok (.iload_n 1, 1) := by decide +kernel
theorem dX7_comes_64 : decode cX7_comes 64 = .ok (.iaload, 1) := by decide +kernel
theorem dX7_comes_65 : decode cX7_comes 65 = .ok (.iastore, 1) := by decide +kernel
theorem dX7_comes_66 : decode cX7_comes 66 = .ok (.return_, 1) := by decide +kernel
theorem dX7_duel_0 : decode cX7_duel 0 = .ok (.iload_n 1, 1) := by decide +kernel
theorem dX7_duel_1 : decode cX7_duel 1 = .ok (.iconst 0, 1) := by decide +kernel
theorem dX7_duel_2 : decode cX7_duel 2 = .ok (.iconst 5, 1) := by decide +kernel
theorem dX7_duel_3 : decode cX7_duel 3 = .ok (.invokestatic 64, 3) := by decide +kernel
theorem dX7_duel_6 : decode cX7_duel 6 = .ok (.ifCond .ne 5, 3) := by decide +kernel
theorem dX7_duel_9 : decode cX7_duel 9 = .ok (.iconst (-1), 1) := by decide +kernel
theorem dX7_duel_10 : decode cX7_duel 10 = .ok (.ireturn, 1) := by decide +kernel
theorem dX7_duel_11 : decode cX7_duel 11 = .ok (.aload_n 0, 1) := by decide +kernel
theorem dX7_duel_12 : decode cX7_duel 12 = .ok (.invokevirtual 198, 3) := by decide +kernel
theorem dX7_duel_15 : decode cX7_duel 15 = .ok (.ifCond .ne 6, 3) := by decide +kernel
theorem dX7_duel_18 : decode cX7_duel 18 = .ok (.bipush (-4), 2) := by decide +kernel
theorem dX7_duel_20 : decode cX7_duel 20 = .ok (.ireturn, 1) := by decide +kernel
theorem dX7_duel_21 : decode cX7_duel 21 = .ok (.iconst 0, 1) := by decide +kernel
theorem dX7_duel_22 : decode cX7_duel 22 = .ok (.istore_n 2, 1) := by decide +kernel
theorem dX7_duel_23 : decode cX7_duel 23 = .ok (.iconst 0, 1) := by decide +kernel
theorem dX7_duel_24 : decode cX7_duel 24 = .ok (.istore_n 3, 1) := by decide +kernel
theorem dX7_duel_25 : decode cX7_duel 25 = .ok (.iload_n 3, 1) := by decide +kernel
theorem dX7_duel_26 : decode cX7_duel 26 = .ok (.bipush 7, 2) := by decide +kernel
theorem dX7_duel_28 : decode cX7_duel 28 = .ok (.if_icmp .ge 24, 3) := by decide +kernel
theorem dX7_duel_31 : decode cX7_duel 31 = .ok (.aload_n 0, 1) := by decide +kernel
theorem dX7_duel_32 : decode cX7_duel 32 = .ok (.getfield 44, 3) := by decide +kernel
theorem dX7_duel_35 : decode cX7_duel 35 = .ok (.iload_n 3, 1) := by decide +kernel
theorem dX7_duel_36 : decode cX7_duel 36 = .ok (.bipush (-9), 2) := by decide +kernel
theorem dX7_duel_38 : decode cX7_duel 38 = .ok (.iastore, 1) := by decide +kernel
theorem dX7_duel_39 : decode cX7_duel 39 = .ok (.aload_n 0, 1) := by decide +kernel
theorem dX7_duel_40 : decode cX7_duel 40 = .ok (.getfield 41, 3) := by decide +kernel
theorem dX7_duel_43 : decode cX7_duel 43 = .ok (.iload_n 3, 1) := by decide +kernel
theorem dX7_duel_44 : decode cX7_duel 44 = .ok (.iconst (-1), 1) := by decide +kernel
theorem dX7_duel_45 : decode cX7_duel 45 = .ok (.iastore, 1) := by decide +kernel
theorem dX7_duel_46 : decode cX7_duel 46 = .ok (.iinc 3 1, 3) := by decide +kernel
theorem dX7_duel_49 : decode cX7_duel 49 = .ok (.goto (-24), 3) := by decide +kernel
theorem dX7_duel_52 : decode cX7_duel 52 = .ok (.aload_n 0, 1) := by decide +kernel
theorem dX7_duel_53 : decode cX7_duel 53 = .ok (.getfield 47, 3) := by decide +kernel
theorem dX7_duel_56 : decode cX7_duel 56 = .ok (.iconst 0, 1) := by decide +kernel
theorem dX7_duel_57 : decode cX7_duel 57 = .ok (.aload_n 0, 1) := by decide +kernel
theorem dX7_duel_58 : decode cX7_duel 58 = .ok (.getfield 25, 3) := by decide +kernel
theorem dX7_duel_61 : decode cX7_duel 61 = .ok (.iconst 5, 1) := by decide +kernel
theorem dX7_duel_62 : decode cX7_duel 62 = .ok (.iaload, 1) := by decide +kernel
theorem dX7_duel_63 : decode cX7_duel 63 = .ok (.iastore, 1) := by decide +kernel
theorem dX7_duel_64 : decode cX7_duel 64 = .ok (.iload_n 2, 1) := by decide +kernel
theorem dX7_duel_65 : decode cX7_duel 65 = .ok (.ifCond .lt 164, 3) := by decide +kernel
theorem dX7_duel_68 : decode cX7_duel 68 = .ok (.iload_n 2, 1) := by decide +kernel
theorem dX7_duel_69 : decode cX7_duel 69 = .ok (.iload_n 1, 1) := by decide +kernel
theorem dX7_duel_70 : decode cX7_duel 70 = .ok (.if_icmp .ne 27, 3) := by decide +kernel
theorem dX7_duel_73 : decode cX7_duel 73 = .ok (.aload_n 0, 1) := by decide +kernel
theorem dX7_duel_74 : decode cX7_duel 74 = .ok (.getfield 44, 3) := by decide +kernel
theorem dX7_duel_77 : decode cX7_duel 77 = .ok (.iload_n 2, 1) := by decide +kernel
theorem dX7_duel_78 : decode cX7_duel 78 = .ok (.aload_n 0, 1) := by decide +kernel
theorem dX7_duel_79 : decode cX7_duel 79 = .ok (.aload_n 0, 1) := by decide +kernel
theorem dX7_duel_80 : decode cX7_duel 80 = .ok (.getfield 47, 3) := by decide +kernel
theorem dX7_duel_83 : decode cX7_duel 83 = .ok (.iload_n 2, 1) := by decide +kernel
theorem dX7_duel_84 : decode cX7_duel 84 = .ok (.iaload, 1) := by decide +kernel
theorem dX7_duel_85 : decode cX7_duel 85 = .ok (.invokevirtual 245, 3) := by decide +kernel
theorem dX7_duel_88 : decode cX7_duel 88 = .ok (.iastore, 1) := by decide +kernel
theorem dX7_duel_89 : decode cX7_duel 89 = .ok (.aload_n 0, 1) := by decide +kernel
theorem dX7_duel_90 : decode cX7_duel 90 = .ok (.getfield 41, 3) := by decide +kernel
theorem dX7_duel_93 : decode cX7_duel 93 = .ok (.iload_n 2, 1) := by decide +kernel
theorem dX7_duel_94 : decode cX7_duel 94 = .ok (.bipush 6, 2) := by decide +kernel
theorem dX7_duel_96 : decode cX7_duel 96 = .ok (.iastore, 1) := by decide +kernel
theorem dX7_duel_97 : decode cX7_duel 97 = .ok (.aload_n 0, 1) := by decide +kernel
theorem dX7_duel_98 : decode cX7_duel 98 = .ok (.getfield 41, 3) := by decide +kernel
theorem dX7_duel_101 : decode cX7_duel 101 = .ok (.iload_n 2, 1) := by decide +kernel
theorem dX7_duel_102 : decode cX7_duel 102 = .ok (.iaload, 1) := by decide +kernel
theorem dX7_duel_103 : decode cX7_duel 103 = .ok (.bipush 6, 2) := by decide +kernel
theorem dX7_duel_105 : decode cX7_duel 105 = .ok (.if_icmp .ne 43, 3) := by decide +kernel
theorem dX7_duel_108 : decode cX7_duel 108 = .ok (.aload_n 0, 1) := by decide +kernel
theorem dX7_duel_109 : decode cX7_duel 109 = .ok (.getfield 44, 3) := by decide +kernel
theorem dX7_duel_112 : decode cX7_duel 112 = .ok (.iload_n 2, 1) := by decide +kernel
theorem dX7_duel_113 : decode cX7_duel 113 = .ok (.iaload, 1) := by decide +kernel
theorem dX7_duel_114 : decode cX7_duel 114 = .ok (.istore_n 3, 1) := by decide +kernel
theorem dX7_duel_115 : decode cX7_duel 115 = .ok (.aload_n 0, 1) := by decide +kernel
theorem dX7_duel_116 : decode cX7_duel 116 = .ok (.getfield 41, 3) := by decide +kernel
theorem dX7_duel_119 : decode cX7_duel 119 = .ok (.iload_n 2, 1) := by decide +kernel
theorem dX7_duel_120 : decode cX7_duel 120 = .ok (.iconst (-1), 1) := by decide +kernel
theorem dX7_duel_121 : decode cX7_duel 121 = .ok (.iastore, 1) := by decide +kernel
theorem dX7_duel_122 : decode cX7_duel 122 = .ok (.aload_n 0, 1) := by decide +kernel
theorem dX7_duel_123 : decode cX7_duel 123 = .ok (.getfield 44, 3) := by decide +kernel
theorem dX7_duel_126 : decode cX7_duel 126 = .ok (.iload_n 2, 1) := by decide +kernel
theorem dX7_duel_127 : decode cX7_duel 127 = .ok (.bipush (-9), 2) := by decide +kernel
theorem dX7_duel_129 : decode cX7_duel 129 = .ok (.iastore, 1) := by decide +kernel
theorem dX7_duel_130 : decode cX7_duel 130 = .ok (.iinc 2 (-1), 3) := by decide +kernel
theorem dX7_duel_133 : decode cX7_duel 133 = .ok (.iload_n 2, 1) := by decide +kernel
theorem dX7_duel_134 : decode cX7_duel 134 = .ok (.ifCond .ge 5, 3) := by decide +kernel
theorem dX7_duel_137 : decode cX7_duel 137 = .ok (.iload_n 3, 1) := by decide +kernel
theorem dX7_duel_138 : decode cX7_duel 138 = .ok (.ireturn, 1) := by decide +kernel
theorem dX7_duel_139 : decode cX7_duel 139 = .ok (.aload_n 0, 1) := by decide +kernel
theorem dX7_duel_140 : decode cX7_duel 140 = .ok (.iload_n 2, 1) := by decide +kernel
theorem dX7_duel_141 : decode cX7_duel 141 = .ok (.iload_n 3, 1) := by decide +kernel
theorem dX7_duel_142 : decode cX7_duel 142 = .ok (.invokevirtual 248, 3) := by decide +kernel
theorem dX7_duel_145 : decode cX7_duel 145 = .ok (.goto (-81), 3) := by decide +kernel
theorem dX7_duel_148 : decode cX7_duel 148 = .ok (.aload_n 0, 1) := by decide +kernel
theorem dX7_duel_149 : decode cX7_duel 149 = .ok (.getfield 41, 3) := by decide +kernel
theorem dX7_duel_152 : decode cX7_duel 152 = .ok (.iload_n 2, 1) := by decide +kernel
theorem dX7_duel_153 : decode cX7_duel 153 = .ok (.dup2, 1) := by decide +kernel
theorem dX7_duel_154 : decode cX7_duel 154 = .ok (.iaload, 1) := by decide +kernel
theorem dX7_duel_155 : decode cX7_duel 155 = .ok (.iconst 1, 1) := by decide +kernel
theorem dX7_duel_156 : decode cX7_duel 156 = .ok (.iadd, 1) := by decide +kernel
theorem dX7_duel_157 : decode cX7_duel 157 = .ok (.iastore, 1) := by decide +kernel
theorem dX7_duel_158 : decode cX7_duel 158 = .ok (.aload_n 0, 1) := by decide +kernel
theorem dX7_duel_159 : decode cX7_duel 159 = .ok (.getfield 41, 3) := by decide +kernel
theorem dX7_duel_162 : decode cX7_duel 162 = .ok (.iload_n 2, 1) := by decide +kernel
theorem dX7_duel_163 : decode cX7_duel 163 = .ok (.iaload, 1) := by decide +kernel
theorem dX7_duel_164 : decode cX7_duel 164 = .ok (.istore_n 3, 1) := by decide +kernel
theorem dX7_duel_165 : decode cX7_duel 165 = .ok (.iload_n 3, 1) := by decide +kernel
theorem dX7_duel_166 : decode cX7_duel 166 = .ok (.bipush 6, 2) := by decide +kernel
theorem dX7_duel_168 : decode cX7_duel 168 = .ok (.if_icmp .eq 22, 3) := by decide +kernel
theorem dX7_duel_171 : decode cX7_duel 171 = .ok (.iload_n 3, 1) := by decide +kernel
theorem dX7_duel_172 : decode cX7_duel 172 = .ok (.aload_n 0, 1) := by decide +kernel
theorem dX7_duel_173 : decode cX7_duel 173 = .ok (.getfield 25, 3) := by decide +kernel
theorem dX7_duel_176 : decode cX7_duel 176 = .ok (.iconst 0, 1) := by decide +kernel
theorem dX7_duel_177 : decode cX7_duel 177 = .ok (.iaload, 1) := by decide +kernel
theorem dX7_duel_178 : decode cX7_duel 178 = .ok (.if_icmp .ge 48, 3) := by decide +kernel
theorem dX7_duel_181 : decode cX7_duel 181 = .ok (.iload_n 3, 1) := by decide +kernel
theorem dX7_duel_182 : decode cX7_duel 182 = .ok (.iconst 2, 1) := by decide +kernel
theorem dX7_duel_183 : decode cX7_duel 183 = .ok (.irem, 1) := by decide +kernel
theorem dX7_duel_184 : decode cX7_duel 184 = .ok (.iload_n 2, 1) := by decide +kernel
theorem dX7_duel_185 : decode cX7_duel 185 = .ok (.iconst 2, 1) := by decide +kernel
theorem dX7_duel_186 : decode cX7_duel 186 = .ok (.irem, 1) := by decide +kernel
theorem dX7_duel_187 : decode cX7_duel 187 = .ok (.if_icmp .ne 39, 3) := by decide +kernel
theorem dX7_duel_190 : decode cX7_duel 190 = .ok (.aload_n 0, 1) := by decide +kernel
theorem dX7_duel_191 : decode cX7_duel 191 = .ok (.getfield 47, 3) := by decide +kernel
theorem dX7_duel_194 : decode cX7_duel 194 = .ok (.iload_n 2, 1) := by decide +kernel
theorem dX7_duel_195 : decode cX7_duel 195 = .ok (.iconst 1, 1) := by decide +kernel
theorem dX7_duel_196 : decode cX7_duel 196 = .ok (.iadd, 1) := by decide +kernel
theorem dX7_duel_197 : decode cX7_duel 197 = .ok (.iload_n 3, 1) := by decide +kernel
theorem dX7_duel_198 : decode cX7_duel 198 = .ok (.bipush 6, 2) := by decide +kernel
theorem dX7_duel_200 : decode cX7_duel 200 = .ok (.if_icmp .ne 12, 3) := by decide +kernel
theorem dX7_duel_203 : decode cX7_duel 203 = .ok (.aload_n 0, 1) := by decide +kernel
theorem dX7_duel_204 : decode cX7_duel 204 = .ok (.getfield 47, 3) := by decide +kernel
theorem dX7_duel_207 : decode cX7_duel 207 = .ok (.iload_n 2, 1) := by decide +kernel
theorem dX7_duel_208 : decode cX7_duel 208 = .ok (.iaload, 1) := by decide +kernel
theorem dX7_duel_209 : decode cX7_duel 209 = .ok (.goto 13, 3) := by decide +kernel
theorem dX7_duel_212 : decode cX7_duel 212 = .ok (.aload_n 0, 1) := by decide +kernel
theorem dX7_duel_213 : decode cX7_duel 213 = .ok (.getfield 47, 3) := by decide +kernel
theorem dX7_duel_216 : decode cX7_duel 216 = .ok (.iload_n 2, 1) := by decide +kernel
theorem dX7_duel_217 : decode cX7_duel 217 = .ok (.iaload, 1) := by decide +kernel
theorem dX7_duel_218 : decode cX7_duel 218 = .ok (.iconst 1, 1) := by decide +kernel
theorem dX7_duel_219 : decode cX7_duel 219 = .ok (.iload_n 3, 1) := by decide +kernel
theorem dX7_duel_220 : decode cX7_duel 220 = .ok (.ishl, 1) := by decide +kernel
theorem dX7_duel_221 : decode cX7_duel 221 = .ok (.ixor, 1) := by decide +kernel
theorem dX7_duel_222 : decode cX7_duel 222 = .ok (.iastore, 1) := by decide +kernel
theorem dX7_duel_223 : decode cX7_duel 223 = .ok (.iinc 2 1, 3) := by decide +kernel
theorem dX7_duel_226 : decode cX7_duel 226 = .ok (.goto (-162), 3) := by decide +kernel
theorem dX7_duel_229 : decode cX7_duel 229 = .ok (.bipush (-9), 2) := by decide +kernel
theorem dX7_duel_231 : decode cX7_duel 231 = .ok (.ireturn, 1) := by decide +kernel
theorem dX7_chance_0 : decode cX7_chance 0 = .ok (.aload_n 0, 1) := by decide +kernel
theorem dX7_chance_1 : decode cX7_chance 1 = .ok (.getfield 25, 3) := by decide +kernel
theorem dX7_chance_4 : decode cX7_chance 4 = .ok (.iconst 5, 1) := by decide +kernel
theorem dX7_chance_5 : decode cX7_chance 5 = .ok (.iaload, 1) := by decide +kernel
theorem dX7_chance_6 : decode cX7_chance 6 = .ok (.iconst 1, 1) := by decide +kernel
theorem dX7_chance_7 : decode cX7_chance 7 = .ok (.iload_n 1, 1) := by decide +kernel
theorem dX7_chance_8 : decode cX7_chance 8 = .ok (.ishl, 1) := by decide +kernel
theorem dX7_chance_9 : decode cX7_chance 9 = .ok (.iconst (-1), 1) := by decide +kernel
theorem dX7_chance_10 : decode cX7_chance 10 = .ok (.ixor, 1) := by decide +kernel
theorem dX7_chance_11 : decode cX7_chance 11 = .ok (.iand, 1) := by decide +kernel
theorem dX7_chance_12 : decode cX7_chance 12 = .ok (.istore 4, 2) := by decide +kernel
theorem dX7_chance_14 : decode cX7_chance 14 = .ok (.lconst 0, 1) := by decide +kernel
theorem dX7_chance_15 : decode cX7_chance 15 = .ok (.lstore 5, 2) := by decide +kernel
theorem dX7_chance_17 : decode cX7_chance 17 = .ok (.lconst 1, 1) := by decide +kernel
theorem dX7_chance_18 : decode cX7_chance 18 = .ok (.lstore 7, 2) := by decide +kernel
theorem dX7_chance_20 : decode cX7_chance 20 = .ok (.iconst 0, 1) := by decide +kernel
theorem dX7_chance_21 : decode cX7_chance 21 = .ok (.istore 9, 2) := by decide +kernel
theorem dX7_chance_23 : decode cX7_chance 23 = .ok (.iload 9, 2) := by decide +kernel
theorem dX7_chance_25 : decode cX7_chance 25 = .ok (.iload 4, 2) := by decide +kernel
theorem dX7_chance_27 : decode cX7_chance 27 = .ok (.invokestatic 153, 3) := by decide +kernel
theorem dX7_chance_30 : decode cX7_chance 30 = .ok (.if_icmp .ge 17, 3) := by decide +kernel
theorem dX7_chance_33 : decode cX7_chance 33 = .ok (.lload 7, 2) := by decide +kernel
theorem dX7_chance_35 : decode cX7_chance 35 = .ok (.ldc2_w 251, 3) := by decide +kernel
theorem dX7_chance_38 : decode cX7_chance 38 = .ok (.lmul, 1) := by decide +kernel
theorem dX7_chance_39 : decode cX7_chance 39 = .ok (.lstore 7, 2) := by decide +kernel
theorem dX7_chance_41 : decode cX7_chance 41 = .ok (.iinc 9 1, 3) := by decide +kernel
theorem dX7_chance_44 : decode cX7_chance 44 = .ok (.goto (-21), 3) := by decide +kernel
theorem dX7_chance_47 : decode cX7_chance 47 = .ok (.iconst 0, 1) := by decide +kernel
theorem dX7_chance_48 : decode cX7_chance 48 = .ok (.istore 9, 2) := by decide +kernel
theorem dX7_chance_50 : decode cX7_chance 50 = .ok (.iload 9, 2) := by decide +kernel
theorem dX7_chance_52 : decode cX7_chance 52 = .ok (.iload 4, 2) := by decide +kernel
theorem dX7_chance_54 : decode cX7_chance 54 = .ok (.if_icmp .gt 130, 3) := by decide +kernel
theorem dX7_chance_57 : decode cX7_chance 57 = .ok (.iload 9, 2) := by decide +kernel
theorem dX7_chance_59 : decode cX7_chance 59 = .ok (.iload 4, 2) := by decide +kernel
theorem dX7_chance_61 : decode cX7_chance 61 = .ok (.iconst (-1), 1) := by decide +kernel
theorem dX7_chance_62 : decode cX7_chance 62 = .ok (.ixor, 1) := by decide +kernel
theorem dX7_chance_63 : decode cX7_chance 63 = .ok (.iand, 1) := by decide +kernel
theorem dX7_chance_64 : decode cX7_chance 64 = .ok (.ifCond .ne 7, 3) := by decide +kernel
theorem dX7_chance_67 : decode cX7_chance 67 = .ok (.lconst 1, 1) := by decide +kernel
theorem dX7_chance_68 : decode cX7_chance 68 = .ok (.goto 4, 3) := by decide +kernel
theorem dX7_chance_71 : decode cX7_chance 71 = .ok (.lconst 0, 1) := by decide +kernel
theorem dX7_chance_72 : decode cX7_chance 72 = .ok (.lstore 10, 2) := by decide +kernel
theorem dX7_chance_74 : decode cX7_chance 74 = .ok (.iconst 0, 1) := by decide +kernel
theorem dX7_chance_75 : decode cX7_chance 75 = .ok (.istore 12, 2) := by decide +kernel
theorem dX7_chance_77 : decode cX7_chance 77 = .ok (.iload 12, 2) := by decide +kernel
theorem dX7_chance_79 : decode cX7_chance 79 = .ok (.aload_n 0, 1) := by decide +kernel
theorem dX7_chance_80 : decode cX7_chance 80 = .ok (.getfield 25, 3) := by decide +kernel
theorem dX7_chance_83 : decode cX7_chance 83 = .ok (.iconst 0, 1) := by decide +kernel
theorem dX7_chance_84 : decode cX7_chance 84 = .ok (.iaload, 1) := by decide +kernel
theorem dX7_chance_85 : decode cX7_chance 85 = .ok (.if_icmp .ge 48, 3) := by decide +kernel
theorem dX7_chance_88 : decode cX7_chance 88 = .ok (.lload 10, 2) := by decide +kernel
theorem dX7_chance_90 : decode cX7_chance 90 = .ok (.iload 4, 2) := by decide +kernel
theorem dX7_chance_92 : decode cX7_chance 92 = .ok (.iload 12, 2) := by decide +kernel
theorem dX7_chance_94 : decode cX7_chance 94 = .ok (.invokestatic 146, 3) := by decide +kernel
theorem dX7_chance_97 : decode cX7_chance 97 = .ok (.ifCond .ne 7, 3) := by decide +kernel
theorem dX7_chance_100 : decode cX7_chance 100 = .ok (.lconst 1, 1) := by decide +kernel
theorem dX7_chance_101 : decode cX7_chance 101 = .ok (.goto 23, 3) := by decide +kernel
theorem dX7_chance_104 : decode cX7_chance 104 = .ok (.iload 9, 2) := by decide +kernel
theorem dX7_chance_106 : decode cX7_chance 106 = .ok (.iload 12, 2) := by decide +kernel
theorem dX7_chance_108 : decode cX7_chance 108 = .ok (.invokestatic 146, 3) := by decide +kernel
theorem dX7_chance_111 : decode cX7_chance 111 = .ok (.ifCond .eq 8, 3) := by decide +kernel
theorem dX7_chance_114 : decode cX7_chance 114 = .ok (.iload_n 3, 1) := by decide +kernel
theorem dX7_chance_115 : decode cX7_chance 115 = .ok (.i2l, 1) := by decide +kernel
theorem dX7_chance_116 : decode cX7_chance 116 = .ok (.goto 8, 3) := by decide +kernel
theorem dX7_chance_119 : decode cX7_chance 119 = .ok (.bipush 12, 2) := by decide +kernel
theorem dX7_chance_121 : decode cX7_chance 121 = .ok (.iload_n 3, 1) := by decide +kernel
theorem dX7_chance_122 : decode cX7_chance 122 = .ok (.isub, 1) := by decide +kernel
theorem dX7_chance_123 : decode cX7_chance 123 = .ok (.i2l, 1) := by decide +kernel
theorem dX7_chance_124 : decode cX7_chance 124 = .ok (.lmul, 1) := by decide +kernel
theorem dX7_chance_125 : decode cX7_chance 125 = .ok (.lstore 10, 2) := by decide +kernel
theorem dX7_chance_127 : decode cX7_chance 127 = .ok (.iinc 12 1, 3) := by decide +kernel
theorem dX7_chance_130 : decode cX7_chance 130 = .ok (.goto (-53), 3) := by decide +kernel
theorem dX7_chance_133 : decode cX7_chance 133 = .ok (.aload_n 0, 1) := by decide +kernel
theorem dX7_chance_134 : decode cX7_chance 134 = .ok (.iload_n 1, 1) := by decide +kernel
theorem dX7_chance_135 : decode cX7_chance 135 = .ok (.iload 4, 2) := by decide +kernel
theorem dX7_chance_137 : decode cX7_chance 137 = .ok (.iload 9, 2) := by decide +kernel
theorem dX7_chance_139 : decode cX7_chance 139 = .ok (.iconst (-1), 1) := by decide +kernel
theorem dX7_chance_140 : decode cX7_chance 140 = .ok (.ixor, 1) := by decide +kernel
theorem dX7_chance_141 : decode cX7_chance 141 = .ok (.iand, 1) := by decide +kernel
theorem dX7_chance_142 : decode cX7_chance 142 = .ok (.invokevirtual 156, 3) := by decide +kernel
theorem dX7_chance_145 : decode cX7_chance 145 = .ok (.istore 12, 2) := by decide +kernel
theorem dX7_chance_147 : decode cX7_chance 147 = .ok (.lload 5, 2) := by decide +kernel
theorem dX7_chance_149 : decode cX7_chance 149 = .ok (.lload 10, 2) := by decide +kernel
theorem dX7_chance_151 : decode cX7_chance 151 = .ok (.iload_n 2, 1) := by decide +kernel
theorem dX7_chance_152 : decode cX7_chance 152 = .ok (.bipush (-9), 2) := by decide +kernel
theorem dX7_chance_154 : decode cX7_chance 154 = .ok (.if_icmp .ne 8, 3) := by decide +kernel
theorem dX7_chance_157 : decode cX7_chance 157 = .ok (.iload 12, 2) := by decide +kernel
theorem dX7_chance_159 : decode cX7_chance 159 = .ok (.goto 14, 3) := by decide +kernel
theorem dX7_chance_162 : decode cX7_chance 162 = .ok (.iload 12, 2) := by decide +kernel
theorem dX7_chance_164 : decode cX7_chance 164 = .ok (.iload_n 2, 1) := by decide +kernel
theorem dX7_chance_165 : decode cX7_chance 165 = .ok (.if_icmp .gt 7, 3) := by decide +kernel
theorem dX7_chance_168 : decode cX7_chance 168 = .ok (.iconst 1, 1) := by decide +kernel
theorem dX7_chance_169 : decode cX7_chance 169 = .ok (.goto 4, 3) := by decide +kernel
theorem dX7_chance_172 : decode cX7_chance 172 = .ok (.iconst 0, 1) := by decide +kernel
theorem dX7_chance_173 : decode cX7_chance 173 = .ok (.i2l, 1) := by decide +kernel
theorem dX7_chance_174 : decode cX7_chance 174 = .ok (.lmul, 1) := by decide +kernel
theorem dX7_chance_175 : decode cX7_chance 175 = .ok (.ladd, 1) := by decide +kernel
theorem dX7_chance_176 : decode cX7_chance 176 = .ok (.lstore 5, 2) := by decide +kernel
theorem dX7_chance_178 : decode cX7_chance 178 = .ok (.iinc 9 1, 3) := by decide +kernel
theorem dX7_chance_181 : decode cX7_chance 181 = .ok (.goto (-131), 3) := by decide +kernel
theorem dX7_chance_184 : decode cX7_chance 184 = .ok (.aload_n 0, 1) := by decide +kernel
theorem dX7_chance_185 : decode cX7_chance 185 = .ok (.lload 5, 2) := by decide +kernel
theorem dX7_chance_187 : decode cX7_chance 187 = .ok (.lload 7, 2) := by decide +kernel
theorem dX7_chance_189 : decode cX7_chance 189 = .ok (.invokevirtual 253, 3) := by decide +kernel
theorem dX7_chance_192 : decode cX7_chance 192 = .ok (.ireturn, 1) := by decide +kernel
theorem dX7_odds_0 : decode cX7_odds 0 = .ok (.aload_n 0, 1) := by decide +kernel
theorem dX7_odds_1 : decode cX7_odds 1 = .ok (.iload_n 1, 1) := by decide +kernel
theorem dX7_odds_2 : decode cX7_odds 2 = .ok (.invokevirtual 159, 3) := by decide +kernel
theorem dX7_odds_5 : decode cX7_odds 5 = .ok (.ifCond .eq 30, 3) := by decide +kernel
theorem dX7_odds_8 : decode cX7_odds 8 = .ok (.iload_n 2, 1) := by decide +kernel
theorem dX7_odds_9 : decode cX7_odds 9 = .ok (.invokestatic 229, 3) := by decide +kernel
theorem dX7_odds_12 : decode cX7_odds 12 = .ok (.ifCond .eq 23, 3) := by decide +kernel
theorem dX7_odds_15 : decode cX7_odds 15 = .ok (.iload_n 3, 1) := by decide +kernel
theorem dX7_odds_16 : decode cX7_odds 16 = .ok (.iconst 0, 1) := by decide +kernel
theorem dX7_odds_17 : decode cX7_odds 17 = .ok (.bipush 12, 2) := by decide +kernel
theorem dX7_odds_19 : decode cX7_odds 19 = .ok (.invokestatic 64, 3) := by decide +kernel
theorem dX7_odds_22 : decode cX7_odds 22 = .ok (.ifCond .eq 13, 3) := by decide +kernel
theorem dX7_odds_25 : decode cX7_odds 25 = .ok (.aload_n 0, 1) := by decide +kernel
theorem dX7_odds_26 : decode cX7_odds 26 = .ok (.iload_n 1, 1) := by decide +kernel
theorem dX7_odds_27 : decode cX7_odds 27 = .ok (.iload_n 2, 1) := by decide +kernel
theorem dX7_odds_28 : decode cX7_odds 28 = .ok (.iload_n 3, 1) := by decide +kernel
theorem dX7_odds_29 : decode cX7_odds 29 = .ok (.invokevirtual 257, 3) := by decide +kernel
theorem dX7_odds_32 : decode cX7_odds 32 = .ok (.goto 4, 3) := by decide +kernel
theorem dX7_odds_35 : decode cX7_odds 35 = .ok (.iconst (-1), 1) := by decide +kernel
theorem dX7_odds_36 : decode cX7_odds 36 = .ok (.ireturn, 1) := by decide +kernel
theorem dX7_mid_0 : decode cX7_mid 0 = .ok (.aload_n 0, 1) := by decide +kernel
theorem dX7_mid_1 : decode cX7_mid 1 = .ok (.iload_n 1, 1) := by decide +kernel
theorem dX7_mid_2 : decode cX7_mid 2 = .ok (.invokevirtual 159, 3) := by decide +kernel
theorem dX7_mid_5 : decode cX7_mid 5 = .ok (.ifCond .eq 24, 3) := by decide +kernel
theorem dX7_mid_8 : decode cX7_mid 8 = .ok (.iload_n 2, 1) := by decide +kernel
theorem dX7_mid_9 : decode cX7_mid 9 = .ok (.iconst 0, 1) := by decide +kernel
theorem dX7_mid_10 : decode cX7_mid 10 = .ok (.bipush 12, 2) := by decide +kernel
theorem dX7_mid_12 : decode cX7_mid 12 = .ok (.invokestatic 64, 3) := by decide +kernel
theorem dX7_mid_15 : decode cX7_mid 15 = .ok (.ifCond .eq 14, 3) := by decide +kernel
theorem dX7_mid_18 : decode cX7_mid 18 = .ok (.aload_n 0, 1) := by decide +kernel
theorem dX7_mid_19 : decode cX7_mid 19 = .ok (.iload_n 1, 1) := by decide +kernel
theorem dX7_mid_20 : decode cX7_mid 20 = .ok (.bipush (-9), 2) := by decide +kernel
theorem dX7_mid_22 : decode cX7_mid 22 = .ok (.iload_n 2, 1) := by decide +kernel
theorem dX7_mid_23 : decode cX7_mid 23 = .ok (.invokevirtual 257, 3) := by decide +kernel
theorem dX7_mid_26 : decode cX7_mid 26 = .ok (.goto 4, 3) := by decide +kernel
theorem dX7_mid_29 : decode cX7_mid 29 = .ok (.iconst (-1), 1) := by decide +kernel
theorem dX7_mid_30 : decode cX7_mid 30 = .ok (.ireturn, 1) := by decide +kernel
theorem dX7_lots_0 : decode cX7_lots 0 = .ok (.iload_n 1, 1) := by decide +kernel
theorem dX7_lots_1 : decode cX7_lots 1 = .ok (.iconst 1, 1) := by decide +kernel
theorem dX7_lots_2 : decode cX7_lots 2 = .ok (.bipush 20, 2) := by decide +kernel
theorem dX7_lots_4 : decode cX7_lots 4 = .ok (.invokestatic 64, 3) := by decide +kernel
theorem dX7_lots_7 : decode cX7_lots 7 = .ok (.ifCond .eq 14, 3) := by decide +kernel
theorem dX7_lots_10 : decode cX7_lots 10 = .ok (.iload_n 2, 1) := by decide +kernel
theorem dX7_lots_11 : decode cX7_lots 11 = .ok (.iconst 1, 1) := by decide +kernel
theorem dX7_lots_12 : decode cX7_lots 12 = .ok (.ldc_w 260, 3) := by decide +kernel
theorem dX7_lots_15 : decode cX7_lots 15 = .ok (.invokestatic 64, 3) := by decide +kernel
theorem dX7_lots_18 : decode cX7_lots 18 = .ok (.ifCond .ne 5, 3) := by decide +kernel
theorem dX7_lots_21 : decode cX7_lots 21 = .ok (.iconst (-1), 1) := by decide +kernel
theorem dX7_lots_22 : decode cX7_lots 22 = .ok (.ireturn, 1) := by decide +kernel
theorem dX7_lots_23 : decode cX7_lots 23 = .ok (.aload_n 0, 1) := by decide +kernel
theorem dX7_lots_24 : decode cX7_lots 24 = .ok (.invokevirtual 198, 3) := by decide +kernel
theorem dX7_lots_27 : decode cX7_lots 27 = .ok (.ifCond .ne 6, 3) := by decide +kernel
theorem dX7_lots_30 : decode cX7_lots 30 = .ok (.bipush (-4), 2) := by decide +kernel
theorem dX7_lots_32 : decode cX7_lots 32 = .ok (.ireturn, 1) := by decide +kernel
theorem dX7_lots_33 : decode cX7_lots 33 = .ok (.aload_n 0, 1) := by decide +kernel
theorem dX7_lots_34 : decode cX7_lots 34 = .ok (.getfield 25, 3) := by decide +kernel
theorem dX7_lots_37 : decode cX7_lots 37 = .ok (.iconst 3, 1) := by decide +kernel
theorem dX7_lots_38 : decode cX7_lots 38 = .ok (.iaload, 1) := by decide +kernel
theorem dX7_lots_39 : decode cX7_lots 39 = .ok (.iload_n 1, 1) := by decide +kernel
theorem dX7_lots_40 : decode cX7_lots 40 = .ok (.iadd, 1) := by decide +kernel
theorem dX7_lots_41 : decode cX7_lots 41 = .ok (.bipush 40, 2) := by decide +kernel
theorem dX7_lots_43 : decode cX7_lots 43 = .ok (.if_icmp .le 6, 3) := by decide +kernel
theorem dX7_lots_46 : decode cX7_lots 46 = .ok (.bipush (-2), 2) := by decide +kernel
theorem dX7_lots_48 : decode cX7_lots 48 = .ok (.ireturn, 1) := by decide +kernel
theorem dX7_lots_49 : decode cX7_lots 49 = .ok (.iload_n 2, 1) := by decide +kernel
theorem dX7_lots_50 : decode cX7_lots 50 = .ok (.i2l, 1) := by decide +kernel
theorem dX7_lots_51 : decode cX7_lots 51 = .ok (.lstore_n 3, 1) := by decide +kernel
theorem dX7_lots_52 : decode cX7_lots 52 = .ok (.iconst 0, 1) := by decide +kernel
theorem dX7_lots_53 : decode cX7_lots 53 = .ok (.istore 5, 2) := by decide +kernel
theorem dX7_lots_55 : decode cX7_lots 55 = .ok (.iload 5, 2) := by decide +kernel
theorem dX7_lots_57 : decode cX7_lots 57 = .ok (.iload_n 1, 1) := by decide +kernel
theorem dX7_lots_58 : decode cX7_lots 58 = .ok (.if_icmp .ge 73, 3) := by decide +kernel
theorem dX7_lots_61 : decode cX7_lots 61 = .ok (.lload_n 3, 1) := by decide +kernel
theorem dX7_lots_62 : decode cX7_lots 62 = .ok (.ldc2_w 261, 3) := by decide +kernel
theorem dX7_lots_65 : decode cX7_lots 65 = .ok (.lmul, 1) := by decide +kernel
theorem dX7_lots_66 : decode cX7_lots 66 = .ok (.ldc2_w 263, 3) := by decide +kernel
theorem dX7_lots_69 : decode cX7_lots 69 = .ok (.lrem, 1) := by decide +kernel
theorem dX7_lots_70 : decode cX7_lots 70 = .ok (.lstore_n 3, 1) := by decide +kernel
theorem dX7_lots_71 : decode cX7_lots 71 = .ok (.lload_n 3, 1) := by decide +kernel
theorem dX7_lots_72 : decode cX7_lots 72 = .ok (.ldc2_w 265, 3) := by decide +kernel
theorem dX7_lots_75 : decode cX7_lots 75 = .ok (.ldiv, 1) := by decide +kernel
theorem dX7_lots_76 : decode cX7_lots 76 = .ok (.aload_n 0, 1) := by decide +kernel
theorem dX7_lots_77 : decode cX7_lots 77 = .ok (.getfield 25, 3) := by decide +kernel
theorem dX7_lots_80 : decode cX7_lots 80 = .ok (.iconst 0, 1) := by decide +kernel
theorem dX7_lots_81 : decode cX7_lots 81 = .ok (.iaload, 1) := by decide +kernel
theorem dX7_lots_82 : decode cX7_lots 82 = .ok (.i2l, 1) := by decide +kernel
theorem dX7_lots_83 : decode cX7_lots 83 = .ok (.lrem, 1) := by decide +kernel
theorem dX7_lots_84 : decode cX7_lots 84 = .ok (.l2i, 1) := by decide +kernel
theorem dX7_lots_85 : decode cX7_lots 85 = .ok (.istore 6, 2) := by decide +kernel
theorem dX7_lots_87 : decode cX7_lots 87 = .ok (.aload_n 0, 1) := by decide +kernel
theorem dX7_lots_88 : decode cX7_lots 88 = .ok (.iload 6, 2) := by decide +kernel
theorem dX7_lots_90 : decode cX7_lots 90 = .ok (.aload_n 0, 1) := by decide +kernel
theorem dX7_lots_91 : decode cX7_lots 91 = .ok (.getfield 25, 3) := by decide +kernel
theorem dX7_lots_94 : decode cX7_lots 94 = .ok (.iconst 5, 1) := by decide +kernel
theorem dX7_lots_95 : decode cX7_lots 95 = .ok (.iaload, 1) := by decide +kernel
theorem dX7_lots_96 : decode cX7_lots 96 = .ok (.invokevirtual 174, 3) := by decide +kernel
theorem dX7_lots_99 : decode cX7_lots 99 = .ok (.iconst 1, 1) := by decide +kernel
theorem dX7_lots_100 : decode cX7_lots 100 = .ok (.iadd, 1) := by decide +kernel
theorem dX7_lots_101 : decode cX7_lots 101 = .ok (.aload_n 0, 1) := by decide +kernel
theorem dX7_lots_102 : decode cX7_lots 102 = .ok (.getfield 25, 3) := by decide +kernel
theorem dX7_lots_105 : decode cX7_lots 105 = .ok (.iconst 4, 1) := by decide +kernel
theorem dX7_lots_106 : decode cX7_lots 106 = .ok (.iaload, 1) := by decide +kernel
theorem dX7_lots_107 : decode cX7_lots 107 = .ok (.if_icmp .le 10, 3) := by decide +kernel
theorem dX7_lots_110 : decode cX7_lots 110 = .ok (.aload_n 0, 1) := by decide +kernel
theorem dX7_lots_111 : decode cX7_lots 111 = .ok (.invokevirtual 202, 3) := by decide +kernel
theorem dX7_lots_114 : decode cX7_lots 114 = .ok (.goto 9, 3) := by decide +kernel
theorem dX7_lots_117 : decode cX7_lots 117 = .ok (.aload_n 0, 1) := by decide +kernel
theorem dX7_lots_118 : decode cX7_lots 118 = .ok (.iload 6, 2) := by decide +kernel
theorem dX7_lots_120 : decode cX7_lots 120 = .ok (.invokevirtual 181, 3) := by decide +kernel
theorem dX7_lots_123 : decode cX7_lots 123 = .ok (.istore 7, 2) := by decide +kernel
theorem dX7_lots_125 : decode cX7_lots 125 = .ok (.iinc 5 1, 3) := by decide +kernel
theorem dX7_lots_128 : decode cX7_lots 128 = .ok (.goto (-73), 3) := by decide +kernel
theorem dX7_lots_131 : decode cX7_lots 131 = .ok (.aload_n 0, 1) := by decide +kernel
theorem dX7_lots_132 : decode cX7_lots 132 = .ok (.getfield 25, 3) := by decide +kernel
theorem dX7_lots_135 : decode cX7_lots 135 = .ok (.iconst 5, 1) := by decide +kernel
theorem dX7_lots_136 : decode cX7_lots 136 = .ok (.iaload, 1) := by decide +kernel
theorem dX7_lots_137 : decode cX7_lots 137 = .ok (.ireturn, 1) := by decide +kernel
theorem dX7_asked_0 : decode cX7_asked 0 = .ok (.aload_n 0, 1) := by decide +kernel
theorem dX7_asked_1 : decode cX7_asked 1 = .ok (.getfield 58, 3) := by decide +kernel
theorem dX7_asked_4 : decode cX7_asked 4 = .ok (.ireturn, 1) := by decide +kernel
theorem dX7_upper_0 : decode cX7_upper 0 = .ok (.aload_n 0, 1) := by decide +kernel
theorem dX7_upper_1 : decode cX7_upper 1 = .ok (.getfield 61, 3) := by decide +kernel
theorem dX7_upper_4 : decode cX7_upper 4 = .ok (.lreturn, 1) := by decide +kernel
theorem dX7_lower_0 : decode cX7_lower 0 = .ok (.aload_n 0, 1) := by decide +kernel
theorem dX7_lower_1 : decode cX7_lower 1 = .ok (.getfield 50, 3) := by decide +kernel
theorem dX7_lower_4 : decode cX7_lower 4 = .ok (.lreturn, 1) := by decide +kernel
theorem dX7_count_0 : decode cX7_count 0 = .ok (.iconst 0, 1) := by decide +kernel
theorem dX7_count_1 : decode cX7_count 1 = .ok (.istore_n 2, 1) := by decide +kernel
theorem dX7_count_2 : decode cX7_count 2 = .ok (.iload_n 1, 1) := by decide +kernel
theorem dX7_count_3 : decode cX7_count 3 = .ok (.tableswitch 268 0 10 #[57, 64, 71, 78, 85, 92, 100, 130, 171, 204, 236], 57) := by decide +kernel
theorem dX7_count_60 : decode cX7_count 60 = .ok (.aload_n 0, 1) := by decide +kernel
theorem dX7_count_61 : decode cX7_count 61 = .ok (.getfield 25, 3) := by decide +kernel
theorem dX7_count_64 : decode cX7_count 64 = .ok (.iconst 0, 1) := by decide +kernel
theorem dX7_count_65 : decode cX7_count 65 = .ok (.iaload, 1) := by decide +kernel
theorem dX7_count_66 : decode cX7_count 66 = .ok (.ireturn, 1) := by decide +kernel
theorem dX7_count_67 : decode cX7_count 67 = .ok (.aload_n 0, 1) := by decide +kernel
theorem dX7_count_68 : decode cX7_count 68 = .ok (.getfield 25, 3) := by decide +kernel
theorem dX7_count_71 : decode cX7_count 71 = .ok (.iconst 1, 1) := by decide +kernel
theorem dX7_count_72 : decode cX7_count 72 = .ok (.iaload, 1) := by decide +kernel
theorem dX7_count_73 : decode cX7_count 73 = .ok (.ireturn, 1) := by decide +kernel
theorem dX7_count_74 : decode cX7_count 74 = .ok (.aload_n 0, 1) := by decide +kernel
theorem dX7_count_75 : decode cX7_count 75 = .ok (.getfield 25, 3) := by decide +kernel
theorem dX7_count_78 : decode cX7_count 78 = .ok (.iconst 3, 1) := by decide +kernel
theorem dX7_count_79 : decode cX7_count 79 = .ok (.iaload, 1) := by decide +kernel
theorem dX7_count_80 : decode cX7_count 80 = .ok (.ireturn, 1) := by decide +kernel
theorem dX7_count_81 : decode cX7_count 81 = .ok (.aload_n 0, 1) := by decide +kernel
theorem dX7_count_82 : decode cX7_count 82 = .ok (.getfield 25, 3) := by decide +kernel
theorem dX7_count_85 : decode cX7_count 85 = .ok (.iconst 4, 1) := by decide +kernel
theorem dX7_count_86 : decode cX7_count 86 = .ok (.iaload, 1) := by decide +kernel
theorem dX7_count_87 : decode cX7_count 87 = .ok (.ireturn, 1) := by decide +kernel
theorem dX7_count_88 : decode cX7_count 88 = .ok (.aload_n 0, 1) := by decide +kernel
theorem dX7_count_89 : decode cX7_count 89 = .ok (.getfield 25, 3) := by decide +kernel
theorem dX7_count_92 : decode cX7_count 92 = .ok (.iconst 5, 1) := by decide +kernel
theorem dX7_count_93 : decode cX7_count 93 = .ok (.iaload, 1) := by decide +kernel
theorem dX7_count_94 : decode cX7_count 94 = .ok (.ireturn, 1) := by decide +kernel
theorem dX7_count_95 : decode cX7_count 95 = .ok (.aload_n 0, 1) := by decide +kernel
theorem dX7_count_96 : decode cX7_count 96 = .ok (.getfield 25, 3) := by decide +kernel
theorem dX7_count_99 : decode cX7_count 99 = .ok (.bipush 6, 2) := by decide +kernel
theorem dX7_count_101 : decode cX7_count 101 = .ok (.iaload, 1) := by decide +kernel
theorem dX7_count_102 : decode cX7_count 102 = .ok (.ireturn, 1) := by decide +kernel
theorem dX7_count_103 : decode cX7_count 103 = .ok (.iconst 0, 1) := by decide +kernel
theorem dX7_count_104 : decode cX7_count 104 = .ok (.istore_n 3, 1) := by decide +kernel
theorem dX7_count_105 : decode cX7_count 105 = .ok (.iload_n 3, 1) := by decide +kernel
theorem dX7_count_106 : decode cX7_count 106 = .ok (.aload_n 0, 1) := by decide +kernel
theorem dX7_count_107 : decode cX7_count 107 = .ok (.getfield 25, 3) := by decide +kernel
theorem dX7_count_110 : decode cX7_count 110 = .ok (.iconst 0, 1) := by decide +kernel
theorem dX7_count_111 : decode cX7_count 111 = .ok (.iaload, 1) := by decide +kernel
theorem dX7_count_112 : decode cX7_count 112 = .ok (.if_icmp .ge 19, 3) := by decide +kernel
theorem dX7_count_115 : decode cX7_count 115 = .ok (.iload_n 2, 1) := by decide +kernel
theorem dX7_count_116 : decode cX7_count 116 = .ok (.aload_n 0, 1) := by decide +kernel
theorem dX7_count_117 : decode cX7_count 117 = .ok (.iload_n 3, 1) := by decide +kernel
theorem dX7_count_118 : decode cX7_count 118 = .ok (.bipush 7, 2) := by decide +kernel
theorem dX7_count_120 : decode cX7_count 120 = .ok (.invokevirtual 126, 3) := by decide +kernel
theorem dX7_count_123 : decode cX7_count 123 = .ok (.iadd, 1) := by decide +kernel
theorem dX7_count_124 : decode cX7_count 124 = .ok (.istore_n 2, 1) := by decide +kernel
theorem dX7_count_125 : decode cX7_count 125 = .ok (.iinc 3 1, 3) := by decide +kernel
theorem dX7_count_128 : decode cX7_count 128 = .ok (.goto (-23), 3) := by decide +kernel
theorem dX7_count_131 : decode cX7_count 131 = .ok (.iload_n 2, 1) := by decide +kernel
theorem dX7_count_132 : decode cX7_count 132 = .ok (.ireturn, 1) := by decide +kernel
theorem dX7_count_133 : decode cX7_count 133 = .ok (.iconst 0, 1) := by decide +kernel
theorem dX7_count_134 : decode cX7_count 134 = .ok (.istore_n 3, 1) := by decide +kernel
theorem dX7_count_135 : decode cX7_count 135 = .ok (.iload_n 3, 1) := by decide +kernel
theorem dX7_count_136 : decode cX7_count 136 = .ok (.aload_n 0, 1) := by decide +kernel
theorem dX7_count_137 : decode cX7_count 137 = .ok (.getfield 25, 3) := by decide +kernel
theorem dX7_count_140 : decode cX7_count 140 = .ok (.iconst 0, 1) := by decide +kernel
theorem dX7_count_141 : decode cX7_count 141 = .ok (.iaload, 1) := by decide +kernel
theorem dX7_count_142 : decode cX7_count 142 = .ok (.if_icmp .ge 30, 3) := by decide +kernel
theorem dX7_count_145 : decode cX7_count 145 = .ok (.iload_n 2, 1) := by decide +kernel
theorem dX7_count_146 : decode cX7_count 146 = .ok (.aload_n 0, 1) := by decide +kernel
theorem dX7_count_147 : decode cX7_count 147 = .ok (.iload_n 3, 1) := by decide +kernel
theorem dX7_count_148 : decode cX7_count 148 = .ok (.iconst 0, 1) := by decide +kernel
theorem dX7_count_149 : decode cX7_count 149 = .ok (.invokevirtual 126, 3) := by decide +kernel
theorem dX7_count_152 : decode cX7_count 152 = .ok (.iconst 1, 1) := by decide +kernel
theorem dX7_count_153 : decode cX7_count 153 = .ok (.invokestatic 168, 3) := by decide +kernel
theorem dX7_count_156 : decode cX7_count 156 = .ok (.ifCond .eq 7, 3) := by decide +kernel
theorem dX7_count_159 : decode cX7_count 159 = .ok (.iconst 1, 1) := by decide +kernel
theorem dX7_count_160 : decode cX7_count 160 = .ok (.goto 4, 3) := by decide +kernel
theorem dX7_count_163 : decode cX7_count 163 = .ok (.iconst 0, 1) := by decide +kernel
theorem dX7_count_164 : decode cX7_count 164 = .ok (.iadd, 1) := by decide +kernel
theorem dX7_count_165 : decode cX7_count 165 = .ok (.istore_n 2, 1) := by decide +kernel
theorem dX7_count_166 : decode cX7_count 166 = .ok (.iinc 3 1, 3) := by decide +kernel
theorem dX7_count_169 : decode cX7_count 169 = .ok (.goto (-34), 3) := by decide +kernel
theorem dX7_count_172 : decode cX7_count 172 = .ok (.iload_n 2, 1) := by decide +kernel
theorem dX7_count_173 : decode cX7_count 173 = .ok (.ireturn, 1) := by decide +kernel
theorem dX7_count_174 : decode cX7_count 174 = .ok (.iconst 0, 1) := by decide +kernel
theorem dX7_count_175 : decode cX7_count 175 = .ok (.istore_n 3, 1) := by decide +kernel
theorem dX7_count_176 : decode cX7_count 176 = .ok (.iload_n 3, 1) := by decide +kernel
theorem dX7_count_177 : decode cX7_count 177 = .ok (.bipush 6, 2) := by decide +kernel
theorem dX7_count_179 : decode cX7_count 179 = .ok (.if_icmp .ge 26, 3) := by decide +kernel
theorem dX7_count_182 : decode cX7_count 182 = .ok (.iload_n 2, 1) := by decide +kernel
theorem dX7_count_183 : decode cX7_count 183 = .ok (.aload_n 0, 1) := by decide +kernel
theorem dX7_count_184 : decode cX7_count 184 = .ok (.getfield 7, 3) := by decide +kernel
theorem dX7_count_187 : decode cX7_count 187 = .ok (.iload_n 3, 1) := by decide +kernel
theorem dX7_count_188 : decode cX7_count 188 = .ok (.iaload, 1) := by decide +kernel
theorem dX7_count_189 : decode cX7_count 189 = .ok (.ifCond .ge 7, 3) := by decide +kernel
theorem dX7_count_192 : decode cX7_count 192 = .ok (.iconst 0, 1) := by decide +kernel
theorem dX7_count_193 : decode cX7_count 193 = .ok (.goto 4, 3) := by decide +kernel
theorem dX7_count_196 : decode cX7_count 196 = .ok (.iconst 1, 1) := by decide +kernel
theorem dX7_count_197 : decode cX7_count 197 = .ok (.iadd, 1) := by decide +kernel
theorem dX7_count_198 : decode cX7_count 198 = .ok (.istore_n 2, 1) := by decide +kernel
theorem dX7_count_199 : decode cX7_count 199 = .ok (.iinc 3 1, 3) := by decide +kernel
theorem dX7_count_202 : decode cX7_count 202 = .ok (.goto (-26), 3) := by decide +kernel
theorem dX7_count_205 : decode cX7_count 205 = .ok (.iload_n 2, 1) := by decide +kernel
theorem dX7_count_206 : decode cX7_count 206 = .ok (.ireturn, 1) := by decide +kernel
theorem dX7_count_207 : decode cX7_count 207 = .ok (.iconst 0, 1) := by decide +kernel
theorem dX7_count_208 : decode cX7_count 208 = .ok (.istore_n 3, 1) := by decide +kernel
theorem dX7_count_209 : decode cX7_count 209 = .ok (.iload_n 3, 1) := by decide +kernel
theorem dX7_count_210 : decode cX7_count 210 = .ok (.iconst 4, 1) := by decide +kernel
theorem dX7_count_211 : decode cX7_count 211 = .ok (.if_icmp .ge 26, 3) := by decide +kernel
theorem dX7_count_214 : decode cX7_count 214 = .ok (.iload_n 2, 1) := by decide +kernel
theorem dX7_count_215 : decode cX7_count 215 = .ok (.aload_n 0, 1) := by decide +kernel
theorem dX7_count_216 : decode cX7_count 216 = .ok (.getfield 19, 3) := by decide +kernel
theorem dX7_count_219 : decode cX7_count 219 = .ok (.iload_n 3, 1) := by decide +kernel
theorem dX7_count_220 : decode cX7_count 220 = .ok (.iaload, 1) := by decide +kernel
theorem dX7_count_221 : decode cX7_count 221 = .ok (.ifCond .ge 7, 3) := by decide +kernel
theorem dX7_count_224 : decode cX7_count 224 = .ok (.iconst 0, 1) := by decide +kernel
theorem dX7_count_225 : decode cX7_count 225 = .ok (.goto 4, 3) := by decide +kernel
theorem dX7_count_228 : decode cX7_count 228 = .ok (.iconst 1, 1) := by decide +kernel
theorem dX7_count_229 : decode cX7_count 229 = .ok (.iadd, 1) := by decide +kernel
theorem dX7_count_230 : decode cX7_count 230 = .ok (.istore_n 2, 1) := by decide +kernel
theorem dX7_count_231 : decode cX7_count 231 = .ok (.iinc 3 1, 3) := by decide +kernel
theorem dX7_count_234 : decode cX7_count 234 = .ok (.goto (-25), 3) := by decide +kernel
theorem dX7_count_237 : decode cX7_count 237 = .ok (.iload_n 2, 1) := by decide +kernel
theorem dX7_count_238 : decode cX7_count 238 = .ok (.ireturn, 1) := by decide +kernel
theorem dX7_count_239 : decode cX7_count 239 = .ok (.iconst 0, 1) := by decide +kernel
theorem dX7_count_240 : decode cX7_count 240 = .ok (.istore_n 3, 1) := by decide +kernel
theorem dX7_count_241 : decode cX7_count 241 = .ok (.iload_n 3, 1) := by decide +kernel
theorem dX7_count_242 : decode cX7_count 242 = .ok (.iconst 3, 1) := by decide +kernel
theorem dX7_count_243 : decode cX7_count 243 = .ok (.if_icmp .ge 26, 3) := by decide +kernel
theorem dX7_count_246 : decode cX7_count 246 = .ok (.iload_n 2, 1) := by decide +kernel
theorem dX7_count_247 : decode cX7_count 247 = .ok (.aload_n 0, 1) := by decide +kernel
theorem dX7_count_248 : decode cX7_count 248 = .ok (.getfield 34, 3) := by decide +kernel
theorem dX7_count_251 : decode cX7_count 251 = .ok (.iload_n 3, 1) := by decide +kernel
theorem dX7_count_252 : decode cX7_count 252 = .ok (.baload, 1) := by decide +kernel
theorem dX7_count_253 : decode cX7_count 253 = .ok (.ifCond .eq 7, 3) := by decide +kernel
theorem dX7_count_256 : decode cX7_count 256 = .ok (.iconst 1, 1) := by decide +kernel
theorem dX7_count_257 : decode cX7_count 257 = .ok (.goto 4, 3) := by decide +kernel
theorem dX7_count_260 : decode cX7_count 260 = .ok (.iconst 0, 1) := by decide +kernel
theorem dX7_count_261 : decode cX7_count 261 = .ok (.iadd, 1) := by decide +kernel
theorem dX7_count_262 : decode cX7_count 262 = .ok (.istore_n 2, 1) := by decide +kernel
theorem dX7_count_263 : decode cX7_count 263 = .ok (.iinc 3 1, 3) := by decide +kernel
theorem dX7_count_266 : decode cX7_count 266 = .ok (.goto (-25), 3) := by decide +kernel
theorem dX7_count_269 : decode cX7_count 269 = .ok (.iload_n 2, 1) := by decide +kernel
theorem dX7_count_270 : decode cX7_count 270 = .ok (.ireturn, 1) := by decide +kernel
theorem dX7_count_271 : decode cX7_count 271 = .ok (.iconst (-1), 1) := by decide +kernel
theorem dX7_count_272 : decode cX7_count 272 = .ok (.ireturn, 1) := by decide +kernel
theorem dX7_finding_0 : decode cX7_finding 0 = .ok (.aload_n 0, 1) := by decide +kernel
theorem dX7_finding_1 : decode cX7_finding 1 = .ok (.getfield 54, 3) := by decide +kernel
theorem dX7_finding_4 : decode cX7_finding 4 = .ok (.ireturn, 1) := by decide +kernel
theorem dX7_findings_0 : decode cX7_findings 0 = .ok (.iload_n 1, 1) := by decide +kernel
theorem dX7_findings_1 : decode cX7_findings 1 = .ok (.iconst 1, 1) := by decide +kernel
theorem dX7_findings_2 : decode cX7_findings 2 = .ok (.iconst 5, 1) := by decide +kernel
theorem dX7_findings_3 : decode cX7_findings 3 = .ok (.invokestatic 64, 3) := by decide +kernel
theorem dX7_findings_6 : decode cX7_findings 6 = .ok (.ifCond .eq 12, 3) := by decide +kernel
theorem dX7_findings_9 : decode cX7_findings 9 = .ok (.aload_n 0, 1) := by decide +kernel
theorem dX7_findings_10 : decode cX7_findings 10 = .ok (.getfield 38, 3) := by decide +kernel
theorem dX7_findings_13 : decode cX7_findings 13 = .ok (.iload_n 1, 1) := by decide +kernel
theorem dX7_findings_14 : decode cX7_findings 14 = .ok (.iaload, 1) := by decide +kernel
theorem dX7_findings_15 : decode cX7_findings 15 = .ok (.goto 4, 3) := by decide +kernel
theorem dX7_findings_18 : decode cX7_findings 18 = .ok (.iconst (-1), 1) := by decide +kernel
theorem dX7_findings_19 : decode cX7_findings 19 = .ok (.ireturn, 1) := by decide +kernel
theorem dX7_digest_0 : decode cX7_digest 0 = .ok (.ldc2_w 267, 3) := by decide +kernel
theorem dX7_digest_3 : decode cX7_digest 3 = .ok (.lstore_n 1, 1) := by decide +kernel
theorem dX7_digest_4 : decode cX7_digest 4 = .ok (.iconst 0, 1) := by decide +kernel
theorem dX7_digest_5 : decode cX7_digest 5 = .ok (.istore_n 3, 1) := by decide +kernel
theorem dX7_digest_6 : decode cX7_digest 6 = .ok (.iload_n 3, 1) := by decide +kernel
theorem dX7_digest_7 : decode cX7_digest 7 = .ok (.bipush 11, 2) := by decide +kernel
theorem dX7_digest_9 : decode cX7_digest 9 = .ok (.if_icmp .ge 22, 3) := by decide +kernel
theorem dX7_digest_12 : decode cX7_digest 12 = .ok (.ldc2_w 269, 3) := by decide +kernel
theorem dX7_digest_15 : decode cX7_digest 15 = .ok (.lload_n 1, 1) := by decide +kernel
theorem dX7_digest_16 : decode cX7_digest 16 = .ok (.lmul, 1) := by decide +kernel
theorem dX7_digest_17 : decode cX7_digest 17 = .ok (.aload_n 0, 1) := by decide +kernel
theorem dX7_digest_18 : decode cX7_digest 18 = .ok (.iload_n 3, 1) := by decide +kernel
theorem dX7_digest_19 : decode cX7_digest 19 = .ok (.invokevirtual 271, 3) := by decide +kernel
theorem dX7_digest_22 : decode cX7_digest 22 = .ok (.i2l, 1) := by decide +kernel
theorem dX7_digest_23 : decode cX7_digest 23 = .ok (.ladd, 1) := by decide +kernel
theorem dX7_digest_24 : decode cX7_digest 24 = .ok (.lstore_n 1, 1) := by decide +kernel
theorem dX7_digest_25 : decode cX7_digest 25 = .ok (.iinc 3 1, 3) := by decide +kernel
theorem dX7_digest_28 : decode cX7_digest 28 = .ok (.goto (-22), 3) := by decide +kernel
theorem dX7_digest_31 : decode cX7_digest 31 = .ok (.iconst 0, 1) := by decide +kernel
theorem dX7_digest_32 : decode cX7_digest 32 = .ok (.istore_n 3, 1) := by decide +kernel
theorem dX7_digest_33 : decode cX7_digest 33 = .ok (.iload_n 3, 1) := by decide +kernel
theorem dX7_digest_34 : decode cX7_digest 34 = .ok (.bipush 9, 2) := by decide +kernel
theorem dX7_digest_36 : decode cX7_digest 36 = .ok (.aload_n 0, 1) := by decide +kernel
theorem dX7_digest_37 : decode cX7_digest 37 = .ok (.getfield 25, 3) := by decide +kernel
theorem dX7_digest_40 : decode cX7_digest 40 = .ok (.iconst 0, 1) := by decide +kernel
theorem dX7_digest_41 : decode cX7_digest 41 = .ok (.iaload, 1) := by decide +kernel
theorem dX7_digest_42 : decode cX7_digest 42 = .ok (.imul, 1) := by decide +kernel
theorem dX7_digest_43 : decode cX7_digest 43 = .ok (.if_icmp .ge 29, 3) := by decide +kernel
theorem dX7_digest_46 : decode cX7_digest 46 = .ok (.ldc2_w 269, 3) := by decide +kernel
theorem dX7_digest_49 : decode cX7_digest 49 = .ok (.lload_n 1, 1) := by decide +kernel
theorem dX7_digest_50 : decode cX7_digest 50 = .ok (.lmul, 1) := by decide +kernel
theorem dX7_digest_51 : decode cX7_digest 51 = .ok (.aload_n 0, 1) := by decide +kernel
theorem dX7_digest_52 : decode cX7_digest 52 = .ok (.iload_n 3, 1) := by decide +kernel
theorem dX7_digest_53 : decode cX7_digest 53 = .ok (.bipush 9, 2) := by decide +kernel
theorem dX7_digest_55 : decode cX7_digest 55 = .ok (.idiv, 1) := by decide +kernel
theorem dX7_digest_56 : decode cX7_digest 56 = .ok (.iload_n 3, 1) := by decide +kernel
theorem dX7_digest_57 : decode cX7_digest 57 = .ok (.bipush 9, 2) := by decide +kernel
theorem dX7_digest_59 : decode cX7_digest 59 = .ok (.irem, 1) := by decide +kernel
theorem dX7_digest_60 : decode cX7_digest 60 = .ok (.invokevirtual 162, 3) := by decide +kernel
theorem dX7_digest_63 : decode cX7_digest 63 = .ok (.i2l, 1) := by decide +kernel
theorem dX7_digest_64 : decode cX7_digest 64 = .ok (.ladd, 1) := by decide +kernel
theorem dX7_digest_65 : decode cX7_digest 65 = .ok (.lstore_n 1, 1) := by decide +kernel
theorem dX7_digest_66 : decode cX7_digest 66 = .ok (.iinc 3 1, 3) := by decide +kernel
theorem dX7_digest_69 : decode cX7_digest 69 = .ok (.goto (-36), 3) := by decide +kernel
theorem dX7_digest_72 : decode cX7_digest 72 = .ok (.iconst 0, 1) := by decide +kernel
theorem dX7_digest_73 : decode cX7_digest 73 = .ok (.istore_n 3, 1) := by decide +kernel
theorem dX7_digest_74 : decode cX7_digest 74 = .ok (.iload_n 3, 1) := by decide +kernel
theorem dX7_digest_75 : decode cX7_digest 75 = .ok (.iconst 3, 1) := by decide +kernel
theorem dX7_digest_76 : decode cX7_digest 76 = .ok (.if_icmp .ge 42, 3) := by decide +kernel
theorem dX7_digest_79 : decode cX7_digest 79 = .ok (.ldc2_w 269, 3) := by decide +kernel
theorem dX7_digest_82 : decode cX7_digest 82 = .ok (.lload_n 1, 1) := by decide +kernel
theorem dX7_digest_83 : decode cX7_digest 83 = .ok (.lmul, 1) := by decide +kernel
theorem dX7_digest_84 : decode cX7_digest 84 = .ok (.aload_n 0, 1) := by decide +kernel
theorem dX7_digest_85 : decode cX7_digest 85 = .ok (.getfield 34, 3) := by decide +kernel
theorem dX7_digest_88 : decode cX7_digest 88 = .ok (.iload_n 3, 1) := by decide +kernel
theorem dX7_digest_89 : decode cX7_digest 89 = .ok (.baload, 1) := by decide +kernel
theorem dX7_digest_90 : decode cX7_digest 90 = .ok (.ifCond .eq 18, 3) := by decide +kernel
theorem dX7_digest_93 : decode cX7_digest 93 = .ok (.aload_n 0, 1) := by decide +kernel
theorem dX7_digest_94 : decode cX7_digest 94 = .ok (.getfield 31, 3) := by decide +kernel
theorem dX7_digest_97 : decode cX7_digest 97 = .ok (.sipush 215, 3) := by decide +kernel
theorem dX7_digest_100 : decode cX7_digest 100 = .ok (.iload_n 3, 1) := by decide +kernel
theorem dX7_digest_101 : decode cX7_digest 101 = .ok (.imul, 1) := by decide +kernel
theorem dX7_digest_102 : decode cX7_digest 102 = .ok (.iconst 3, 1) := by decide +kernel
theorem dX7_digest_103 : decode cX7_digest 103 = .ok (.iadd, 1) := by decide +kernel
theorem dX7_digest_104 : decode cX7_digest 104 = .ok (.iaload, 1) := by decide +kernel
theorem dX7_digest_105 : decode cX7_digest 105 = .ok (.goto 4, 3) := by decide +kernel
theorem dX7_digest_108 : decode cX7_digest 108 = .ok (.iconst (-1), 1) := by decide +kernel
theorem dX7_digest_109 : decode cX7_digest 109 = .ok (.i2l, 1) := by decide +kernel
theorem dX7_digest_110 : decode cX7_digest 110 = .ok (.ladd, 1) := by decide +kernel
theorem dX7_digest_111 : decode cX7_digest 111 = .ok (.lstore_n 1, 1) := by decide +kernel
theorem dX7_digest_112 : decode cX7_digest 112 = .ok (.iinc 3 1, 3) := by decide +kernel
theorem dX7_digest_115 : decode cX7_digest 115 = .ok (.goto (-41), 3) := by decide +kernel
theorem dX7_digest_118 : decode cX7_digest 118 = .ok (.iconst 0, 1) := by decide +kernel
theorem dX7_digest_119 : decode cX7_digest 119 = .ok (.istore_n 3, 1) := by decide +kernel
theorem dX7_digest_120 : decode cX7_digest 120 = .ok (.iload_n 3, 1) := by decide +kernel
theorem dX7_digest_121 : decode cX7_digest 121 = .ok (.bipush 6, 2) := by decide +kernel
theorem dX7_digest_123 : decode cX7_digest 123 = .ok (.if_icmp .ge 63, 3) := by decide +kernel
theorem dX7_digest_126 : decode cX7_digest 126 = .ok (.ldc2_w 269, 3) := by decide +kernel
theorem dX7_digest_129 : decode cX7_digest 129 = .ok (.lload_n 1, 1) := by decide +kernel
theorem dX7_digest_130 : decode cX7_digest 130 = .ok (.lmul, 1) := by decide +kernel
theorem dX7_digest_131 : decode cX7_digest 131 = .ok (.aload_n 0, 1) := by decide +kernel
theorem dX7_digest_132 : decode cX7_digest 132 = .ok (.getfield 7, 3) := by decide +kernel
theorem dX7_digest_135 : decode cX7_digest 135 = .ok (.iload_n 3, 1) := by decide +kernel
theorem dX7_digest_136 : decode cX7_digest 136 = .ok (.iaload, 1) := by decide +kernel
theorem dX7_digest_137 : decode cX7_digest 137 = .ok (.i2l, 1) := by decide +kernel
theorem dX7_digest_138 : decode cX7_digest 138 = .ok (.ladd, 1) := by decide +kernel
theorem dX7_digest_139 : decode cX7_digest 139 = .ok (.lstore_n 1, 1) := by decide +kernel
theorem dX7_digest_140 : decode cX7_digest 140 = .ok (.iconst 0, 1) := by decide +kernel
theorem dX7_digest_141 : decode cX7_digest 141 = .ok (.istore 4, 2) := by decide +kernel
theorem dX7_digest_143 : decode cX7_digest 143 = .ok (.iload 4, 2) := by decide +kernel
theorem dX7_digest_145 : decode cX7_digest 145 = .ok (.aload_n 0, 1) := by decide +kernel
theorem dX7_digest_146 : decode cX7_digest 146 = .ok (.getfield 7, 3) := by decide +kernel
theorem dX7_digest_149 : decode cX7_digest 149 = .ok (.iload_n 3, 1) := by decide +kernel
theorem dX7_digest_150 : decode cX7_digest 150 = .ok (.iaload, 1) := by decide +kernel
theorem dX7_digest_151 : decode cX7_digest 151 = .ok (.if_icmp .ge 29, 3) := by decide +kernel
theorem dX7_digest_154 : decode cX7_digest 154 = .ok (.ldc2_w 269, 3) := by decide +kernel
theorem dX7_digest_157 : decode cX7_digest 157 = .ok (.lload_n 1, 1) := by decide +kernel
theorem dX7_digest_158 : decode cX7_digest 158 = .ok (.lmul, 1) := by decide +kernel
theorem dX7_digest_159 : decode cX7_digest 159 = .ok (.aload_n 0, 1) := by decide +kernel
theorem dX7_digest_160 : decode cX7_digest 160 = .ok (.getfield 13, 3) := by decide +kernel
theorem dX7_digest_163 : decode cX7_digest 163 = .ok (.bipush 40, 2) := by decide +kernel
theorem dX7_digest_165 : decode cX7_digest 165 = .ok (.iload_n 3, 1) := by decide +kernel
theorem dX7_digest_166 : decode cX7_digest 166 = .ok (.imul, 1) := by decide +kernel
theorem dX7_digest_167 : decode cX7_digest 167 = .ok (.iload 4, 2) := by decide +kernel
theorem dX7_digest_169 : decode cX7_digest 169 = .ok (.iadd, 1) := by decide +kernel
theorem dX7_digest_170 : decode cX7_digest 170 = .ok (.iaload, 1) := by decide +kernel
theorem dX7_digest_171 : decode cX7_digest 171 = .ok (.i2l, 1) := by decide +kernel
theorem dX7_digest_172 : decode cX7_digest 172 = .ok (.ladd, 1) := by decide +kernel
theorem dX7_digest_173 : decode cX7_digest 173 = .ok (.lstore_n 1, 1) := by decide +kernel
theorem dX7_digest_174 : decode cX7_digest 174 = .ok (.iinc 4 1, 3) := by decide +kernel
theorem dX7_digest_177 : decode cX7_digest 177 = .ok (.goto (-34), 3) := by decide +kernel
theorem dX7_digest_180 : decode cX7_digest 180 = .ok (.iinc 3 1, 3) := by decide +kernel
theorem dX7_digest_183 : decode cX7_digest 183 = .ok (.goto (-63), 3) := by decide +kernel
theorem dX7_digest_186 : decode cX7_digest 186 = .ok (.iconst 0, 1) := by decide +kernel
theorem dX7_digest_187 : decode cX7_digest 187 = .ok (.istore_n 3, 1) := by decide +kernel
theorem dX7_digest_188 : decode cX7_digest 188 = .ok (.iload_n 3, 1) := by decide +kernel
theorem dX7_digest_189 : decode cX7_digest 189 = .ok (.iconst 4, 1) := by decide +kernel
theorem dX7_digest_190 : decode cX7_digest 190 = .ok (.if_icmp .ge 63, 3) := by decide +kernel
theorem dX7_digest_193 : decode cX7_digest 193 = .ok (.ldc2_w 269, 3) := by decide +kernel
theorem dX7_digest_196 : decode cX7_digest 196 = .ok (.lload_n 1, 1) := by decide +kernel
theorem dX7_digest_197 : decode cX7_digest 197 = .ok (.lmul, 1) := by decide +kernel
theorem dX7_digest_198 : decode cX7_digest 198 = .ok (.aload_n 0, 1) := by decide +kernel
theorem dX7_digest_199 : decode cX7_digest 199 = .ok (.getfield 19, 3) := by decide +kernel
theorem dX7_digest_202 : decode cX7_digest 202 = .ok (.iload_n 3, 1) := by decide +kernel
theorem dX7_digest_203 : decode cX7_digest 203 = .ok (.iaload, 1) := by decide +kernel
theorem dX7_digest_204 : decode cX7_digest 204 = .ok (.i2l, 1) := by decide +kernel
theorem dX7_digest_205 : decode cX7_digest 205 = .ok (.ladd, 1) := by decide +kernel
theorem dX7_digest_206 : decode cX7_digest 206 = .ok (.lstore_n 1, 1) := by decide +kernel
theorem dX7_digest_207 : decode cX7_digest 207 = .ok (.iconst 0, 1) := by decide +kernel
theorem dX7_digest_208 : decode cX7_digest 208 = .ok (.istore 4, 2) := by decide +kernel
theorem dX7_digest_210 : decode cX7_digest 210 = .ok (.iload 4, 2) := by decide +kernel
theorem dX7_digest_212 : decode cX7_digest 212 = .ok (.aload_n 0, 1) := by decide +kernel
theorem dX7_digest_213 : decode cX7_digest 213 = .ok (.getfield 19, 3) := by decide +kernel
theorem dX7_digest_216 : decode cX7_digest 216 = .ok (.iload_n 3, 1) := by decide +kernel
theorem dX7_digest_217 : decode cX7_digest 217 = .ok (.iaload, 1) := by decide +kernel
theorem dX7_digest_218 : decode cX7_digest 218 = .ok (.if_icmp .ge 29, 3) := by decide +kernel
theorem dX7_digest_221 : decode cX7_digest 221 = .ok (.ldc2_w 269, 3) := by decide +kernel
theorem dX7_digest_224 : decode cX7_digest 224 = .ok (.lload_n 1, 1) := by decide +kernel
theorem dX7_digest_225 : decode cX7_digest 225 = .ok (.lmul, 1) := by decide +kernel
theorem dX7_digest_226 : decode cX7_digest 226 = .ok (.aload_n 0, 1) := by decide +kernel
theorem dX7_digest_227 : decode cX7_digest 227 = .ok (.getfield 22, 3) := by decide +kernel
theorem dX7_digest_230 : decode cX7_digest 230 = .ok (.bipush 60, 2) := by decide +kernel
theorem dX7_digest_232 : decode cX7_digest 232 = .ok (.iload_n 3, 1) := by decide +kernel
theorem dX7_digest_233 : decode cX7_digest 233 = .ok (.imul, 1) := by decide +kernel
theorem dX7_digest_234 : decode cX7_digest 234 = .ok (.iload 4, 2) := by decide +kernel
theorem dX7_digest_236 : decode cX7_digest 236 = .ok (.iadd, 1) := by decide +kernel
theorem dX7_digest_237 : decode cX7_digest 237 = .ok (.iaload, 1) := by decide +kernel
theorem dX7_digest_238 : decode cX7_digest 238 = .ok (.i2l, 1) := by decide +kernel
theorem dX7_digest_239 : decode cX7_digest 239 = .ok (.ladd, 1) := by decide +kernel
theorem dX7_digest_240 : decode cX7_digest 240 = .ok (.lstore_n 1, 1) := by decide +kernel
theorem dX7_digest_241 : decode cX7_digest 241 = .ok (.iinc 4 1, 3) := by decide +kernel
theorem dX7_digest_244 : decode cX7_digest 244 = .ok (.goto (-34), 3) := by decide +kernel
theorem dX7_digest_247 : decode cX7_digest 247 = .ok (.iinc 3 1, 3) := by decide +kernel
theorem dX7_digest_250 : decode cX7_digest 250 = .ok (.goto (-62), 3) := by decide +kernel
theorem dX7_digest_253 : decode cX7_digest 253 = .ok (.lload_n 1, 1) := by decide +kernel
theorem dX7_digest_254 : decode cX7_digest 254 = .ok (.lreturn, 1) := by decide +kernel
