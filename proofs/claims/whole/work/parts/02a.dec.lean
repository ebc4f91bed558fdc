theorem dX0_init_0 : decode cX0_init 0 = .ok (.aload_n 0, 1) := by decide +kernel
theorem dX0_init_1 : decode cX0_init 1 = .ok (.invokespecial 3, 3) := by decide +kernel
theorem dX0_init_4 : decode cX0_init 4 = .ok (.aload_n 0, 1) := by decide +kernel
theorem dX0_init_5 : decode cX0_init 5 = .ok (.bipush 6, 2) := by decide +kernel
theorem dX0_init_7 : decode cX0_init 7 = .ok (.newarray .long, 2) := by decide +kernel
theorem dX0_init_9 : decode cX0_init 9 = .ok (.putfield 9, 3) := by decide +kernel
theorem dX0_init_12 : decode cX0_init 12 = .ok (.aload_n 0, 1) := by decide +kernel
theorem dX0_init_13 : decode cX0_init 13 = .ok (.lconst 0, 1) := by decide +kernel
theorem dX0_init_14 : decode cX0_init 14 = .ok (.putfield 15, 3) := by decide +kernel
theorem dX0_init_17 : decode cX0_init 17 = .ok (.aload_n 0, 1) := by decide +kernel
theorem dX0_init_18 : decode cX0_init 18 = .ok (.lconst 1, 1) := by decide +kernel
theorem dX0_init_19 : decode cX0_init 19 = .ok (.putfield 19, 3) := by decide +kernel
theorem dX0_init_22 : decode cX0_init 22 = .ok (.return_, 1) := by decide +kernel
theorem dX0_tellNearer_0 : decode cX0_tellNearer 0 = .ok (.aload_n 0, 1) := by decide +kernel
theorem dX0_tellNearer_1 : decode cX0_tellNearer 1 = .ok (.iload_n 1, 1) := by decide +kernel
theorem dX0_tellNearer_2 : decode cX0_tellNearer 2 = .ok (.iload_n 3, 1) := by decide +kernel
theorem dX0_tellNearer_3 : decode cX0_tellNearer 3 = .ok (.invokevirtual 22, 3) := by decide +kernel
theorem dX0_tellNearer_6 : decode cX0_tellNearer 6 = .ok (.lconst 0, 1) := by decide +kernel
theorem dX0_tellNearer_7 : decode cX0_tellNearer 7 = .ok (.lstore 4, 2) := by decide +kernel
theorem dX0_tellNearer_9 : decode cX0_tellNearer 9 = .ok (.iconst 0, 1) := by decide +kernel
theorem dX0_tellNearer_10 : decode cX0_tellNearer 10 = .ok (.istore 6, 2) := by decide +kernel
theorem dX0_tellNearer_12 : decode cX0_tellNearer 12 = .ok (.iload 6, 2) := by decide +kernel
theorem dX0_tellNearer_14 : decode cX0_tellNearer 14 = .ok (.iload_n 2, 1) := by decide +kernel
theorem dX0_tellNearer_15 : decode cX0_tellNearer 15 = .ok (.if_icmp .gt 28, 3) := by decide +kernel
theorem dX0_tellNearer_18 : decode cX0_tellNearer 18 = .ok (.iload 6, 2) := by decide +kernel
theorem dX0_tellNearer_20 : decode cX0_tellNearer 20 = .ok (.bipush 6, 2) := by decide +kernel
theorem dX0_tellNearer_22 : decode cX0_tellNearer 22 = .ok (.if_icmp .ge 21, 3) := by decide +kernel
theorem dX0_tellNearer_25 : decode cX0_tellNearer 25 = .ok (.lload 4, 2) := by decide +kernel
theorem dX0_tellNearer_27 : decode cX0_tellNearer 27 = .ok (.aload_n 0, 1) := by decide +kernel
theorem dX0_tellNearer_28 : decode cX0_tellNearer 28 = .ok (.getfield 9, 3) := by decide +kernel
theorem dX0_tellNearer_31 : decode cX0_tellNearer 31 = .ok (.iload 6, 2) := by decide +kernel
theorem dX0_tellNearer_33 : decode cX0_tellNearer 33 = .ok (.laload, 1) := by decide +kernel
theorem dX0_tellNearer_34 : decode cX0_tellNearer 34 = .ok (.ladd, 1) := by decide +kernel
theorem dX0_tellNearer_35 : decode cX0_tellNearer 35 = .ok (.lstore 4, 2) := by decide +kernel
theorem dX0_tellNearer_37 : decode cX0_tellNearer 37 = .ok (.iinc 6 1, 3) := by decide +kernel
theorem dX0_tellNearer_40 : decode cX0_tellNearer 40 = .ok (.goto (-28), 3) := by decide +kernel
theorem dX0_tellNearer_43 : decode cX0_tellNearer 43 = .ok (.lconst 1, 1) := by decide +kernel
theorem dX0_tellNearer_44 : decode cX0_tellNearer 44 = .ok (.lstore 6, 2) := by decide +kernel
theorem dX0_tellNearer_46 : decode cX0_tellNearer 46 = .ok (.iconst 0, 1) := by decide +kernel
theorem dX0_tellNearer_47 : decode cX0_tellNearer 47 = .ok (.istore 8, 2) := by decide +kernel
theorem dX0_tellNearer_49 : decode cX0_tellNearer 49 = .ok (.iload 8, 2) := by decide +kernel
theorem dX0_tellNearer_51 : decode cX0_tellNearer 51 = .ok (.iload_n 1, 1) := by decide +kernel
theorem dX0_tellNearer_52 : decode cX0_tellNearer 52 = .ok (.if_icmp .ge 17, 3) := by decide +kernel
theorem dX0_tellNearer_55 : decode cX0_tellNearer 55 = .ok (.lload 6, 2) := by decide +kernel
theorem dX0_tellNearer_57 : decode cX0_tellNearer 57 = .ok (.ldc2_w 26, 3) := by decide +kernel
theorem dX0_tellNearer_60 : decode cX0_tellNearer 60 = .ok (.lmul, 1) := by decide +kernel
theorem dX0_tellNearer_61 : decode cX0_tellNearer 61 = .ok (.lstore 6, 2) := by decide +kernel
theorem dX0_tellNearer_63 : decode cX0_tellNearer 63 = .ok (.iinc 8 1, 3) := by decide +kernel
theorem dX0_tellNearer_66 : decode cX0_tellNearer 66 = .ok (.goto (-17), 3) := by decide +kernel
theorem dX0_tellNearer_69 : decode cX0_tellNearer 69 = .ok (.aload_n 0, 1) := by decide +kernel
theorem dX0_tellNearer_70 : decode cX0_tellNearer 70 = .ok (.lload 4, 2) := by decide +kernel
theorem dX0_tellNearer_72 : decode cX0_tellNearer 72 = .ok (.lload 6, 2) := by decide +kernel
theorem dX0_tellNearer_74 : decode cX0_tellNearer 74 = .ok (.invokevirtual 28, 3) := by decide +kernel
theorem dX0_tellNearer_77 : decode cX0_tellNearer 77 = .ok (.return_, 1) := by decide +kernel
theorem dX0_tellMean_0 : decode cX0_tellMean 0 = .ok (.aload_n 0, 1) := by decide +kernel
theorem dX0_tellMean_1 : decode cX0_tellMean 1 = .ok (.iload_n 1, 1) := by decide +kernel
theorem dX0_tellMean_2 : decode cX0_tellMean 2 = .ok (.i2l, 1) := by decide +kernel
theorem dX0_tellMean_3 : decode cX0_tellMean 3 = .ok (.bipush 12, 2) := by decide +kernel
theorem dX0_tellMean_5 : decode cX0_tellMean 5 = .ok (.iload_n 2, 1) := by decide +kernel
theorem dX0_tellMean_6 : decode cX0_tellMean 6 = .ok (.isub, 1) := by decide +kernel
theorem dX0_tellMean_7 : decode cX0_tellMean 7 = .ok (.i2l, 1) := by decide +kernel
theorem dX0_tellMean_8 : decode cX0_tellMean 8 = .ok (.lmul, 1) := by decide +kernel
theorem dX0_tellMean_9 : decode cX0_tellMean 9 = .ok (.ldc2_w 26, 3) := by decide +kernel
theorem dX0_tellMean_12 : decode cX0_tellMean 12 = .ok (.invokevirtual 28, 3) := by decide +kernel
theorem dX0_tellMean_15 : decode cX0_tellMean 15 = .ok (.return_, 1) := by decide +kernel
theorem dX0_spread_0 : decode cX0_spread 0 = .ok (.aload_n 0, 1) := by decide +kernel
theorem dX0_spread_1 : decode cX0_spread 1 = .ok (.getfield 9, 3) := by decide +kernel
theorem dX0_spread_4 : decode cX0_spread 4 = .ok (.lconst 0, 1) := by decide +kernel
theorem dX0_spread_5 : decode cX0_spread 5 = .ok (.invokestatic 32, 3) := by decide +kernel
theorem dX0_spread_8 : decode cX0_spread 8 = .ok (.aload_n 0, 1) := by decide +kernel
theorem dX0_spread_9 : decode cX0_spread 9 = .ok (.getfield 9, 3) := by decide +kernel
theorem dX0_spread_12 : decode cX0_spread 12 = .ok (.iconst 0, 1) := by decide +kernel
theorem dX0_spread_13 : decode cX0_spread 13 = .ok (.lconst 1, 1) := by decide +kernel
theorem dX0_spread_14 : decode cX0_spread 14 = .ok (.lastore, 1) := by decide +kernel
theorem dX0_spread_15 : decode cX0_spread 15 = .ok (.iconst 0, 1) := by decide +kernel
theorem dX0_spread_16 : decode cX0_spread 16 = .ok (.istore_n 3, 1) := by decide +kernel
theorem dX0_spread_17 : decode cX0_spread 17 = .ok (.iload_n 3, 1) := by decide +kernel
theorem dX0_spread_18 : decode cX0_spread 18 = .ok (.iload_n 1, 1) := by decide +kernel
theorem dX0_spread_19 : decode cX0_spread 19 = .ok (.if_icmp .ge 67, 3) := by decide +kernel
theorem dX0_spread_22 : decode cX0_spread 22 = .ok (.iconst 5, 1) := by decide +kernel
theorem dX0_spread_23 : decode cX0_spread 23 = .ok (.istore 4, 2) := by decide +kernel
theorem dX0_spread_25 : decode cX0_spread 25 = .ok (.iload 4, 2) := by decide +kernel
theorem dX0_spread_27 : decode cX0_spread 27 = .ok (.ifCond .le 42, 3) := by decide +kernel
theorem dX0_spread_30 : decode cX0_spread 30 = .ok (.aload_n 0, 1) := by decide +kernel
theorem dX0_spread_31 : decode cX0_spread 31 = .ok (.getfield 9, 3) := by decide +kernel
theorem dX0_spread_34 : decode cX0_spread 34 = .ok (.iload 4, 2) := by decide +kernel
theorem dX0_spread_36 : decode cX0_spread 36 = .ok (.aload_n 0, 1) := by decide +kernel
theorem dX0_spread_37 : decode cX0_spread 37 = .ok (.getfield 9, 3) := by decide +kernel
theorem dX0_spread_40 : decode cX0_spread 40 = .ok (.iload 4, 2) := by decide +kernel
theorem dX0_spread_42 : decode cX0_spread 42 = .ok (.laload, 1) := by decide +kernel
theorem dX0_spread_43 : decode cX0_spread 43 = .ok (.iload_n 2, 1) := by decide +kernel
theorem dX0_spread_44 : decode cX0_spread 44 = .ok (.i2l, 1) := by decide +kernel
theorem dX0_spread_45 : decode cX0_spread 45 = .ok (.lmul, 1) := by decide +kernel
theorem dX0_spread_46 : decode cX0_spread 46 = .ok (.aload_n 0, 1) := by decide +kernel
theorem dX0_spread_47 : decode cX0_spread 47 = .ok (.getfield 9, 3) := by decide +kernel
theorem dX0_spread_50 : decode cX0_spread 50 = .ok (.iload 4, 2) := by decide +kernel
theorem dX0_spread_52 : decode cX0_spread 52 = .ok (.iconst 1, 1) := by decide +kernel
theorem dX0_spread_53 : decode cX0_spread 53 = .ok (.isub, 1) := by decide +kernel
theorem dX0_spread_54 : decode cX0_spread 54 = .ok (.laload, 1) := by decide +kernel
theorem dX0_spread_55 : decode cX0_spread 55 = .ok (.bipush 12, 2) := by decide +kernel
theorem dX0_spread_57 : decode cX0_spread 57 = .ok (.iload_n 2, 1) := by decide +kernel
theorem dX0_spread_58 : decode cX0_spread 58 = .ok (.isub, 1) := by decide +kernel
theorem dX0_spread_59 : decode cX0_spread 59 = .ok (.i2l, 1) := by decide +kernel
theorem dX0_spread_60 : decode cX0_spread 60 = .ok (.lmul, 1) := by decide +kernel
theorem dX0_spread_61 : decode cX0_spread 61 = .ok (.ladd, 1) := by decide +kernel
theorem dX0_spread_62 : decode cX0_spread 62 = .ok (.lastore, 1) := by decide +kernel
theorem dX0_spread_63 : decode cX0_spread 63 = .ok (.iinc 4 (-1), 3) := by decide +kernel
theorem dX0_spread_66 : decode cX0_spread 66 = .ok (.goto (-41), 3) := by decide +kernel
theorem dX0_spread_69 : decode cX0_spread 69 = .ok (.aload_n 0, 1) := by decide +kernel
theorem dX0_spread_70 : decode cX0_spread 70 = .ok (.getfield 9, 3) := by decide +kernel
theorem dX0_spread_73 : decode cX0_spread 73 = .ok (.iconst 0, 1) := by decide +kernel
theorem dX0_spread_74 : decode cX0_spread 74 = .ok (.dup2, 1) := by decide +kernel
theorem dX0_spread_75 : decode cX0_spread 75 = .ok (.laload, 1) := by decide +kernel
theorem dX0_spread_76 : decode cX0_spread 76 = .ok (.iload_n 2, 1) := by decide +kernel
theorem dX0_spread_77 : decode cX0_spread 77 = .ok (.i2l, 1) := by decide +kernel
theorem dX0_spread_78 : decode cX0_spread 78 = .ok (.lmul, 1) := by decide +kernel
theorem dX0_spread_79 : decode cX0_spread 79 = .ok (.lastore, 1) := by decide +kernel
theorem dX0_spread_80 : decode cX0_spread 80 = .ok (.iinc 3 1, 3) := by decide +kernel
theorem dX0_spread_83 : decode cX0_spread 83 = .ok (.goto (-66), 3) := by decide +kernel
theorem dX0_spread_86 : decode cX0_spread 86 = .ok (.return_, 1) := by decide +kernel
theorem dX0_tellInLowestTerms_0 : decode cX0_tellInLowestTerms 0 = .ok (.lload_n 1, 1) := by decide +kernel
theorem dX0_tellInLowestTerms_1 : decode cX0_tellInLowestTerms 1 = .ok (.lload_n 3, 1) := by decide +kernel
theorem dX0_tellInLowestTerms_2 : decode cX0_tellInLowestTerms 2 = .ok (.invokestatic 38, 3) := by decide +kernel
theorem dX0_tellInLowestTerms_5 : decode cX0_tellInLowestTerms 5 = .ok (.lstore 5, 2) := by decide +kernel
theorem dX0_tellInLowestTerms_7 : decode cX0_tellInLowestTerms 7 = .ok (.lload 5, 2) := by decide +kernel
theorem dX0_tellInLowestTerms_9 : decode cX0_tellInLowestTerms 9 = .ok (.lconst 0, 1) := by decide +kernel
theorem dX0_tellInLowestTerms_10 : decode cX0_tellInLowestTerms 10 = .ok (.lcmp, 1) := by decide +kernel
theorem dX0_tellInLowestTerms_11 : decode cX0_tellInLowestTerms 11 = .ok (.ifCond .le 19, 3) := by decide +kernel
theorem dX0_tellInLowestTerms_14 : decode cX0_tellInLowestTerms 14 = .ok (.aload_n 0, 1) := by decide +kernel
theorem dX0_tellInLowestTerms_15 : decode cX0_tellInLowestTerms 15 = .ok (.lload_n 1, 1) := by decide +kernel
theorem dX0_tellInLowestTerms_16 : decode cX0_tellInLowestTerms 16 = .ok (.lload 5, 2) := by decide +kernel
theorem dX0_tellInLowestTerms_18 : decode cX0_tellInLowestTerms 18 = .ok (.ldiv, 1) := by decide +kernel
theorem dX0_tellInLowestTerms_19 : decode cX0_tellInLowestTerms 19 = .ok (.putfield 15, 3) := by decide +kernel
theorem dX0_tellInLowestTerms_22 : decode cX0_tellInLowestTerms 22 = .ok (.aload_n 0, 1) := by decide +kernel
theorem dX0_tellInLowestTerms_23 : decode cX0_tellInLowestTerms 23 = .ok (.lload_n 3, 1) := by decide +kernel
theorem dX0_tellInLowestTerms_24 : decode cX0_tellInLowestTerms 24 = .ok (.lload 5, 2) := by decide +kernel
theorem dX0_tellInLowestTerms_26 : decode cX0_tellInLowestTerms 26 = .ok (.ldiv, 1) := by decide +kernel
theorem dX0_tellInLowestTerms_27 : decode cX0_tellInLowestTerms 27 = .ok (.putfield 19, 3) := by decide +kernel
theorem dX0_tellInLowestTerms_30 : decode cX0_tellInLowestTerms 30 = .ok (.return_, 1) := by decide +kernel
theorem dX0_commonDivisor_0 : decode cX0_commonDivisor 0 = .ok (.lload_n 0, 1) := by decide +kernel
theorem dX0_commonDivisor_1 : decode cX0_commonDivisor 1 = .ok (.lstore 4, 2) := by decide +kernel
theorem dX0_commonDivisor_3 : decode cX0_commonDivisor 3 = .ok (.lload_n 2, 1) := by decide +kernel
theorem dX0_commonDivisor_4 : decode cX0_commonDivisor 4 = .ok (.lstore 6, 2) := by decide +kernel
theorem dX0_commonDivisor_6 : decode cX0_commonDivisor 6 = .ok (.iconst 0, 1) := by decide +kernel
theorem dX0_commonDivisor_7 : decode cX0_commonDivisor 7 = .ok (.istore 8, 2) := by decide +kernel
theorem dX0_commonDivisor_9 : decode cX0_commonDivisor 9 = .ok (.iload 8, 2) := by decide +kernel
theorem dX0_commonDivisor_11 : decode cX0_commonDivisor 11 = .ok (.sipush 1000, 3) := by decide +kernel
theorem dX0_commonDivisor_14 : decode cX0_commonDivisor 14 = .ok (.if_icmp .ge 31, 3) := by decide +kernel
theorem dX0_commonDivisor_17 : decode cX0_commonDivisor 17 = .ok (.lload 6, 2) := by decide +kernel
theorem dX0_commonDivisor_19 : decode cX0_commonDivisor 19 = .ok (.lconst 0, 1) := by decide +kernel
theorem dX0_commonDivisor_20 : decode cX0_commonDivisor 20 = .ok (.lcmp, 1) := by decide +kernel
theorem dX0_commonDivisor_21 : decode cX0_commonDivisor 21 = .ok (.ifCond .eq 24, 3) := by decide +kernel
theorem dX0_commonDivisor_24 : decode cX0_commonDivisor 24 = .ok (.lload 4, 2) := by decide +kernel
theorem dX0_commonDivisor_26 : decode cX0_commonDivisor 26 = .ok (.lload 6, 2) := by decide +kernel
theorem dX0_commonDivisor_28 : decode cX0_commonDivisor 28 = .ok (.lrem, 1) := by decide +kernel
theorem dX0_commonDivisor_29 : decode cX0_commonDivisor 29 = .ok (.lstore 9, 2) := by decide +kernel
theorem dX0_commonDivisor_31 : decode cX0_commonDivisor 31 = .ok (.lload 6, 2) := by decide +kernel
theorem dX0_commonDivisor_33 : decode cX0_commonDivisor 33 = .ok (.lstore 4, 2) := by decide +kernel
theorem dX0_commonDivisor_35 : decode cX0_commonDivisor 35 = .ok (.lload 9, 2) := by decide +kernel
theorem dX0_commonDivisor_37 : decode cX0_commonDivisor 37 = .ok (.lstore 6, 2) := by decide +kernel
theorem dX0_commonDivisor_39 : decode cX0_commonDivisor 39 = .ok (.iinc 8 1, 3) := by decide +kernel
theorem dX0_commonDivisor_42 : decode cX0_commonDivisor 42 = .ok (.goto (-33), 3) := by decide +kernel
theorem dX0_commonDivisor_45 : decode cX0_commonDivisor 45 = .ok (.lload 4, 2) := by decide +kernel
theorem dX0_commonDivisor_47 : decode cX0_commonDivisor 47 = .ok (.lreturn, 1) := by decide +kernel
theorem dX1_init_0 : decode cX1_init 0 = .ok (.aload_n 0, 1) := by decide +kernel
theorem dX1_init_1 : decode cX1_init 1 = .ok (.invokespecial 3, 3) := by decide +kernel
theorem dX1_init_4 : decode cX1_init 4 = .ok (.aload_n 0, 1) := by decide +kernel
theorem dX1_init_5 : decode cX1_init 5 = .ok (.bipush 6, 2) := by decide +kernel
theorem dX1_init_7 : decode cX1_init 7 = .ok (.newarray .int, 2) := by decide +kernel
theorem dX1_init_9 : decode cX1_init 9 = .ok (.putfield 9, 3) := by decide +kernel
theorem dX1_init_12 : decode cX1_init 12 = .ok (.aload_n 0, 1) := by decide +kernel
theorem dX1_init_13 : decode cX1_init 13 = .ok (.bipush 6, 2) := by decide +kernel
theorem dX1_init_15 : decode cX1_init 15 = .ok (.newarray .int, 2) := by decide +kernel
theorem dX1_init_17 : decode cX1_init 17 = .ok (.putfield 15, 3) := by decide +kernel
theorem dX1_init_20 : decode cX1_init 20 = .ok (.aload_n 0, 1) := by decide +kernel
theorem dX1_init_21 : decode cX1_init 21 = .ok (.bipush 6, 2) := by decide +kernel
theorem dX1_init_23 : decode cX1_init 23 = .ok (.newarray .int, 2) := by decide +kernel
theorem dX1_init_25 : decode cX1_init 25 = .ok (.putfield 18, 3) := by decide +kernel
theorem dX1_init_28 : decode cX1_init 28 = .ok (.aload_n 0, 1) := by decide +kernel
theorem dX1_init_29 : decode cX1_init 29 = .ok (.bipush 6, 2) := by decide +kernel
theorem dX1_init_31 : decode cX1_init 31 = .ok (.newarray .int, 2) := by decide +kernel
theorem dX1_init_33 : decode cX1_init 33 = .ok (.putfield 21, 3) := by decide +kernel
theorem dX1_init_36 : decode cX1_init 36 = .ok (.aload_n 0, 1) := by decide +kernel
theorem dX1_init_37 : decode cX1_init 37 = .ok (.bipush 6, 2) := by decide +kernel
theorem dX1_init_39 : decode cX1_init 39 = .ok (.newarray .int, 2) := by decide +kernel
theorem dX1_init_41 : decode cX1_init 41 = .ok (.putfield 24, 3) := by decide +kernel
theorem dX1_init_44 : decode cX1_init 44 = .ok (.aload_n 0, 1) := by decide +kernel
theorem dX1_init_45 : decode cX1_init 45 = .ok (.iconst 0, 1) := by decide +kernel
theorem dX1_init_46 : decode cX1_init 46 = .ok (.putfield 27, 3) := by decide +kernel
theorem dX1_init_49 : decode cX1_init 49 = .ok (.aload_n 0, 1) := by decide +kernel
theorem dX1_init_50 : decode cX1_init 50 = .ok (.iconst 0, 1) := by decide +kernel
theorem dX1_init_51 : decode cX1_init 51 = .ok (.putfield 31, 3) := by decide +kernel
theorem dX1_init_54 : decode cX1_init 54 = .ok (.aload_n 0, 1) := by decide +kernel
theorem dX1_init_55 : decode cX1_init 55 = .ok (.iconst 0, 1) := by decide +kernel
theorem dX1_init_56 : decode cX1_init 56 = .ok (.putfield 34, 3) := by decide +kernel
theorem dX1_init_59 : decode cX1_init 59 = .ok (.aload_n 0, 1) := by decide +kernel
theorem dX1_init_60 : decode cX1_init 60 = .ok (.iconst 0, 1) := by decide +kernel
theorem dX1_init_61 : decode cX1_init 61 = .ok (.putfield 37, 3) := by decide +kernel
theorem dX1_init_64 : decode cX1_init 64 = .ok (.return_, 1) := by decide +kernel
theorem dX1_read_0 : decode cX1_read 0 = .ok (.aload_n 0, 1) := by decide +kernel
theorem dX1_read_1 : decode cX1_read 1 = .ok (.iconst 0, 1) := by decide +kernel
theorem dX1_read_2 : decode cX1_read 2 = .ok (.putfield 37, 3) := by decide +kernel
theorem dX1_read_5 : decode cX1_read 5 = .ok (.aload_n 0, 1) := by decide +kernel
theorem dX1_read_6 : decode cX1_read 6 = .ok (.iconst 0, 1) := by decide +kernel
theorem dX1_read_7 : decode cX1_read 7 = .ok (.putfield 27, 3) := by decide +kernel
theorem dX1_read_10 : decode cX1_read 10 = .ok (.aload_n 0, 1) := by decide +kernel
theorem dX1_read_11 : decode cX1_read 11 = .ok (.aload_n 1, 1) := by decide +kernel
theorem dX1_read_12 : decode cX1_read 12 = .ok (.iload_n 2, 1) := by decide +kernel
theorem dX1_read_13 : decode cX1_read 13 = .ok (.invokevirtual 40, 3) := by decide +kernel
theorem dX1_read_16 : decode cX1_read 16 = .ok (.aload_n 0, 1) := by decide +kernel
theorem dX1_read_17 : decode cX1_read 17 = .ok (.aload_n 1, 1) := by decide +kernel
theorem dX1_read_18 : decode cX1_read 18 = .ok (.iload_n 2, 1) := by decide +kernel
theorem dX1_read_19 : decode cX1_read 19 = .ok (.invokevirtual 44, 3) := by decide +kernel
theorem dX1_read_22 : decode cX1_read 22 = .ok (.ifCond .ne 8, 3) := by decide +kernel
theorem dX1_read_25 : decode cX1_read 25 = .ok (.aload_n 0, 1) := by decide +kernel
theorem dX1_read_26 : decode cX1_read 26 = .ok (.getfield 37, 3) := by decide +kernel
theorem dX1_read_29 : decode cX1_read 29 = .ok (.ireturn, 1) := by decide +kernel
theorem dX1_read_30 : decode cX1_read 30 = .ok (.aload_n 0, 1) := by decide +kernel
theorem dX1_read_31 : decode cX1_read 31 = .ok (.aload_n 1, 1) := by decide +kernel
theorem dX1_read_32 : decode cX1_read 32 = .ok (.iload_n 2, 1) := by decide +kernel
theorem dX1_read_33 : decode cX1_read 33 = .ok (.invokevirtual 40, 3) := by decide +kernel
theorem dX1_read_36 : decode cX1_read 36 = .ok (.iconst 0, 1) := by decide +kernel
theorem dX1_read_37 : decode cX1_read 37 = .ok (.istore_n 3, 1) := by decide +kernel
theorem dX1_read_38 : decode cX1_read 38 = .ok (.iload_n 3, 1) := by decide +kernel
theorem dX1_read_39 : decode cX1_read 39 = .ok (.bipush 6, 2) := by decide +kernel
theorem dX1_read_41 : decode cX1_read 41 = .ok (.if_icmp .gt 37, 3) := by decide +kernel
theorem dX1_read_44 : decode cX1_read 44 = .ok (.aload_n 0, 1) := by decide +kernel
theorem dX1_read_45 : decode cX1_read 45 = .ok (.getfield 37, 3) := by decide +kernel
theorem dX1_read_48 : decode cX1_read 48 = .ok (.iload_n 2, 1) := by decide +kernel
theorem dX1_read_49 : decode cX1_read 49 = .ok (.if_icmp .ge 29, 3) := by decide +kernel
theorem dX1_read_52 : decode cX1_read 52 = .ok (.aload_n 0, 1) := by decide +kernel
theorem dX1_read_53 : decode cX1_read 53 = .ok (.aload_n 1, 1) := by decide +kernel
theorem dX1_read_54 : decode cX1_read 54 = .ok (.iload_n 2, 1) := by decide +kernel
theorem dX1_read_55 : decode cX1_read 55 = .ok (.invokevirtual 48, 3) := by decide +kernel
theorem dX1_read_58 : decode cX1_read 58 = .ok (.ifCond .ne 8, 3) := by decide +kernel
theorem dX1_read_61 : decode cX1_read 61 = .ok (.aload_n 0, 1) := by decide +kernel
theorem dX1_read_62 : decode cX1_read 62 = .ok (.getfield 37, 3) := by decide +kernel
theorem dX1_read_65 : decode cX1_read 65 = .ok (.ireturn, 1) := by decide +kernel
theorem dX1_read_66 : decode cX1_read 66 = .ok (.aload_n 0, 1) := by decide +kernel
theorem dX1_read_67 : decode cX1_read 67 = .ok (.aload_n 1, 1) := by decide +kernel
theorem dX1_read_68 : decode cX1_read 68 = .ok (.iload_n 2, 1) := by decide +kernel
theorem dX1_read_69 : decode cX1_read 69 = .ok (.invokevirtual 40, 3) := by decide +kernel
theorem dX1_read_72 : decode cX1_read 72 = .ok (.iinc 3 1, 3) := by decide +kernel
theorem dX1_read_75 : decode cX1_read 75 = .ok (.goto (-37), 3) := by decide +kernel
theorem dX1_read_78 : decode cX1_read 78 = .ok (.aload_n 0, 1) := by decide +kernel
theorem dX1_read_79 : decode cX1_read 79 = .ok (.getfield 27, 3) := by decide +kernel
theorem dX1_read_82 : decode cX1_read 82 = .ok (.ifCond .ne 10, 3) := by decide +kernel
theorem dX1_read_85 : decode cX1_read 85 = .ok (.aload_n 0, 1) := by decide +kernel
theorem dX1_read_86 : decode cX1_read 86 = .ok (.getfield 37, 3) := by decide +kernel
theorem dX1_read_89 : decode cX1_read 89 = .ok (.goto 5, 3) := by decide +kernel
theorem dX1_read_92 : decode cX1_read 92 = .ok (.bipush (-9), 2) := by decide +kernel
theorem dX1_read_94 : decode cX1_read 94 = .ok (.ireturn, 1) := by decide +kernel
theorem dX1_skipBlanks_0 : decode cX1_skipBlanks 0 = .ok (.iconst 0, 1) := by decide +kernel
theorem dX1_skipBlanks_1 : decode cX1_skipBlanks 1 = .ok (.istore_n 3, 1) := by decide +kernel
theorem dX1_skipBlanks_2 : decode cX1_skipBlanks 2 = .ok (.iload_n 3, 1) := by decide +kernel
theorem dX1_skipBlanks_3 : decode cX1_skipBlanks 3 = .ok (.iload_n 2, 1) := by decide +kernel
theorem dX1_skipBlanks_4 : decode cX1_skipBlanks 4 = .ok (.if_icmp .ge 30, 3) := by decide +kernel
theorem dX1_skipBlanks_7 : decode cX1_skipBlanks 7 = .ok (.aload_n 0, 1) := by decide +kernel
theorem dX1_skipBlanks_8 : decode cX1_skipBlanks 8 = .ok (.aload_n 1, 1) := by decide +kernel
theorem dX1_skipBlanks_9 : decode cX1_skipBlanks 9 = .ok (.iload_n 2, 1) := by decide +kernel
theorem dX1_skipBlanks_10 : decode cX1_skipBlanks 10 = .ok (.invokevirtual 51, 3) := by decide +kernel
theorem dX1_skipBlanks_13 : decode cX1_skipBlanks 13 = .ok (.bipush 32, 2) := by decide +kernel
theorem dX1_skipBlanks_15 : decode cX1_skipBlanks 15 = .ok (.if_icmp .ne 19, 3) := by decide +kernel
theorem dX1_skipBlanks_18 : decode cX1_skipBlanks 18 = .ok (.aload_n 0, 1) := by decide +kernel
theorem dX1_skipBlanks_19 : decode cX1_skipBlanks 19 = .ok (.dup, 1) := by decide +kernel
theorem dX1_skipBlanks_20 : decode cX1_skipBlanks 20 = .ok (.getfield 37, 3) := by decide +kernel
theorem dX1_skipBlanks_23 : decode cX1_skipBlanks 23 = .ok (.iconst 1, 1) := by decide +kernel
theorem dX1_skipBlanks_24 : decode cX1_skipBlanks 24 = .ok (.iadd, 1) := by decide +kernel
theorem dX1_skipBlanks_25 : decode cX1_skipBlanks 25 = .ok (.putfield 37, 3) := by decide +kernel
theorem dX1_skipBlanks_28 : decode cX1_skipBlanks 28 = .ok (.iinc 3 1, 3) := by decide +kernel
theorem dX1_skipBlanks_31 : decode cX1_skipBlanks 31 = .ok (.goto (-29), 3) := by decide +kernel
theorem dX1_skipBlanks_34 : decode cX1_skipBlanks 34 = .ok (.return_, 1) := by decide +kernel
theorem dX1_signHere_0 : decode cX1_signHere 0 = .ok (.aload_n 0, 1) := by decide +kernel
theorem dX1_signHere_1 : decode cX1_signHere 1 = .ok (.getfield 37, 3) := by decide +kernel
theorem dX1_signHere_4 : decode cX1_signHere 4 = .ok (.ifCond .lt 29, 3) := by decide +kernel
theorem dX1_signHere_7 : decode cX1_signHere 7 = .ok (.aload_n 0, 1) := by decide +kernel
theorem dX1_signHere_8 : decode cX1_signHere 8 = .ok (.getfield 37, 3) := by decide +kernel
theorem dX1_signHere_11 : decode cX1_signHere 11 = .ok (.iload_n 2, 1) := by decide +kernel
theorem dX1_signHere_12 : decode cX1_signHere 12 = .ok (.if_icmp .ge 21, 3) := by decide +kernel
theorem dX1_signHere_15 : decode cX1_signHere 15 = .ok (.aload_n 0, 1) := by decide +kernel
theorem dX1_signHere_16 : decode cX1_signHere 16 = .ok (.getfield 37, 3) := by decide +kernel
theorem dX1_signHere_19 : decode cX1_signHere 19 = .ok (.aload_n 1, 1) := by decide +kernel
theorem dX1_signHere_20 : decode cX1_signHere 20 = .ok (.arraylength, 1) := by decide +kernel
theorem dX1_signHere_21 : decode cX1_signHere 21 = .ok (.if_icmp .ge 12, 3) := by decide +kernel
theorem dX1_signHere_24 : decode cX1_signHere 24 = .ok (.aload_n 1, 1) := by decide +kernel
theorem dX1_signHere_25 : decode cX1_signHere 25 = .ok (.aload_n 0, 1) := by decide +kernel
theorem dX1_signHere_26 : decode cX1_signHere 26 = .ok (.getfield 37, 3) := by decide +kernel
theorem dX1_signHere_29 : decode cX1_signHere 29 = .ok (.iaload, 1) := by decide +kernel
theorem dX1_signHere_30 : decode cX1_signHere 30 = .ok (.goto 6, 3) := by decide +kernel
theorem dX1_signHere_33 : decode cX1_signHere 33 = .ok (.sipush 1000, 3) := by decide +kernel
theorem dX1_signHere_36 : decode cX1_signHere 36 = .ok (.ireturn, 1) := by decide +kernel
theorem dX1_readHead_0 : decode cX1_readHead 0 = .ok (.aload_n 0, 1) := by decide +kernel
theorem dX1_readHead_1 : decode cX1_readHead 1 = .ok (.aload_n 1, 1) := by decide +kernel
theorem dX1_readHead_2 : decode cX1_readHead 2 = .ok (.iload_n 2, 1) := by decide +kernel
theorem dX1_readHead_3 : decode cX1_readHead 3 = .ok (.invokevirtual 51, 3) := by decide +kernel
theorem dX1_readHead_6 : decode cX1_readHead 6 = .ok (.bipush 104, 2) := by decide +kernel
theorem dX1_readHead_8 : decode cX1_readHead 8 = .ok (.if_icmp .eq 5, 3) := by decide +kernel
theorem dX1_readHead_11 : decode cX1_readHead 11 = .ok (.iconst 0, 1) := by decide +kernel
theorem dX1_readHead_12 : decode cX1_readHead 12 = .ok (.ireturn, 1) := by decide +kernel
theorem dX1_readHead_13 : decode cX1_readHead 13 = .ok (.aload_n 0, 1) := by decide +kernel
theorem dX1_readHead_14 : decode cX1_readHead 14 = .ok (.dup, 1) := by decide +kernel
theorem dX1_readHead_15 : decode cX1_readHead 15 = .ok (.getfield 37, 3) := by decide +kernel
theorem dX1_readHead_18 : decode cX1_readHead 18 = .ok (.iconst 1, 1) := by decide +kernel
theorem dX1_readHead_19 : decode cX1_readHead 19 = .ok (.iadd, 1) := by decide +kernel
theorem dX1_readHead_20 : decode cX1_readHead 20 = .ok (.putfield 37, 3) := by decide +kernel
theorem dX1_readHead_23 : decode cX1_readHead 23 = .ok (.aload_n 0, 1) := by decide +kernel
theorem dX1_readHead_24 : decode cX1_readHead 24 = .ok (.aload_n 0, 1) := by decide +kernel
theorem dX1_readHead_25 : decode cX1_readHead 25 = .ok (.aload_n 1, 1) := by decide +kernel
theorem dX1_readHead_26 : decode cX1_readHead 26 = .ok (.iload_n 2, 1) := by decide +kernel
theorem dX1_readHead_27 : decode cX1_readHead 27 = .ok (.invokevirtual 55, 3) := by decide +kernel
theorem dX1_readHead_30 : decode cX1_readHead 30 = .ok (.putfield 31, 3) := by decide +kernel
theorem dX1_readHead_33 : decode cX1_readHead 33 = .ok (.aload_n 0, 1) := by decide +kernel
theorem dX1_readHead_34 : decode cX1_readHead 34 = .ok (.getfield 31, 3) := by decide +kernel
theorem dX1_readHead_37 : decode cX1_readHead 37 = .ok (.ifCond .ge 5, 3) := by decide +kernel
theorem dX1_readHead_40 : decode cX1_readHead 40 = .ok (.iconst 0, 1) := by decide +kernel
theorem dX1_readHead_41 : decode cX1_readHead 41 = .ok (.ireturn, 1) := by decide +kernel
theorem dX1_readHead_42 : decode cX1_readHead 42 = .ok (.aload_n 0, 1) := by decide +kernel
theorem dX1_readHead_43 : decode cX1_readHead 43 = .ok (.aload_n 0, 1) := by decide +kernel
theorem dX1_readHead_44 : decode cX1_readHead 44 = .ok (.aload_n 1, 1) := by decide +kernel
theorem dX1_readHead_45 : decode cX1_readHead 45 = .ok (.iload_n 2, 1) := by decide +kernel
theorem dX1_readHead_46 : decode cX1_readHead 46 = .ok (.iconst 1, 1) := by decide +kernel
theorem dX1_readHead_47 : decode cX1_readHead 47 = .ok (.invokevirtual 58, 3) := by decide +kernel
theorem dX1_readHead_50 : decode cX1_readHead 50 = .ok (.putfield 34, 3) := by decide +kernel
theorem dX1_readHead_53 : decode cX1_readHead 53 = .ok (.aload_n 0, 1) := by decide +kernel
theorem dX1_readHead_54 : decode cX1_readHead 54 = .ok (.getfield 34, 3) := by decide +kernel
theorem dX1_readHead_57 : decode cX1_readHead 57 = .ok (.ifCond .le 7, 3) := by decide +kernel
theorem dX1_readHead_60 : decode cX1_readHead 60 = .ok (.iconst 1, 1) := by decide +kernel
theorem dX1_readHead_61 : decode cX1_readHead 61 = .ok (.goto 4, 3) := by decide +kernel
theorem dX1_readHead_64 : decode cX1_readHead 64 = .ok (.iconst 0, 1) := by decide +kernel
theorem dX1_readHead_65 : decode cX1_readHead 65 = .ok (.ireturn, 1) := by decide +kernel
theorem dX1_readShip_0 : decode cX1_readShip 0 = .ok (.aload_n 0, 1) := by decide +kernel
theorem dX1_readShip_1 : decode cX1_readShip 1 = .ok (.aload_n 1, 1) := by decide +kernel
theorem dX1_readShip_2 : decode cX1_readShip 2 = .ok (.iload_n 2, 1) := by decide +kernel
theorem dX1_readShip_3 : decode cX1_readShip 3 = .ok (.invokevirtual 51, 3) := by decide +kernel
theorem dX1_readShip_6 : decode cX1_readShip 6 = .ok (.invokestatic 62, 3) := by decide +kernel
theorem dX1_readShip_9 : decode cX1_readShip 9 = .ok (.istore_n 3, 1) := by decide +kernel
theorem dX1_readShip_10 : decode cX1_readShip 10 = .ok (.iload_n 3, 1) := by decide +kernel
theorem dX1_readShip_11 : decode cX1_readShip 11 = .ok (.ifCond .lt 19, 3) := by decide +kernel
theorem dX1_readShip_14 : decode cX1_readShip 14 = .ok (.aload_n 0, 1) := by decide +kernel
theorem dX1_readShip_15 : decode cX1_readShip 15 = .ok (.getfield 27, 3) := by decide +kernel
theorem dX1_readShip_18 : decode cX1_readShip 18 = .ok (.ifCond .lt 12, 3) := by decide +kernel
theorem dX1_readShip_21 : decode cX1_readShip 21 = .ok (.aload_n 0, 1) := by decide +kernel
theorem dX1_readShip_22 : decode cX1_readShip 22 = .ok (.getfield 27, 3) := by decide +kernel
theorem dX1_readShip_25 : decode cX1_readShip 25 = .ok (.bipush 6, 2) := by decide +kernel
theorem dX1_readShip_27 : decode cX1_readShip 27 = .ok (.if_icmp .lt 5, 3) := by decide +kernel
theorem dX1_readShip_30 : decode cX1_readShip 30 = .ok (.iconst 0, 1) := by decide +kernel
theorem dX1_readShip_31 : decode cX1_readShip 31 = .ok (.ireturn, 1) := by decide +kernel
theorem dX1_readShip_32 : decode cX1_readShip 32 = .ok (.aload_n 0, 1) := by decide +kernel
theorem dX1_readShip_33 : decode cX1_readShip 33 = .ok (.dup, 1) := by decide +kernel
theorem dX1_readShip_34 : decode cX1_readShip 34 = .ok (.getfield 37, 3) := by decide +kernel
theorem dX1_readShip_37 : decode cX1_readShip 37 = .ok (.iconst 1, 1) := by decide +kernel
theorem dX1_readShip_38 : decode cX1_readShip 38 = .ok (.iadd, 1) := by decide +kernel
theorem dX1_readShip_39 : decode cX1_readShip 39 = .ok (.putfield 37, 3) := by decide +kernel
theorem dX1_readShip_42 : decode cX1_readShip 42 = .ok (.aload_n 0, 1) := by decide +kernel
theorem dX1_readShip_43 : decode cX1_readShip 43 = .ok (.getfield 9, 3) := by decide +kernel
theorem dX1_readShip_46 : decode cX1_readShip 46 = .ok (.aload_n 0, 1) := by decide +kernel
theorem dX1_readShip_47 : decode cX1_readShip 47 = .ok (.getfield 27, 3) := by decide +kernel
theorem dX1_readShip_50 : decode cX1_readShip 50 = .ok (.iload_n 3, 1) := by decide +kernel
theorem dX1_readShip_51 : decode cX1_readShip 51 = .ok (.iastore, 1) := by decide +kernel
theorem dX1_readShip_52 : decode cX1_readShip 52 = .ok (.aload_n 0, 1) := by decide +kernel
theorem dX1_readShip_53 : decode cX1_readShip 53 = .ok (.getfield 15, 3) := by decide +kernel
theorem dX1_readShip_56 : decode cX1_readShip 56 = .ok (.aload_n 0, 1) := by decide +kernel
theorem dX1_readShip_57 : decode cX1_readShip 57 = .ok (.getfield 27, 3) := by decide +kernel
theorem dX1_readShip_60 : decode cX1_readShip 60 = .ok (.aload_n 0, 1) := by decide +kernel
theorem dX1_readShip_61 : decode cX1_readShip 61 = .ok (.aload_n 1, 1) := by decide +kernel
theorem dX1_readShip_62 : decode cX1_readShip 62 = .ok (.iload_n 2, 1) := by decide +kernel
theorem dX1_readShip_63 : decode cX1_readShip 63 = .ok (.invokevirtual 55, 3) := by decide +kernel
theorem dX1_readShip_66 : decode cX1_readShip 66 = .ok (.iastore, 1) := by decide +kernel
theorem dX1_readShip_67 : decode cX1_readShip 67 = .ok (.aload_n 0, 1) := by decide +kernel
theorem dX1_readShip_68 : decode cX1_readShip 68 = .ok (.getfield 15, 3) := by decide +kernel
theorem dX1_readShip_71 : decode cX1_readShip 71 = .ok (.aload_n 0, 1) := by decide +kernel
theorem dX1_readShip_72 : decode cX1_readShip 72 = .ok (.getfield 27, 3) := by decide +kernel
theorem dX1_readShip_75 : decode cX1_readShip 75 = .ok (.iaload, 1) := by decide +kernel
theorem dX1_readShip_76 : decode cX1_readShip 76 = .ok (.ifCond .ge 5, 3) := by decide +kernel
theorem dX1_readShip_79 : decode cX1_readShip 79 = .ok (.iconst 0, 1) := by decide +kernel
theorem dX1_readShip_80 : decode cX1_readShip 80 = .ok (.ireturn, 1) := by decide +kernel
theorem dX1_readShip_81 : decode cX1_readShip 81 = .ok (.aload_n 0, 1) := by decide +kernel
theorem dX1_readShip_82 : decode cX1_readShip 82 = .ok (.getfield 18, 3) := by decide +kernel
theorem dX1_readShip_85 : decode cX1_readShip 85 = .ok (.aload_n 0, 1) := by decide +kernel
theorem dX1_readShip_86 : decode cX1_readShip 86 = .ok (.getfield 27, 3) := by decide +kernel
theorem dX1_readShip_89 : decode cX1_readShip 89 = .ok (.aload_n 0, 1) := by decide +kernel
theorem dX1_readShip_90 : decode cX1_readShip 90 = .ok (.aload_n 1, 1) := by decide +kernel
theorem dX1_readShip_91 : decode cX1_readShip 91 = .ok (.iload_n 2, 1) := by decide +kernel
theorem dX1_readShip_92 : decode cX1_readShip 92 = .ok (.iconst 0, 1) := by decide +kernel
theorem dX1_readShip_93 : decode cX1_readShip 93 = .ok (.invokevirtual 58, 3) := by decide +kernel
theorem dX1_readShip_96 : decode cX1_readShip 96 = .ok (.iastore, 1) := by decide +kernel
theorem dX1_readShip_97 : decode cX1_readShip 97 = .ok (.aload_n 0, 1) := by decide +kernel
theorem dX1_readShip_98 : decode cX1_readShip 98 = .ok (.getfield 18, 3) := by decide +kernel
theorem dX1_readShip_101 : decode cX1_readShip 101 = .ok (.aload_n 0, 1) := by decide +kernel
theorem dX1_readShip_102 : decode cX1_readShip 102 = .ok (.getfield 27, 3) := by decide +kernel
theorem dX1_readShip_105 : decode cX1_readShip 105 = .ok (.iaload, 1) := by decide +kernel
theorem dX1_readShip_106 : decode cX1_readShip 106 = .ok (.ifCond .ge 5, 3) := by decide +kernel
theorem dX1_readShip_109 : decode cX1_readShip 109 = .ok (.iconst 0, 1) := by decide +kernel
theorem dX1_readShip_110 : decode cX1_readShip 110 = .ok (.ireturn, 1) := by decide +kernel
theorem dX1_readShip_111 : decode cX1_readShip 111 = .ok (.aload_n 0, 1) := by decide +kernel
theorem dX1_readShip_112 : decode cX1_readShip 112 = .ok (.getfield 21, 3) := by decide +kernel
theorem dX1_readShip_115 : decode cX1_readShip 115 = .ok (.aload_n 0, 1) := by decide +kernel
theorem dX1_readShip_116 : decode cX1_readShip 116 = .ok (.getfield 27, 3) := by decide +kernel
theorem dX1_readShip_119 : decode cX1_readShip 119 = .ok (.aload_n 0, 1) := by decide +kernel
theorem dX1_readShip_120 : decode cX1_readShip 120 = .ok (.aload_n 1, 1) := by decide +kernel
theorem dX1_readShip_121 : decode cX1_readShip 121 = .ok (.iload_n 2, 1) := by decide +kernel
theorem dX1_readShip_122 : decode cX1_readShip 122 = .ok (.iconst 0, 1) := by decide +kernel
theorem dX1_readShip_123 : decode cX1_readShip 123 = .ok (.invokevirtual 58, 3) := by decide +kernel
theorem dX1_readShip_126 : decode cX1_readShip 126 = .ok (.iastore, 1) := by decide +kernel
theorem dX1_readShip_127 : decode cX1_readShip 127 = .ok (.aload_n 0, 1) := by decide +kernel
theorem dX1_readShip_128 : decode cX1_readShip 128 = .ok (.getfield 21, 3) := by decide +kernel
theorem dX1_readShip_131 : decode cX1_readShip 131 = .ok (.aload_n 0, 1) := by decide +kernel
theorem dX1_readShip_132 : decode cX1_readShip 132 = .ok (.getfield 27, 3) := by decide +kernel
theorem dX1_readShip_135 : decode cX1_readShip 135 = .ok (.iaload, 1) := by decide +kernel
theorem dX1_readShip_136 : decode cX1_readShip 136 = .ok (.ifCond .ge 5, 3) := by decide +kernel
theorem dX1_readShip_139 : decode cX1_readShip 139 = .ok (.iconst 0, 1) := by decide +kernel
theorem dX1_readShip_140 : decode cX1_readShip 140 = .ok (.ireturn, 1) := by decide +kernel
theorem dX1_readShip_141 : decode cX1_readShip 141 = .ok (.aload_n 0, 1) := by decide +kernel
theorem dX1_readShip_142 : decode cX1_readShip 142 = .ok (.getfield 24, 3) := by decide +kernel
theorem dX1_readShip_145 : decode cX1_readShip 145 = .ok (.aload_n 0, 1) := by decide +kernel
theorem dX1_readShip_146 : decode cX1_readShip 146 = .ok (.getfield 27, 3) := by decide +kernel
theorem dX1_readShip_149 : decode cX1_readShip 149 = .ok (.aload_n 0, 1) := by decide +kernel
theorem dX1_readShip_150 : decode cX1_readShip 150 = .ok (.aload_n 1, 1) := by decide +kernel
theorem dX1_readShip_151 : decode cX1_readShip 151 = .ok (.iload_n 2, 1) := by decide +kernel
theorem dX1_readShip_152 : decode cX1_readShip 152 = .ok (.iconst 0, 1) := by decide +kernel
theorem dX1_readShip_153 : decode cX1_readShip 153 = .ok (.invokevirtual 58, 3) := by decide +kernel
theorem dX1_readShip_156 : decode cX1_readShip 156 = .ok (.iastore, 1) := by decide +kernel
theorem dX1_readShip_157 : decode cX1_readShip 157 = .ok (.aload_n 0, 1) := by decide +kernel
theorem dX1_readShip_158 : decode cX1_readShip 158 = .ok (.getfield 24, 3) := by decide +kernel
theorem dX1_readShip_161 : decode cX1_readShip 161 = .ok (.aload_n 0, 1) := by decide +kernel
theorem dX1_readShip_162 : decode cX1_readShip 162 = .ok (.getfield 27, 3) := by decide +kernel
theorem dX1_readShip_165 : decode cX1_readShip 165 = .ok (.iaload, 1) := by decide +kernel
theorem dX1_readShip_166 : decode cX1_readShip 166 = .ok (.ifCond .ge 5, 3) := by decide +kernel
theorem dX1_readShip_169 : decode cX1_readShip 169 = .ok (.iconst 0, 1) := by decide +kernel
theorem dX1_readShip_170 : decode cX1_readShip 170 = .ok (.ireturn, 1) := by decide +kernel
theorem dX1_readShip_171 : decode cX1_readShip 171 = .ok (.aload_n 0, 1) := by decide +kernel
theorem dX1_readShip_172 : decode cX1_readShip 172 = .ok (.dup, 1) := by decide +kernel
theorem dX1_readShip_173 : decode cX1_readShip 173 = .ok (.getfield 27, 3) := by decide +kernel
theorem dX1_readShip_176 : decode cX1_readShip 176 = .ok (.iconst 1, 1) := by decide +kernel
theorem dX1_readShip_177 : decode cX1_readShip 177 = .ok (.iadd, 1) := by decide +kernel
theorem dX1_readShip_178 : decode cX1_readShip 178 = .ok (.putfield 27, 3) := by decide +kernel
theorem dX1_readShip_181 : decode cX1_readShip 181 = .ok (.iconst 1, 1) := by decide +kernel
theorem dX1_readShip_182 : decode cX1_readShip 182 = .ok (.ireturn, 1) := by decide +kernel
theorem dX1_readTwoFigures_0 : decode cX1_readTwoFigures 0 = .ok (.aload_n 0, 1) := by decide +kernel
theorem dX1_readTwoFigures_1 : decode cX1_readTwoFigures 1 = .ok (.aload_n 1, 1) := by decide +kernel
theorem dX1_readTwoFigures_2 : decode cX1_readTwoFigures 2 = .ok (.iload_n 2, 1) := by decide +kernel
theorem dX1_readTwoFigures_3 : decode cX1_readTwoFigures 3 = .ok (.iconst 0, 1) := by decide +kernel
theorem dX1_readTwoFigures_4 : decode cX1_readTwoFigures 4 = .ok (.invokevirtual 58, 3) := by decide +kernel
theorem dX1_readTwoFigures_7 : decode cX1_readTwoFigures 7 = .ok (.istore_n 3, 1) := by decide +kernel
theorem dX1_readTwoFigures_8 : decode cX1_readTwoFigures 8 = .ok (.iload_n 3, 1) := by decide +kernel
theorem dX1_readTwoFigures_9 : decode cX1_readTwoFigures 9 = .ok (.ifCond .ge 7, 3) := by decide +kernel
theorem dX1_readTwoFigures_12 : decode cX1_readTwoFigures 12 = .ok (.iconst (-1), 1) := by decide +kernel
theorem dX1_readTwoFigures_13 : decode cX1_readTwoFigures 13 = .ok (.goto 10, 3) := by decide +kernel
theorem dX1_readTwoFigures_16 : decode cX1_readTwoFigures 16 = .ok (.aload_n 0, 1) := by decide +kernel
theorem dX1_readTwoFigures_17 : decode cX1_readTwoFigures 17 = .ok (.aload_n 1, 1) := by decide +kernel
theorem dX1_readTwoFigures_18 : decode cX1_readTwoFigures 18 = .ok (.iload_n 2, 1) := by decide +kernel
theorem dX1_readTwoFigures_19 : decode cX1_readTwoFigures 19 = .ok (.iconst 0, 1) := by decide +kernel
theorem dX1_readTwoFigures_20 : decode cX1_readTwoFigures 20 = .ok (.invokevirtual 58, 3) := by decide +kernel
theorem dX1_readTwoFigures_23 : decode cX1_readTwoFigures 23 = .ok (.istore 4, 2) := by decide +kernel
theorem dX1_readTwoFigures_25 : decode cX1_readTwoFigures 25 = .ok (.iload 4, 2) := by decide +kernel
theorem dX1_readTwoFigures_27 : decode cX1_readTwoFigures 27 = .ok (.ifCond .ge 7, 3) := by decide +kernel
theorem dX1_readTwoFigures_30 : decode cX1_readTwoFigures 30 = .ok (.iconst (-1), 1) := by decide +kernel
theorem dX1_readTwoFigures_31 : decode cX1_readTwoFigures 31 = .ok (.goto 10, 3) := by decide +kernel
theorem dX1_readTwoFigures_34 : decode cX1_readTwoFigures 34 = .ok (.bipush 10, 2) := by decide +kernel
theorem dX1_readTwoFigures_36 : decode cX1_readTwoFigures 36 = .ok (.iload_n 3, 1) := by decide +kernel
theorem dX1_readTwoFigures_37 : decode cX1_readTwoFigures 37 = .ok (.imul, 1) := by decide +kernel
theorem dX1_readTwoFigures_38 : decode cX1_readTwoFigures 38 = .ok (.iload 4, 2) := by decide +kernel
theorem dX1_readTwoFigures_40 : decode cX1_readTwoFigures 40 = .ok (.iadd, 1) := by decide +kernel
theorem dX1_readTwoFigures_41 : decode cX1_readTwoFigures 41 = .ok (.ireturn, 1) := by decide +kernel
theorem dX1_readFigure_0 : decode cX1_readFigure 0 = .ok (.aload_n 0, 1) := by decide +kernel
theorem dX1_readFigure_1 : decode cX1_readFigure 1 = .ok (.aload_n 1, 1) := by decide +kernel
theorem dX1_readFigure_2 : decode cX1_readFigure 2 = .ok (.iload_n 2, 1) := by decide +kernel
theorem dX1_readFigure_3 : decode cX1_readFigure 3 = .ok (.invokevirtual 51, 3) := by decide +kernel
theorem dX1_readFigure_6 : decode cX1_readFigure 6 = .ok (.istore 4, 2) := by decide +kernel
theorem dX1_readFigure_8 : decode cX1_readFigure 8 = .ok (.iload 4, 2) := by decide +kernel
theorem dX1_readFigure_10 : decode cX1_readFigure 10 = .ok (.bipush 48, 2) := by decide +kernel
theorem dX1_readFigure_12 : decode cX1_readFigure 12 = .ok (.iload_n 3, 1) := by decide +kernel
theorem dX1_readFigure_13 : decode cX1_readFigure 13 = .ok (.iadd, 1) := by decide +kernel
theorem dX1_readFigure_14 : decode cX1_readFigure 14 = .ok (.if_icmp .lt 10, 3) := by decide +kernel
theorem dX1_readFigure_17 : decode cX1_readFigure 17 = .ok (.iload 4, 2) := by decide +kernel
theorem dX1_readFigure_19 : decode cX1_readFigure 19 = .ok (.bipush 57, 2) := by decide +kernel
theorem dX1_readFigure_21 : decode cX1_readFigure 21 = .ok (.if_icmp .le 5, 3) := by decide +kernel
theorem dX1_readFigure_24 : decode cX1_readFigure 24 = .ok (.iconst (-1), 1) := by decide +kernel
theorem dX1_readFigure_25 : decode cX1_readFigure 25 = .ok (.ireturn, 1) := by decide +kernel
theorem dX1_readFigure_26 : decode cX1_readFigure 26 = .ok (.aload_n 0, 1) := by decide +kernel
theorem dX1_readFigure_27 : decode cX1_readFigure 27 = .ok (.dup, 1) := by decide +kernel
theorem dX1_readFigure_28 : decode cX1_readFigure 28 = .ok (.getfield 37, 3) := by decide +kernel
theorem dX1_readFigure_31 : decode cX1_readFigure 31 = .ok (.iconst 1, 1) := by decide +kernel
theorem dX1_readFigure_32 : decode cX1_readFigure 32 = .ok (.iadd, 1) := by decide +kernel
theorem dX1_readFigure_33 : decode cX1_readFigure 33 = .ok (.putfield 37, 3) := by decide +kernel
theorem dX1_readFigure_36 : decode cX1_readFigure 36 = .ok (.iload 4, 2) := by decide +kernel
theorem dX1_readFigure_38 : decode cX1_readFigure 38 = .ok (.bipush 48, 2) := by decide +kernel
theorem dX1_readFigure_40 : decode cX1_readFigure 40 = .ok (.isub, 1) := by decide +kernel
theorem dX1_readFigure_41 : decode cX1_readFigure 41 = .ok (.ireturn, 1) := by decide +kernel
theorem dX1_kindOf_0 : decode cX1_kindOf 0 = .ok (.iconst 0, 1) := by decide +kernel
theorem dX1_kindOf_1 : decode cX1_kindOf 1 = .ok (.istore_n 1, 1) := by decide +kernel
theorem dX1_kindOf_2 : decode cX1_kindOf 2 = .ok (.iload_n 1, 1) := by decide +kernel
theorem dX1_kindOf_3 : decode cX1_kindOf 3 = .ok (.getstatic 66, 3) := by decide +kernel
theorem dX1_kindOf_6 : decode cX1_kindOf 6 = .ok (.arraylength, 1) := by decide +kernel
theorem dX1_kindOf_7 : decode cX1_kindOf 7 = .ok (.if_icmp .ge 20, 3) := by decide +kernel
theorem dX1_kindOf_10 : decode cX1_kindOf 10 = .ok (.getstatic 66, 3) := by decide +kernel
theorem dX1_kindOf_13 : decode cX1_kindOf 13 = .ok (.iload_n 1, 1) := by decide +kernel
theorem dX1_kindOf_14 : decode cX1_kindOf 14 = .ok (.iaload, 1) := by decide +kernel
theorem dX1_kindOf_15 : decode cX1_kindOf 15 = .ok (.iload_n 0, 1) := by decide +kernel
theorem dX1_kindOf_16 : decode cX1_kindOf 16 = .ok (.if_icmp .ne 5, 3) := by decide +kernel
theorem dX1_kindOf_19 : decode cX1_kindOf 19 = .ok (.iload_n 1, 1) := by decide +kernel
theorem dX1_kindOf_20 : decode cX1_kindOf 20 = .ok (.ireturn, 1) := by decide +kernel
theorem dX1_kindOf_21 : decode cX1_kindOf 21 = .ok (.iinc 1 1, 3) := by decide +kernel
theorem dX1_kindOf_24 : decode cX1_kindOf 24 = .ok (.goto (-22), 3) := by decide +kernel
theorem dX1_kindOf_27 : decode cX1_kindOf 27 = .ok (.iconst (-1), 1) := by decide +kernel
theorem dX1_kindOf_28 : decode cX1_kindOf 28 = .ok (.ireturn, 1) := by decide +kernel
theorem dX2_init_0 : decode cX2_init 0 = .ok (.aload_n 0, 1) := by decide +kernel
theorem dX2_init_1 : decode cX2_init 1 = .ok (.invokespecial 3, 3) := by decide +kernel
theorem dX2_init_4 : decode cX2_init 4 = .ok (.aload_n 0, 1) := by decide +kernel
theorem dX2_init_5 : decode cX2_init 5 = .ok (.new 9, 3) := by decide +kernel
theorem dX2_init_8 : decode cX2_init 8 = .ok (.dup, 1) := by decide +kernel
theorem dX2_init_9 : decode cX2_init 9 = .ok (.invokespecial 11, 3) := by decide +kernel
theorem dX2_init_12 : decode cX2_init 12 = .ok (.putfield 12, 3) := by decide +kernel
theorem dX2_init_15 : decode cX2_init 15 = .ok (.aload_n 0, 1) := by decide +kernel
theorem dX2_init_16 : decode cX2_init 16 = .ok (.bipush 6, 2) := by decide +kernel
theorem dX2_init_18 : decode cX2_init 18 = .ok (.newarray .int, 2) := by decide +kernel
theorem dX2_init_20 : decode cX2_init 20 = .ok (.putfield 18, 3) := by decide +kernel
theorem dX2_init_23 : decode cX2_init 23 = .ok (.aload_n 0, 1) := by decide +kernel
theorem dX2_init_24 : decode cX2_init 24 = .ok (.bipush 6, 2) := by decide +kernel
theorem dX2_init_26 : decode cX2_init 26 = .ok (.newarray .int, 2) := by decide +kernel
theorem dX2_init_28 : decode cX2_init 28 = .ok (.putfield 22, 3) := by decide +kernel
theorem dX2_init_31 : decode cX2_init 31 = .ok (.aload_n 0, 1) := by decide +kernel
theorem dX2_init_32 : decode cX2_init 32 = .ok (.bipush 40, 2) := by decide +kernel
theorem dX2_init_34 : decode cX2_init 34 = .ok (.newarray .int, 2) := by decide +kernel
theorem dX2_init_36 : decode cX2_init 36 = .ok (.putfield 25, 3) := by decide +kernel
theorem dX2_init_39 : decode cX2_init 39 = .ok (.aload_n 0, 1) := by decide +kernel
theorem dX2_init_40 : decode cX2_init 40 = .ok (.bipush 6, 2) := by decide +kernel
theorem dX2_init_42 : decode cX2_init 42 = .ok (.newarray .int, 2) := by decide +kernel
theorem dX2_init_44 : decode cX2_init 44 = .ok (.putfield 28, 3) := by decide +kernel
theorem dX2_init_47 : decode cX2_init 47 = .ok (.aload_n 0, 1) := by decide +kernel
theorem dX2_init_48 : decode cX2_init 48 = .ok (.bipush 6, 2) := by decide +kernel
theorem dX2_init_50 : decode cX2_init 50 = .ok (.newarray .int, 2) := by decide +kernel
theorem dX2_init_52 : decode cX2_init 52 = .ok (.putfield 31, 3) := by decide +kernel
theorem dX2_init_55 : decode cX2_init 55 = .ok (.aload_n 0, 1) := by decide +kernel
theorem dX2_init_56 : decode cX2_init 56 = .ok (.iconst 0, 1) := by decide +kernel
theorem dX2_init_57 : decode cX2_init 57 = .ok (.putfield 34, 3) := by decide +kernel
theorem dX2_init_60 : decode cX2_init 60 = .ok (.aload_n 0, 1) := by decide +kernel
theorem dX2_init_61 : decode cX2_init 61 = .ok (.iconst 0, 1) := by decide +kernel
theorem dX2_init_62 : decode cX2_init 62 = .ok (.putfield 38, 3) := by decide +kernel
theorem dX2_init_65 : decode cX2_init 65 = .ok (.aload_n 0, 1) := by decide +kernel
theorem dX2_init_66 : decode cX2_init 66 = .ok (.iconst 0, 1) := by decide +kernel
theorem dX2_init_67 : decode cX2_init 67 = .ok (.putfield 41, 3) := by decide +kernel
theorem dX2_init_70 : decode cX2_init 70 = .ok (.aload_n 0, 1) := by decide +kernel
theorem dX2_init_71 : decode cX2_init 71 = .ok (.iconst 0, 1) := by decide +kernel
theorem dX2_init_72 : decode cX2_init 72 = .ok (.putfield 44, 3) := by decide +kernel
theorem dX2_init_75 : decode cX2_init 75 = .ok (.aload_n 0, 1) := by decide +kernel
theorem dX2_init_76 : decode cX2_init 76 = .ok (.iconst 0, 1) := by decide +kernel
theorem dX2_init_77 : decode cX2_init 77 = .ok (.putfield 47, 3) := by decide +kernel
theorem dX2_init_80 : decode cX2_init 80 = .ok (.aload_n 0, 1) := by decide +kernel
theorem dX2_init_81 : decode cX2_init 81 = .ok (.iconst 0, 1) := by decide +kernel
theorem dX2_init_82 : decode cX2_init 82 = .ok (.putfield 50, 3) := by decide +kernel
theorem dX2_init_85 : decode cX2_init 85 = .ok (.return_, 1) := by decide +kernel
theorem dX2_begin_0 : decode cX2_begin 0 = .ok (.aload_n 0, 1) := by decide +kernel
theorem dX2_begin_1 : decode cX2_begin 1 = .ok (.getfield 18, 3) := by decide +kernel
theorem dX2_begin_4 : decode cX2_begin 4 = .ok (.iconst 0, 1) := by decide +kernel
theorem dX2_begin_5 : decode cX2_begin 5 = .ok (.invokestatic 53, 3) := by decide +kernel
theorem dX2_begin_8 : decode cX2_begin 8 = .ok (.aload_n 0, 1) := by decide +kernel
theorem dX2_begin_9 : decode cX2_begin 9 = .ok (.getfield 22, 3) := by decide +kernel
theorem dX2_begin_12 : decode cX2_begin 12 = .ok (.iconst 0, 1) := by decide +kernel
theorem dX2_begin_13 : decode cX2_begin 13 = .ok (.invokestatic 53, 3) := by decide +kernel
theorem dX2_begin_16 : decode cX2_begin 16 = .ok (.aload_n 0, 1) := by decide +kernel
theorem dX2_begin_17 : decode cX2_begin 17 = .ok (.iconst 0, 1) := by decide +kernel
theorem dX2_begin_18 : decode cX2_begin 18 = .ok (.putfield 34, 3) := by decide +kernel
theorem dX2_begin_21 : decode cX2_begin 21 = .ok (.aload_n 0, 1) := by decide +kernel
theorem dX2_begin_22 : decode cX2_begin 22 = .ok (.aload_n 0, 1) := by decide +kernel
theorem dX2_begin_23 : decode cX2_begin 23 = .ok (.getfield 12, 3) := by decide +kernel
theorem dX2_begin_26 : decode cX2_begin 26 = .ok (.getfield 59, 3) := by decide +kernel
theorem dX2_begin_29 : decode cX2_begin 29 = .ok (.putfield 38, 3) := by decide +kernel
theorem dX2_begin_32 : decode cX2_begin 32 = .ok (.aload_n 0, 1) := by decide +kernel
theorem dX2_begin_33 : decode cX2_begin 33 = .ok (.aload_n 0, 1) := by decide +kernel
theorem dX2_begin_34 : decode cX2_begin 34 = .ok (.getfield 12, 3) := by decide +kernel
theorem dX2_begin_37 : decode cX2_begin 37 = .ok (.getfield 62, 3) := by decide +kernel
theorem dX2_begin_40 : decode cX2_begin 40 = .ok (.putfield 41, 3) := by decide +kernel
theorem dX2_begin_43 : decode cX2_begin 43 = .ok (.aload_n 0, 1) := by decide +kernel
theorem dX2_begin_44 : decode cX2_begin 44 = .ok (.iconst 0, 1) := by decide +kernel
theorem dX2_begin_45 : decode cX2_begin 45 = .ok (.putfield 44, 3) := by decide +kernel
theorem dX2_begin_48 : decode cX2_begin 48 = .ok (.aload_n 0, 1) := by decide +kernel
theorem dX2_begin_49 : decode cX2_begin 49 = .ok (.iconst 0, 1) := by decide +kernel
theorem dX2_begin_50 : decode cX2_begin 50 = .ok (.putfield 47, 3) := by decide +kernel
theorem dX2_begin_53 : decode cX2_begin 53 = .ok (.aload_n 0, 1) := by decide +kernel
theorem dX2_begin_54 : decode cX2_begin 54 = .ok (.iconst 0, 1) := by decide +kernel
theorem dX2_begin_55 : decode cX2_begin 55 = .ok (.putfield 50, 3) := by decide +kernel
theorem dX2_begin_58 : decode cX2_begin 58 = .ok (.aload_n 0, 1) := by decide +kernel
theorem dX2_begin_59 : decode cX2_begin 59 = .ok (.invokevirtual 65, 3) := by decide +kernel
theorem dX2_begin_62 : decode cX2_begin 62 = .ok (.return_, 1) := by decide +kernel
theorem dX2_settle_0 : decode cX2_settle 0 = .ok (.iconst 0, 1) := by decide +kernel
theorem dX2_settle_1 : decode cX2_settle 1 = .ok (.istore_n 1, 1) := by decide +kernel
theorem dX2_settle_2 : decode cX2_settle 2 = .ok (.iload_n 1, 1) := by decide +kernel
theorem dX2_settle_3 : decode cX2_settle 3 = .ok (.aload_n 0, 1) := by decide +kernel
theorem dX2_settle_4 : decode cX2_settle 4 = .ok (.getfield 12, 3) := by decide +kernel
theorem dX2_settle_7 : decode cX2_settle 7 = .ok (.getfield 68, 3) := by decide +kernel
theorem dX2_settle_10 : decode cX2_settle 10 = .ok (.if_icmp .ge 33, 3) := by decide +kernel
theorem dX2_settle_13 : decode cX2_settle 13 = .ok (.aload_n 0, 1) := by decide +kernel
theorem dX2_settle_14 : decode cX2_settle 14 = .ok (.getfield 28, 3) := by decide +kernel
theorem dX2_settle_17 : decode cX2_settle 17 = .ok (.iload_n 1, 1) := by decide +kernel
theorem dX2_settle_18 : decode cX2_settle 18 = .ok (.aload_n 0, 1) := by decide +kernel
theorem dX2_settle_19 : decode cX2_settle 19 = .ok (.iload_n 1, 1) := by decide +kernel
theorem dX2_settle_20 : decode cX2_settle 20 = .ok (.aload_n 0, 1) := by decide +kernel
theorem dX2_settle_21 : decode cX2_settle 21 = .ok (.getfield 12, 3) := by decide +kernel
theorem dX2_settle_24 : decode cX2_settle 24 = .ok (.getfield 71, 3) := by decide +kernel
theorem dX2_settle_27 : decode cX2_settle 27 = .ok (.iload_n 1, 1) := by decide +kernel
theorem dX2_settle_28 : decode cX2_settle 28 = .ok (.iaload, 1) := by decide +kernel
theorem dX2_settle_29 : decode cX2_settle 29 = .ok (.aload_n 0, 1) := by decide +kernel
theorem dX2_settle_30 : decode cX2_settle 30 = .ok (.getfield 38, 3) := by decide +kernel
theorem dX2_settle_33 : decode cX2_settle 33 = .ok (.invokevirtual 74, 3) := by decide +kernel
theorem dX2_settle_36 : decode cX2_settle 36 = .ok (.iastore, 1) := by decide +kernel
theorem dX2_settle_37 : decode cX2_settle 37 = .ok (.iinc 1 1, 3) := by decide +kernel
theorem dX2_settle_40 : decode cX2_settle 40 = .ok (.goto (-38), 3) := by decide +kernel
theorem dX2_settle_43 : decode cX2_settle 43 = .ok (.iconst 0, 1) := by decide +kernel
theorem dX2_settle_44 : decode cX2_settle 44 = .ok (.istore_n 1, 1) := by decide +kernel
theorem dX2_settle_45 : decode cX2_settle 45 = .ok (.iload_n 1, 1) := by decide +kernel
theorem dX2_settle_46 : decode cX2_settle 46 = .ok (.aload_n 0, 1) := by decide +kernel
theorem dX2_settle_47 : decode cX2_settle 47 = .ok (.getfield 12, 3) := by decide +kernel
theorem dX2_settle_50 : decode cX2_settle 50 = .ok (.getfield 68, 3) := by decide +kernel
theorem dX2_settle_53 : decode cX2_settle 53 = .ok (.if_icmp .ge 73, 3) := by decide +kernel
theorem dX2_settle_56 : decode cX2_settle 56 = .ok (.aload_n 0, 1) := by decide +kernel
theorem dX2_settle_57 : decode cX2_settle 57 = .ok (.getfield 31, 3) := by decide +kernel
theorem dX2_settle_60 : decode cX2_settle 60 = .ok (.iload_n 1, 1) := by decide +kernel
theorem dX2_settle_61 : decode cX2_settle 61 = .ok (.iconst 0, 1) := by decide +kernel
theorem dX2_settle_62 : decode cX2_settle 62 = .ok (.iastore, 1) := by decide +kernel
theorem dX2_settle_63 : decode cX2_settle 63 = .ok (.iconst 0, 1) := by decide +kernel
theorem dX2_settle_64 : decode cX2_settle 64 = .ok (.istore_n 2, 1) := by decide +kernel
theorem dX2_settle_65 : decode cX2_settle 65 = .ok (.iload_n 2, 1) := by decide +kernel
theorem dX2_settle_66 : decode cX2_settle 66 = .ok (.aload_n 0, 1) := by decide +kernel
theorem dX2_settle_67 : decode cX2_settle 67 = .ok (.getfield 12, 3) := by decide +kernel
theorem dX2_settle_70 : decode cX2_settle 70 = .ok (.getfield 68, 3) := by decide +kernel
theorem dX2_settle_73 : decode cX2_settle 73 = .ok (.if_icmp .ge 47, 3) := by decide +kernel
theorem dX2_settle_76 : decode cX2_settle 76 = .ok (.iload_n 2, 1) := by decide +kernel
theorem dX2_settle_77 : decode cX2_settle 77 = .ok (.iload_n 1, 1) := by decide +kernel
theorem dX2_settle_78 : decode cX2_settle 78 = .ok (.if_icmp .eq 36, 3) := by decide +kernel
theorem dX2_settle_81 : decode cX2_settle 81 = .ok (.aload_n 0, 1) := by decide +kernel
theorem dX2_settle_82 : decode cX2_settle 82 = .ok (.iload_n 2, 1) := by decide +kernel
theorem dX2_settle_83 : decode cX2_settle 83 = .ok (.aload_n 0, 1) := by decide +kernel
theorem dX2_settle_84 : decode cX2_settle 84 = .ok (.getfield 28, 3) := by decide +kernel
theorem dX2_settle_87 : decode cX2_settle 87 = .ok (.iload_n 2, 1) := by decide +kernel
theorem dX2_settle_88 : decode cX2_settle 88 = .ok (.iaload, 1) := by decide +kernel
theorem dX2_settle_89 : decode cX2_settle 89 = .ok (.iload_n 1, 1) := by decide +kernel
theorem dX2_settle_90 : decode cX2_settle 90 = .ok (.aload_n 0, 1) := by decide +kernel
theorem dX2_settle_91 : decode cX2_settle 91 = .ok (.getfield 28, 3) := by decide +kernel
theorem dX2_settle_94 : decode cX2_settle 94 = .ok (.iload_n 1, 1) := by decide +kernel
theorem dX2_settle_95 : decode cX2_settle 95 = .ok (.iaload, 1) := by decide +kernel
theorem dX2_settle_96 : decode cX2_settle 96 = .ok (.invokevirtual 78, 3) := by decide +kernel
theorem dX2_settle_99 : decode cX2_settle 99 = .ok (.ifCond .eq 15, 3) := by decide +kernel
theorem dX2_settle_102 : decode cX2_settle 102 = .ok (.aload_n 0, 1) := by decide +kernel
theorem dX2_settle_103 : decode cX2_settle 103 = .ok (.getfield 31, 3) := by decide +kernel
theorem dX2_settle_106 : decode cX2_settle 106 = .ok (.iload_n 1, 1) := by decide +kernel
theorem dX2_settle_107 : decode cX2_settle 107 = .ok (.dup2, 1) := by decide +kernel
theorem dX2_settle_108 : decode cX2_settle 108 = .ok (.iaload, 1) := by decide +kernel
theorem dX2_settle_109 : decode cX2_settle 109 = .ok (.iconst 1, 1) := by decide +kernel
theorem dX2_settle_110 : decode cX2_settle 110 = .ok (.iload_n 2, 1) := by decide +kernel
theorem dX2_settle_111 : decode cX2_settle 111 = .ok (.ishl, 1) := by decide +kernel
theorem dX2_settle_112 : decode cX2_settle 112 = .ok (.ior, 1) := by decide +kernel
theorem dX2_settle_113 : decode cX2_settle 113 = .ok (.iastore, 1) := by decide +kernel
theorem dX2_settle_114 : decode cX2_settle 114 = .ok (.iinc 2 1, 3) := by decide +kernel
theorem dX2_settle_117 : decode cX2_settle 117 = .ok (.goto (-52), 3) := by decide +kernel
theorem dX2_settle_120 : decode cX2_settle 120 = .ok (.iinc 1 1, 3) := by decide +kernel
theorem dX2_settle_123 : decode cX2_settle 123 = .ok (.goto (-78), 3) := by decide +kernel
theorem dX2_settle_126 : decode cX2_settle 126 = .ok (.return_, 1) := by decide +kernel
theorem dX2_replay_0 : decode cX2_replay 0 = .ok (.aload_n 0, 1) := by decide +kernel
theorem dX2_replay_1 : decode cX2_replay 1 = .ok (.invokevirtual 82, 3) := by decide +kernel
theorem dX2_replay_4 : decode cX2_replay 4 = .ok (.iconst 0, 1) := by decide +kernel
theorem dX2_replay_5 : decode cX2_replay 5 = .ok (.istore_n 3, 1) := by decide +kernel
theorem dX2_replay_6 : decode cX2_replay 6 = .ok (.iload_n 3, 1) := by decide +kernel
theorem dX2_replay_7 : decode cX2_replay 7 = .ok (.iload_n 2, 1) := by decide +kernel
theorem dX2_replay_8 : decode cX2_replay 8 = .ok (.if_icmp .ge 32, 3) := by decide +kernel
theorem dX2_replay_11 : decode cX2_replay 11 = .ok (.iload_n 3, 1) := by decide +kernel
theorem dX2_replay_12 : decode cX2_replay 12 = .ok (.aload_n 1, 1) := by decide +kernel
theorem dX2_replay_13 : decode cX2_replay 13 = .ok (.arraylength, 1) := by decide +kernel
theorem dX2_replay_14 : decode cX2_replay 14 = .ok (.if_icmp .ge 26, 3) := by decide +kernel
theorem dX2_replay_17 : decode cX2_replay 17 = .ok (.aload_n 0, 1) := by decide +kernel
theorem dX2_replay_18 : decode cX2_replay 18 = .ok (.aload_n 1, 1) := by decide +kernel
theorem dX2_replay_19 : decode cX2_replay 19 = .ok (.iload_n 3, 1) := by decide +kernel
theorem dX2_replay_20 : decode cX2_replay 20 = .ok (.iaload, 1) := by decide +kernel
theorem dX2_replay_21 : decode cX2_replay 21 = .ok (.bipush 6, 2) := by decide +kernel
theorem dX2_replay_23 : decode cX2_replay 23 = .ok (.idiv, 1) := by decide +kernel
theorem dX2_replay_24 : decode cX2_replay 24 = .ok (.aload_n 1, 1) := by decide +kernel
theorem dX2_replay_25 : decode cX2_replay 25 = .ok (.iload_n 3, 1) := by decide +kernel
theorem dX2_replay_26 : decode cX2_replay 26 = .ok (.iaload, 1) := by decide +kernel
theorem dX2_replay_27 : decode cX2_replay 27 = .ok (.bipush 6, 2) := by decide +kernel
theorem dX2_replay_29 : decode cX2_replay 29 = .ok (.irem, 1) := by decide +kernel
theorem dX2_replay_30 : decode cX2_replay 30 = .ok (.invokevirtual 85, 3) := by decide +kernel
theorem dX2_replay_33 : decode cX2_replay 33 = .ok (.pop, 1) := by decide +kernel
theorem dX2_replay_34 : decode cX2_replay 34 = .ok (.iinc 3 1, 3) := by decide +kernel
theorem dX2_replay_37 : decode cX2_replay 37 = .ok (.goto (-31), 3) := by decide +kernel
theorem dX2_replay_40 : decode cX2_replay 40 = .ok (.return_, 1) := by decide +kernel
theorem dX2_doDeed_0 : decode cX2_doDeed 0 = .ok (.aload_n 0, 1) := by decide +kernel
theorem dX2_doDeed_1 : decode cX2_doDeed 1 = .ok (.getfield 34, 3) := by decide +kernel
theorem dX2_doDeed_4 : decode cX2_doDeed 4 = .ok (.ifCond .lt 12, 3) := by decide +kernel
theorem dX2_doDeed_7 : decode cX2_doDeed 7 = .ok (.aload_n 0, 1) := by decide +kernel
theorem dX2_doDeed_8 : decode cX2_doDeed 8 = .ok (.getfield 34, 3) := by decide +kernel
theorem dX2_doDeed_11 : decode cX2_doDeed 11 = .ok (.bipush 40, 2) := by decide +kernel
theorem dX2_doDeed_13 : decode cX2_doDeed 13 = .ok (.if_icmp .lt 6, 3) := by decide +kernel
theorem dX2_doDeed_16 : decode cX2_doDeed 16 = .ok (.bipush (-2), 2) := by decide +kernel
theorem dX2_doDeed_18 : decode cX2_doDeed 18 = .ok (.ireturn, 1) := by decide +kernel
theorem dX2_doDeed_19 : decode cX2_doDeed 19 = .ok (.aload_n 0, 1) := by decide +kernel
theorem dX2_doDeed_20 : decode cX2_doDeed 20 = .ok (.getfield 25, 3) := by decide +kernel
theorem dX2_doDeed_23 : decode cX2_doDeed 23 = .ok (.aload_n 0, 1) := by decide +kernel
theorem dX2_doDeed_24 : decode cX2_doDeed 24 = .ok (.getfield 34, 3) := by decide +kernel
theorem dX2_doDeed_27 : decode cX2_doDeed 27 = .ok (.iload_n 1, 1) := by decide +kernel
theorem dX2_doDeed_28 : decode cX2_doDeed 28 = .ok (.bipush 6, 2) := by decide +kernel
theorem dX2_doDeed_30 : decode cX2_doDeed 30 = .ok (.imul, 1) := by decide +kernel
theorem dX2_doDeed_31 : decode cX2_doDeed 31 = .ok (.iload_n 2, 1) := by decide +kernel
theorem dX2_doDeed_32 : decode cX2_doDeed 32 = .ok (.iadd, 1) := by decide +kernel
theorem dX2_doDeed_33 : decode cX2_doDeed 33 = .ok (.iastore, 1) := by decide +kernel
theorem dX2_doDeed_34 : decode cX2_doDeed 34 = .ok (.aload_n 0, 1) := by decide +kernel
theorem dX2_doDeed_35 : decode cX2_doDeed 35 = .ok (.dup, 1) := by decide +kernel
theorem dX2_doDeed_36 : decode cX2_doDeed 36 = .ok (.getfield 34, 3) := by decide +kernel
theorem dX2_doDeed_39 : decode cX2_doDeed 39 = .ok (.iconst 1, 1) := by decide +kernel
theorem dX2_doDeed_40 : decode cX2_doDeed 40 = .ok (.iadd, 1) := by decide +kernel
theorem dX2_doDeed_41 : decode cX2_doDeed 41 = .ok (.putfield 34, 3) := by decide +kernel
theorem dX2_doDeed_44 : decode cX2_doDeed 44 = .ok (.iload_n 1, 1) := by decide +kernel
theorem dX2_doDeed_45 : decode cX2_doDeed 45 = .ok (.tableswitch 101 0 3 #[31, 37, 60, 81], 31) := by decide +kernel
theorem dX2_doDeed_76 : decode cX2_doDeed 76 = .ok (.aload_n 0, 1) := by decide +kernel
theorem dX2_doDeed_77 : decode cX2_doDeed 77 = .ok (.iload_n 2, 1) := by decide +kernel
theorem dX2_doDeed_78 : decode cX2_doDeed 78 = .ok (.invokevirtual 89, 3) := by decide +kernel
theorem dX2_doDeed_81 : decode cX2_doDeed 81 = .ok (.ireturn, 1) := by decide +kernel
theorem dX2_doDeed_82 : decode cX2_doDeed 82 = .ok (.aload_n 0, 1) := by decide +kernel
theorem dX2_doDeed_83 : decode cX2_doDeed 83 = .ok (.dup, 1) := by decide +kernel
theorem dX2_doDeed_84 : decode cX2_doDeed 84 = .ok (.getfield 47, 3) := by decide +kernel
theorem dX2_doDeed_87 : decode cX2_doDeed 87 = .ok (.iconst 1, 1) := by decide +kernel
theorem dX2_doDeed_88 : decode cX2_doDeed 88 = .ok (.iload_n 2, 1) := by decide +kernel
theorem dX2_doDeed_89 : decode cX2_doDeed 89 = .ok (.ishl, 1) := by decide +kernel
theorem dX2_doDeed_90 : decode cX2_doDeed 90 = .ok (.ior, 1) := by decide +kernel
theorem dX2_doDeed_91 : decode cX2_doDeed 91 = .ok (.putfield 47, 3) := by decide +kernel
theorem dX2_doDeed_94 : decode cX2_doDeed 94 = .ok (.aload_n 0, 1) := by decide +kernel
theorem dX2_doDeed_95 : decode cX2_doDeed 95 = .ok (.invokevirtual 65, 3) := by decide +kernel
theorem dX2_doDeed_98 : decode cX2_doDeed 98 = .ok (.aload_n 0, 1) := by decide +kernel
theorem dX2_doDeed_99 : decode cX2_doDeed 99 = .ok (.getfield 28, 3) := by decide +kernel
theorem dX2_doDeed_102 : decode cX2_doDeed 102 = .ok (.iload_n 2, 1) := by decide +kernel
theorem dX2_doDeed_103 : decode cX2_doDeed 103 = .ok (.iaload, 1) := by decide +kernel
theorem dX2_doDeed_104 : decode cX2_doDeed 104 = .ok (.ireturn, 1) := by decide +kernel
theorem dX2_doDeed_105 : decode cX2_doDeed 105 = .ok (.aload_n 0, 1) := by decide +kernel
theorem dX2_doDeed_106 : decode cX2_doDeed 106 = .ok (.getfield 18, 3) := by decide +kernel
theorem dX2_doDeed_109 : decode cX2_doDeed 109 = .ok (.iload_n 2, 1) := by decide +kernel
theorem dX2_doDeed_110 : decode cX2_doDeed 110 = .ok (.dup2, 1) := by decide +kernel
theorem dX2_doDeed_111 : decode cX2_doDeed 111 = .ok (.iaload, 1) := by decide +kernel
theorem dX2_doDeed_112 : decode cX2_doDeed 112 = .ok (.iconst 5, 1) := by decide +kernel
theorem dX2_doDeed_113 : decode cX2_doDeed 113 = .ok (.iadd, 1) := by decide +kernel
theorem dX2_doDeed_114 : decode cX2_doDeed 114 = .ok (.iastore, 1) := by decide +kernel
theorem dX2_doDeed_115 : decode cX2_doDeed 115 = .ok (.aload_n 0, 1) := by decide +kernel
theorem dX2_doDeed_116 : decode cX2_doDeed 116 = .ok (.invokevirtual 65, 3) := by decide +kernel
theorem dX2_doDeed_119 : decode cX2_doDeed 119 = .ok (.aload_n 0, 1) := by decide +kernel
theorem dX2_doDeed_120 : decode cX2_doDeed 120 = .ok (.getfield 28, 3) := by decide +kernel
theorem dX2_doDeed_123 : decode cX2_doDeed 123 = .ok (.iload_n 2, 1) := by decide +kernel
theorem dX2_doDeed_124 : decode cX2_doDeed 124 = .ok (.iaload, 1) := by decide +kernel
theorem dX2_doDeed_125 : decode cX2_doDeed 125 = .ok (.ireturn, 1) := by decide +kernel
theorem dX2_doDeed_126 : decode cX2_doDeed 126 = .ok (.aload_n 0, 1) := by decide +kernel
theorem dX2_doDeed_127 : decode cX2_doDeed 127 = .ok (.aload_n 0, 1) := by decide +kernel
theorem dX2_doDeed_128 : decode cX2_doDeed 128 = .ok (.getfield 12, 3) := by decide +kernel
theorem dX2_doDeed_131 : decode cX2_doDeed 131 = .ok (.getfield 62, 3) := by decide +kernel
theorem dX2_doDeed_134 : decode cX2_doDeed 134 = .ok (.putfield 41, 3) := by decide +kernel
theorem dX2_doDeed_137 : decode cX2_doDeed 137 = .ok (.aload_n 0, 1) := by decide +kernel
theorem dX2_doDeed_138 : decode cX2_doDeed 138 = .ok (.aload_n 0, 1) := by decide +kernel
theorem dX2_doDeed_139 : decode cX2_doDeed 139 = .ok (.invokevirtual 93, 3) := by decide +kernel
theorem dX2_doDeed_142 : decode cX2_doDeed 142 = .ok (.invokevirtual 97, 3) := by decide +kernel
theorem dX2_doDeed_145 : decode cX2_doDeed 145 = .ok (.ireturn, 1) := by decide +kernel
theorem dX2_doDeed_146 : decode cX2_doDeed 146 = .ok (.aload_n 0, 1) := by decide +kernel
theorem dX2_doDeed_147 : decode cX2_doDeed 147 = .ok (.dup, 1) := by decide +kernel
theorem dX2_doDeed_148 : decode cX2_doDeed 148 = .ok (.getfield 38, 3) := by decide +kernel
theorem dX2_doDeed_151 : decode cX2_doDeed 151 = .ok (.iconst 1, 1) := by decide +kernel
theorem dX2_doDeed_152 : decode cX2_doDeed 152 = .ok (.iadd, 1) := by decide +kernel
theorem dX2_doDeed_153 : decode cX2_doDeed 153 = .ok (.putfield 38, 3) := by decide +kernel
theorem dX2_doDeed_156 : decode cX2_doDeed 156 = .ok (.aload_n 0, 1) := by decide +kernel
theorem dX2_doDeed_157 : decode cX2_doDeed 157 = .ok (.invokevirtual 65, 3) := by decide +kernel
theorem dX2_doDeed_160 : decode cX2_doDeed 160 = .ok (.aload_n 0, 1) := by decide +kernel
theorem dX2_doDeed_161 : decode cX2_doDeed 161 = .ok (.getfield 38, 3) := by decide +kernel
theorem dX2_doDeed_164 : decode cX2_doDeed 164 = .ok (.ireturn, 1) := by decide +kernel
theorem dX2_move_0 : decode cX2_move 0 = .ok (.aload_n 0, 1) := by decide +kernel
theorem dX2_move_1 : decode cX2_move 1 = .ok (.iload_n 1, 1) := by decide +kernel
theorem dX2_move_2 : decode cX2_move 2 = .ok (.invokevirtual 100, 3) := by decide +kernel
theorem dX2_move_5 : decode cX2_move 5 = .ok (.istore_n 2, 1) := by decide +kernel
theorem dX2_move_6 : decode cX2_move 6 = .ok (.aload_n 0, 1) := by decide +kernel
theorem dX2_move_7 : decode cX2_move 7 = .ok (.dup, 1) := by decide +kernel
theorem dX2_move_8 : decode cX2_move 8 = .ok (.getfield 44, 3) := by decide +kernel
theorem dX2_move_11 : decode cX2_move 11 = .ok (.iconst 1, 1) := by decide +kernel
theorem dX2_move_12 : decode cX2_move 12 = .ok (.iload_n 1, 1) := by decide +kernel
theorem dX2_move_13 : decode cX2_move 13 = .ok (.ishl, 1) := by decide +kernel
theorem dX2_move_14 : decode cX2_move 14 = .ok (.ixor, 1) := by decide +kernel
theorem dX2_move_15 : decode cX2_move 15 = .ok (.putfield 44, 3) := by decide +kernel
theorem dX2_move_18 : decode cX2_move 18 = .ok (.aload_n 0, 1) := by decide +kernel
theorem dX2_move_19 : decode cX2_move 19 = .ok (.dup, 1) := by decide +kernel
theorem dX2_move_20 : decode cX2_move 20 = .ok (.getfield 41, 3) := by decide +kernel
theorem dX2_move_23 : decode cX2_move 23 = .ok (.iconst 1, 1) := by decide +kernel
theorem dX2_move_24 : decode cX2_move 24 = .ok (.iload_n 2, 1) := by decide +kernel
theorem dX2_move_25 : decode cX2_move 25 = .ok (.iadd, 1) := by decide +kernel
theorem dX2_move_26 : decode cX2_move 26 = .ok (.isub, 1) := by decide +kernel
theorem dX2_move_27 : decode cX2_move 27 = .ok (.putfield 41, 3) := by decide +kernel
theorem dX2_move_30 : decode cX2_move 30 = .ok (.aload_n 0, 1) := by decide +kernel
theorem dX2_move_31 : decode cX2_move 31 = .ok (.dup, 1) := by decide +kernel
theorem dX2_move_32 : decode cX2_move 32 = .ok (.getfield 50, 3) := by decide +kernel
theorem dX2_move_35 : decode cX2_move 35 = .ok (.iload_n 2, 1) := by decide +kernel
theorem dX2_move_36 : decode cX2_move 36 = .ok (.iadd, 1) := by decide +kernel
theorem dX2_move_37 : decode cX2_move 37 = .ok (.putfield 50, 3) := by decide +kernel
theorem dX2_move_40 : decode cX2_move 40 = .ok (.iload_n 2, 1) := by decide +kernel
theorem dX2_move_41 : decode cX2_move 41 = .ok (.ireturn, 1) := by decide +kernel
theorem dX2_runAground_0 : decode cX2_runAground 0 = .ok (.iconst 0, 1) := by decide +kernel
theorem dX2_runAground_1 : decode cX2_runAground 1 = .ok (.istore_n 2, 1) := by decide +kernel
theorem dX2_runAground_2 : decode cX2_runAground 2 = .ok (.iload_n 2, 1) := by decide +kernel
theorem dX2_runAground_3 : decode cX2_runAground 3 = .ok (.aload_n 0, 1) := by decide +kernel
theorem dX2_runAground_4 : decode cX2_runAground 4 = .ok (.getfield 12, 3) := by decide +kernel
theorem dX2_runAground_7 : decode cX2_runAground 7 = .ok (.getfield 68, 3) := by decide +kernel
theorem dX2_runAground_10 : decode cX2_runAground 10 = .ok (.if_icmp .ge 23, 3) := by decide +kernel
theorem dX2_runAground_13 : decode cX2_runAground 13 = .ok (.aload_n 0, 1) := by decide +kernel
theorem dX2_runAground_14 : decode cX2_runAground 14 = .ok (.getfield 22, 3) := by decide +kernel
theorem dX2_runAground_17 : decode cX2_runAground 17 = .ok (.iload_n 2, 1) := by decide +kernel
theorem dX2_runAground_18 : decode cX2_runAground 18 = .ok (.dup2, 1) := by decide +kernel
theorem dX2_runAground_19 : decode cX2_runAground 19 = .ok (.iaload, 1) := by decide +kernel
theorem dX2_runAground_20 : decode cX2_runAground 20 = .ok (.iload_n 1, 1) := by decide +kernel
theorem dX2_runAground_21 : decode cX2_runAground 21 = .ok (.iload_n 2, 1) := by decide +kernel
theorem dX2_runAground_22 : decode cX2_runAground 22 = .ok (.ishr, 1) := by decide +kernel
theorem dX2_runAground_23 : decode cX2_runAground 23 = .ok (.iconst 1, 1) := by decide +kernel
theorem dX2_runAground_24 : decode cX2_runAground 24 = .ok (.iand, 1) := by decide +kernel
theorem dX2_runAground_25 : decode cX2_runAground 25 = .ok (.iadd, 1) := by decide +kernel
theorem dX2_runAground_26 : decode cX2_runAground 26 = .ok (.iastore, 1) := by decide +kernel
theorem dX2_runAground_27 : decode cX2_runAground 27 = .ok (.iinc 2 1, 3) := by decide +kernel
theorem dX2_runAground_30 : decode cX2_runAground 30 = .ok (.goto (-28), 3) := by decide +kernel
theorem dX2_runAground_33 : decode cX2_runAground 33 = .ok (.iload_n 1, 1) := by decide +kernel
theorem dX2_runAground_34 : decode cX2_runAground 34 = .ok (.ireturn, 1) := by decide +kernel
theorem dX2_isEmpty_0 : decode cX2_isEmpty 0 = .ok (.aload_n 0, 1) := by decide +kernel
theorem dX2_isEmpty_1 : decode cX2_isEmpty 1 = .ok (.getfield 12, 3) := by decide +kernel
theorem dX2_isEmpty_4 : decode cX2_isEmpty 4 = .ok (.getfield 68, 3) := by decide +kernel
theorem dX2_isEmpty_7 : decode cX2_isEmpty 7 = .ok (.ifCond .ne 7, 3) := by decide +kernel
theorem dX2_isEmpty_10 : decode cX2_isEmpty 10 = .ok (.iconst 1, 1) := by decide +kernel
theorem dX2_isEmpty_11 : decode cX2_isEmpty 11 = .ok (.goto 4, 3) := by decide +kernel
theorem dX2_isEmpty_14 : decode cX2_isEmpty 14 = .ok (.iconst 0, 1) := by decide +kernel
theorem dX2_isEmpty_15 : decode cX2_isEmpty 15 = .ok (.ireturn, 1) := by decide +kernel
theorem dX2_isShip_0 : decode cX2_isShip 0 = .ok (.iload_n 1, 1) := by decide +kernel
theorem dX2_isShip_1 : decode cX2_isShip 1 = .ok (.ifCond .lt 24, 3) := by decide +kernel
theorem dX2_isShip_4 : decode cX2_isShip 4 = .ok (.iload_n 1, 1) := by decide +kernel
theorem dX2_isShip_5 : decode cX2_isShip 5 = .ok (.aload_n 0, 1) := by decide +kernel
theorem dX2_isShip_6 : decode cX2_isShip 6 = .ok (.getfield 12, 3) := by decide +kernel
theorem dX2_isShip_9 : decode cX2_isShip 9 = .ok (.getfield 68, 3) := by decide +kernel
theorem dX2_isShip_12 : decode cX2_isShip 12 = .ok (.if_icmp .ge 13, 3) := by decide +kernel
theorem dX2_isShip_15 : decode cX2_isShip 15 = .ok (.iload_n 1, 1) := by decide +kernel
theorem dX2_isShip_16 : decode cX2_isShip 16 = .ok (.bipush 6, 2) := by decide +kernel
theorem dX2_isShip_18 : decode cX2_isShip 18 = .ok (.if_icmp .ge 7, 3) := by decide +kernel
theorem dX2_isShip_21 : decode cX2_isShip 21 = .ok (.iconst 1, 1) := by decide +kernel
theorem dX2_isShip_22 : decode cX2_isShip 22 = .ok (.goto 4, 3) := by decide +kernel
theorem dX2_isShip_25 : decode cX2_isShip 25 = .ok (.iconst 0, 1) := by decide +kernel
theorem dX2_isShip_26 : decode cX2_isShip 26 = .ok (.ireturn, 1) := by decide +kernel
theorem dX2_isIn_0 : decode cX2_isIn 0 = .ok (.aload_n 0, 1) := by decide +kernel
theorem dX2_isIn_1 : decode cX2_isIn 1 = .ok (.getfield 44, 3) := by decide +kernel
theorem dX2_isIn_4 : decode cX2_isIn 4 = .ok (.iload_n 1, 1) := by decide +kernel
theorem dX2_isIn_5 : decode cX2_isIn 5 = .ok (.ishr, 1) := by decide +kernel
theorem dX2_isIn_6 : decode cX2_isIn 6 = .ok (.iconst 1, 1) := by decide +kernel
theorem dX2_isIn_7 : decode cX2_isIn 7 = .ok (.iand, 1) := by decide +kernel
theorem dX2_isIn_8 : decode cX2_isIn 8 = .ok (.iconst 1, 1) := by decide +kernel
theorem dX2_isIn_9 : decode cX2_isIn 9 = .ok (.if_icmp .ne 7, 3) := by decide +kernel
theorem dX2_isIn_12 : decode cX2_isIn 12 = .ok (.iconst 1, 1) := by decide +kernel
theorem dX2_isIn_13 : decode cX2_isIn 13 = .ok (.goto 4, 3) := by decide +kernel
theorem dX2_isIn_16 : decode cX2_isIn 16 = .ok (.iconst 0, 1) := by decide +kernel
theorem dX2_isIn_17 : decode cX2_isIn 17 = .ok (.ireturn, 1) := by decide +kernel
theorem dX2_hasPaid_0 : decode cX2_hasPaid 0 = .ok (.aload_n 0, 1) := by decide +kernel
theorem dX2_hasPaid_1 : decode cX2_hasPaid 1 = .ok (.getfield 47, 3) := by decide +kernel
theorem dX2_hasPaid_4 : decode cX2_hasPaid 4 = .ok (.iload_n 1, 1) := by decide +kernel
theorem dX2_hasPaid_5 : decode cX2_hasPaid 5 = .ok (.ishr, 1) := by decide +kernel
theorem dX2_hasPaid_6 : decode cX2_hasPaid 6 = .ok (.iconst 1, 1) := by decide +kernel
theorem dX2_hasPaid_7 : decode cX2_hasPaid 7 = .ok (.iand, 1) := by decide +kernel
theorem dX2_hasPaid_8 : decode cX2_hasPaid 8 = .ok (.iconst 1, 1) := by decide +kernel
theorem dX2_hasPaid_9 : decode cX2_hasPaid 9 = .ok (.if_icmp .ne 7, 3) := by decide +kernel
theorem dX2_hasPaid_12 : decode cX2_hasPaid 12 = .ok (.iconst 1, 1) := by decide +kernel
theorem dX2_hasPaid_13 : decode cX2_hasPaid 13 = .ok (.goto 4, 3) := by decide +kernel
theorem dX2_hasPaid_16 : decode cX2_hasPaid 16 = .ok (.iconst 0, 1) := by decide +kernel
theorem dX2_hasPaid_17 : decode cX2_hasPaid 17 = .ok (.ireturn, 1) := by decide +kernel
theorem dX2_isOf_0 : decode cX2_isOf 0 = .ok (.iload_n 2, 1) := by decide +kernel
theorem dX2_isOf_1 : decode cX2_isOf 1 = .ok (.ifCond .eq 33, 3) := by decide +kernel
theorem dX2_isOf_4 : decode cX2_isOf 4 = .ok (.aload_n 0, 1) := by decide +kernel
theorem dX2_isOf_5 : decode cX2_isOf 5 = .ok (.getfield 12, 3) := by decide +kernel
theorem dX2_isOf_8 : decode cX2_isOf 8 = .ok (.getfield 71, 3) := by decide +kernel
theorem dX2_isOf_11 : decode cX2_isOf 11 = .ok (.iload_n 1, 1) := by decide +kernel
theorem dX2_isOf_12 : decode cX2_isOf 12 = .ok (.iaload, 1) := by decide +kernel
theorem dX2_isOf_13 : decode cX2_isOf 13 = .ok (.iload_n 2, 1) := by decide +kernel
theorem dX2_isOf_14 : decode cX2_isOf 14 = .ok (.if_icmp .eq 20, 3) := by decide +kernel
theorem dX2_isOf_17 : decode cX2_isOf 17 = .ok (.getstatic 103, 3) := by decide +kernel
theorem dX2_isOf_20 : decode cX2_isOf 20 = .ok (.aload_n 0, 1) := by decide +kernel
theorem dX2_isOf_21 : decode cX2_isOf 21 = .ok (.getfield 12, 3) := by decide +kernel
theorem dX2_isOf_24 : decode cX2_isOf 24 = .ok (.getfield 71, 3) := by decide +kernel
theorem dX2_isOf_27 : decode cX2_isOf 27 = .ok (.iload_n 1, 1) := by decide +kernel
theorem dX2_isOf_28 : decode cX2_isOf 28 = .ok (.iaload, 1) := by decide +kernel
theorem dX2_isOf_29 : decode cX2_isOf 29 = .ok (.iaload, 1) := by decide +kernel
theorem dX2_isOf_30 : decode cX2_isOf 30 = .ok (.iload_n 2, 1) := by decide +kernel
theorem dX2_isOf_31 : decode cX2_isOf 31 = .ok (.if_icmp .ne 7, 3) := by decide +kernel
theorem dX2_isOf_34 : decode cX2_isOf 34 = .ok (.iconst 1, 1) := by decide +kernel
theorem dX2_isOf_35 : decode cX2_isOf 35 = .ok (.goto 4, 3) := by decide +kernel
theorem dX2_isOf_38 : decode cX2_isOf 38 = .ok (.iconst 0, 1) := by decide +kernel
theorem dX2_isOf_39 : decode cX2_isOf 39 = .ok (.ireturn, 1) := by decide +kernel
theorem dX2_hasHoursFor_0 : decode cX2_hasHoursFor 0 = .ok (.iconst 1, 1) := by decide +kernel
theorem dX2_hasHoursFor_1 : decode cX2_hasHoursFor 1 = .ok (.aload_n 0, 1) := by decide +kernel
theorem dX2_hasHoursFor_2 : decode cX2_hasHoursFor 2 = .ok (.iload_n 1, 1) := by decide +kernel
theorem dX2_hasHoursFor_3 : decode cX2_hasHoursFor 3 = .ok (.invokevirtual 100, 3) := by decide +kernel
theorem dX2_hasHoursFor_6 : decode cX2_hasHoursFor 6 = .ok (.iadd, 1) := by decide +kernel
theorem dX2_hasHoursFor_7 : decode cX2_hasHoursFor 7 = .ok (.aload_n 0, 1) := by decide +kernel
theorem dX2_hasHoursFor_8 : decode cX2_hasHoursFor 8 = .ok (.getfield 41, 3) := by decide +kernel
theorem dX2_hasHoursFor_11 : decode cX2_hasHoursFor 11 = .ok (.if_icmp .gt 7, 3) := by decide +kernel
theorem dX2_hasHoursFor_14 : decode cX2_hasHoursFor 14 = .ok (.iconst 1, 1) := by decide +kernel
theorem dX2_hasHoursFor_15 : decode cX2_hasHoursFor 15 = .ok (.goto 4, 3) := by decide +kernel
theorem dX2_hasHoursFor_18 : decode cX2_hasHoursFor 18 = .ok (.iconst 0, 1) := by decide +kernel
theorem dX2_hasHoursFor_19 : decode cX2_hasHoursFor 19 = .ok (.ireturn, 1) := by decide +kernel
theorem dX2_ageIn_0 : decode cX2_ageIn 0 = .ok (.aload_n 0, 1) := by decide +kernel
theorem dX2_ageIn_1 : decode cX2_ageIn 1 = .ok (.iload_n 1, 1) := by decide +kernel
theorem dX2_ageIn_2 : decode cX2_ageIn 2 = .ok (.aload_n 0, 1) := by decide +kernel
theorem dX2_ageIn_3 : decode cX2_ageIn 3 = .ok (.getfield 12, 3) := by decide +kernel
theorem dX2_ageIn_6 : decode cX2_ageIn 6 = .ok (.getfield 71, 3) := by decide +kernel
theorem dX2_ageIn_9 : decode cX2_ageIn 9 = .ok (.iload_n 1, 1) := by decide +kernel
theorem dX2_ageIn_10 : decode cX2_ageIn 10 = .ok (.iaload, 1) := by decide +kernel
theorem dX2_ageIn_11 : decode cX2_ageIn 11 = .ok (.iload_n 2, 1) := by decide +kernel
theorem dX2_ageIn_12 : decode cX2_ageIn 12 = .ok (.invokevirtual 74, 3) := by decide +kernel
theorem dX2_ageIn_15 : decode cX2_ageIn 15 = .ok (.ireturn, 1) := by decide +kernel
theorem dX2_ageAs_0 : decode cX2_ageAs 0 = .ok (.iload_n 2, 1) := by decide +kernel
theorem dX2_ageAs_1 : decode cX2_ageAs 1 = .ok (.aload_n 0, 1) := by decide +kernel
theorem dX2_ageAs_2 : decode cX2_ageAs 2 = .ok (.getfield 12, 3) := by decide +kernel
theorem dX2_ageAs_5 : decode cX2_ageAs 5 = .ok (.getfield 106, 3) := by decide +kernel
theorem dX2_ageAs_8 : decode cX2_ageAs 8 = .ok (.iload_n 1, 1) := by decide +kernel
theorem dX2_ageAs_9 : decode cX2_ageAs 9 = .ok (.iaload, 1) := by decide +kernel
theorem dX2_ageAs_10 : decode cX2_ageAs 10 = .ok (.iload_n 3, 1) := by decide +kernel
theorem dX2_ageAs_11 : decode cX2_ageAs 11 = .ok (.invokestatic 109, 3) := by decide +kernel
theorem dX2_ageAs_14 : decode cX2_ageAs 14 = .ok (.aload_n 0, 1) := by decide +kernel
theorem dX2_ageAs_15 : decode cX2_ageAs 15 = .ok (.getfield 18, 3) := by decide +kernel
theorem dX2_ageAs_18 : decode cX2_ageAs 18 = .ok (.iload_n 1, 1) := by decide +kernel
theorem dX2_ageAs_19 : decode cX2_ageAs 19 = .ok (.iaload, 1) := by decide +kernel
theorem dX2_ageAs_20 : decode cX2_ageAs 20 = .ok (.aload_n 0, 1) := by decide +kernel
theorem dX2_ageAs_21 : decode cX2_ageAs 21 = .ok (.iload_n 1, 1) := by decide +kernel
theorem dX2_ageAs_22 : decode cX2_ageAs 22 = .ok (.invokevirtual 112, 3) := by decide +kernel
theorem dX2_ageAs_25 : decode cX2_ageAs 25 = .ok (.invokestatic 116, 3) := by decide +kernel
theorem dX2_ageAs_28 : decode cX2_ageAs 28 = .ok (.ireturn, 1) := by decide +kernel
theorem dX2_ageIfBuilt_0 : decode cX2_ageIfBuilt 0 = .ok (.aload_n 0, 1) := by decide +kernel
theorem dX2_ageIfBuilt_1 : decode cX2_ageIfBuilt 1 = .ok (.getfield 12, 3) := by decide +kernel
theorem dX2_ageIfBuilt_4 : decode cX2_ageIfBuilt 4 = .ok (.getfield 71, 3) := by decide +kernel
theorem dX2_ageIfBuilt_7 : decode cX2_ageIfBuilt 7 = .ok (.iload_n 1, 1) := by decide +kernel
theorem dX2_ageIfBuilt_8 : decode cX2_ageIfBuilt 8 = .ok (.iaload, 1) := by decide +kernel
theorem dX2_ageIfBuilt_9 : decode cX2_ageIfBuilt 9 = .ok (.iload_n 2, 1) := by decide +kernel
theorem dX2_ageIfBuilt_10 : decode cX2_ageIfBuilt 10 = .ok (.aload_n 0, 1) := by decide +kernel
theorem dX2_ageIfBuilt_11 : decode cX2_ageIfBuilt 11 = .ok (.getfield 38, 3) := by decide +kernel
theorem dX2_ageIfBuilt_14 : decode cX2_ageIfBuilt 14 = .ok (.invokestatic 109, 3) := by decide +kernel
theorem dX2_ageIfBuilt_17 : decode cX2_ageIfBuilt 17 = .ok (.aload_n 0, 1) := by decide +kernel
theorem dX2_ageIfBuilt_18 : decode cX2_ageIfBuilt 18 = .ok (.getfield 18, 3) := by decide +kernel
theorem dX2_ageIfBuilt_21 : decode cX2_ageIfBuilt 21 = .ok (.iload_n 1, 1) := by decide +kernel
theorem dX2_ageIfBuilt_22 : decode cX2_ageIfBuilt 22 = .ok (.iaload, 1) := by decide +kernel
theorem dX2_ageIfBuilt_23 : decode cX2_ageIfBuilt 23 = .ok (.aload_n 0, 1) := by decide +kernel
theorem dX2_ageIfBuilt_24 : decode cX2_ageIfBuilt 24 = .ok (.iload_n 1, 1) := by decide +kernel
theorem dX2_ageIfBuilt_25 : decode cX2_ageIfBuilt 25 = .ok (.invokevirtual 112, 3) := by decide +kernel
theorem dX2_ageIfBuilt_28 : decode cX2_ageIfBuilt 28 = .ok (.invokestatic 116, 3) := by decide +kernel
theorem dX2_ageIfBuilt_31 : decode cX2_ageIfBuilt 31 = .ok (.ireturn, 1) := by decide +kernel
theorem dX2_ageWithTea_0 : decode cX2_ageWithTea 0 = .ok (.aload_n 0, 1) := by decide +kernel
theorem dX2_ageWithTea_1 : decode cX2_ageWithTea 1 = .ok (.getfield 12, 3) := by decide +kernel
theorem dX2_ageWithTea_4 : decode cX2_ageWithTea 4 = .ok (.getfield 71, 3) := by decide +kernel
theorem dX2_ageWithTea_7 : decode cX2_ageWithTea 7 = .ok (.iload_n 1, 1) := by decide +kernel
theorem dX2_ageWithTea_8 : decode cX2_ageWithTea 8 = .ok (.iaload, 1) := by decide +kernel
theorem dX2_ageWithTea_9 : decode cX2_ageWithTea 9 = .ok (.aload_n 0, 1) := by decide +kernel
theorem dX2_ageWithTea_10 : decode cX2_ageWithTea 10 = .ok (.getfield 12, 3) := by decide +kernel
theorem dX2_ageWithTea_13 : decode cX2_ageWithTea 13 = .ok (.getfield 106, 3) := by decide +kernel
theorem dX2_ageWithTea_16 : decode cX2_ageWithTea 16 = .ok (.iload_n 1, 1) := by decide +kernel
theorem dX2_ageWithTea_17 : decode cX2_ageWithTea 17 = .ok (.iaload, 1) := by decide +kernel
theorem dX2_ageWithTea_18 : decode cX2_ageWithTea 18 = .ok (.aload_n 0, 1) := by decide +kernel
theorem dX2_ageWithTea_19 : decode cX2_ageWithTea 19 = .ok (.getfield 38, 3) := by decide +kernel
theorem dX2_ageWithTea_22 : decode cX2_ageWithTea 22 = .ok (.invokestatic 109, 3) := by decide +kernel
theorem dX2_ageWithTea_25 : decode cX2_ageWithTea 25 = .ok (.aload_n 0, 1) := by decide +kernel
theorem dX2_ageWithTea_26 : decode cX2_ageWithTea 26 = .ok (.getfield 18, 3) := by decide +kernel
theorem dX2_ageWithTea_29 : decode cX2_ageWithTea 29 = .ok (.iload_n 1, 1) := by decide +kernel
theorem dX2_ageWithTea_30 : decode cX2_ageWithTea 30 = .ok (.iaload, 1) := by decide +kernel
theorem dX2_ageWithTea_31 : decode cX2_ageWithTea 31 = .ok (.iload_n 2, 1) := by decide +kernel
theorem dX2_ageWithTea_32 : decode cX2_ageWithTea 32 = .ok (.iadd, 1) := by decide +kernel
theorem dX2_ageWithTea_33 : decode cX2_ageWithTea 33 = .ok (.aload_n 0, 1) := by decide +kernel
theorem dX2_ageWithTea_34 : decode cX2_ageWithTea 34 = .ok (.iload_n 1, 1) := by decide +kernel
theorem dX2_ageWithTea_35 : decode cX2_ageWithTea 35 = .ok (.invokevirtual 112, 3) := by decide +kernel
theorem dX2_ageWithTea_38 : decode cX2_ageWithTea 38 = .ok (.invokestatic 116, 3) := by decide +kernel
theorem dX2_ageWithTea_41 : decode cX2_ageWithTea 41 = .ok (.ireturn, 1) := by decide +kernel
theorem dX2_past_0 : decode cX2_past 0 = .ok (.iconst 0, 1) := by decide +kernel
theorem dX2_past_1 : decode cX2_past 1 = .ok (.iload_n 1, 1) := by decide +kernel
theorem dX2_past_2 : decode cX2_past 2 = .ok (.iload_n 0, 1) := by decide +kernel
theorem dX2_past_3 : decode cX2_past 3 = .ok (.isub, 1) := by decide +kernel
theorem dX2_past_4 : decode cX2_past 4 = .ok (.invokestatic 120, 3) := by decide +kernel
theorem dX2_past_7 : decode cX2_past 7 = .ok (.ireturn, 1) := by decide +kernel
theorem dX2_ageBy_0 : decode cX2_ageBy 0 = .ok (.iload_n 0, 1) := by decide +kernel
theorem dX2_ageBy_1 : decode cX2_ageBy 1 = .ok (.tableswitch 83 1 5 #[35, 42, 48, 57, 66], 35) := by decide +kernel
theorem dX2_ageBy_36 : decode cX2_ageBy 36 = .ok (.iload_n 1, 1) := by decide +kernel
theorem dX2_ageBy_37 : decode cX2_ageBy 37 = .ok (.iload_n 2, 1) := by decide +kernel
theorem dX2_ageBy_38 : decode cX2_ageBy 38 = .ok (.iadd, 1) := by decide +kernel
theorem dX2_ageBy_39 : decode cX2_ageBy 39 = .ok (.bipush 20, 2) := by decide +kernel
theorem dX2_ageBy_41 : decode cX2_ageBy 41 = .ok (.iadd, 1) := by decide +kernel
theorem dX2_ageBy_42 : decode cX2_ageBy 42 = .ok (.ireturn, 1) := by decide +kernel
theorem dX2_ageBy_43 : decode cX2_ageBy 43 = .ok (.iload_n 1, 1) := by decide +kernel
theorem dX2_ageBy_44 : decode cX2_ageBy 44 = .ok (.iconst 2, 1) := by decide +kernel
theorem dX2_ageBy_45 : decode cX2_ageBy 45 = .ok (.idiv, 1) := by decide +kernel
theorem dX2_ageBy_46 : decode cX2_ageBy 46 = .ok (.iload_n 2, 1) := by decide +kernel
theorem dX2_ageBy_47 : decode cX2_ageBy 47 = .ok (.iadd, 1) := by decide +kernel
theorem dX2_ageBy_48 : decode cX2_ageBy 48 = .ok (.ireturn, 1) := by decide +kernel
theorem dX2_ageBy_49 : decode cX2_ageBy 49 = .ok (.bipush 90, 2) := by decide +kernel
theorem dX2_ageBy_51 : decode cX2_ageBy 51 = .ok (.iload_n 1, 1) := by decide +kernel
theorem dX2_ageBy_52 : decode cX2_ageBy 52 = .ok (.iload_n 2, 1) := by decide +kernel
theorem dX2_ageBy_53 : decode cX2_ageBy 53 = .ok (.iadd, 1) := by decide +kernel
theorem dX2_ageBy_54 : decode cX2_ageBy 54 = .ok (.invokestatic 120, 3) := by decide +kernel
theorem dX2_ageBy_57 : decode cX2_ageBy 57 = .ok (.ireturn, 1) := by decide +kernel
theorem dX2_ageBy_58 : decode cX2_ageBy 58 = .ok (.iload_n 1, 1) := by decide +kernel
theorem dX2_ageBy_59 : decode cX2_ageBy 59 = .ok (.iload_n 2, 1) := by decide +kernel
theorem dX2_ageBy_60 : decode cX2_ageBy 60 = .ok (.iadd, 1) := by decide +kernel
theorem dX2_ageBy_61 : decode cX2_ageBy 61 = .ok (.bipush 20, 2) := by decide +kernel
theorem dX2_ageBy_63 : decode cX2_ageBy 63 = .ok (.iadd, 1) := by decide +kernel
theorem dX2_ageBy_64 : decode cX2_ageBy 64 = .ok (.iconst 5, 1) := by decide +kernel
theorem dX2_ageBy_65 : decode cX2_ageBy 65 = .ok (.iadd, 1) := by decide +kernel
theorem dX2_ageBy_66 : decode cX2_ageBy 66 = .ok (.ireturn, 1) := by decide +kernel
theorem dX2_ageBy_67 : decode cX2_ageBy 67 = .ok (.iload_n 3, 1) := by decide +kernel
theorem dX2_ageBy_68 : decode cX2_ageBy 68 = .ok (.ifCond .eq 14, 3) := by decide +kernel
theorem dX2_ageBy_71 : decode cX2_ageBy 71 = .ok (.bipush 90, 2) := by decide +kernel
theorem dX2_ageBy_73 : decode cX2_ageBy 73 = .ok (.iload_n 1, 1) := by decide +kernel
theorem dX2_ageBy_74 : decode cX2_ageBy 74 = .ok (.iload_n 2, 1) := by decide +kernel
theorem dX2_ageBy_75 : decode cX2_ageBy 75 = .ok (.iadd, 1) := by decide +kernel
theorem dX2_ageBy_76 : decode cX2_ageBy 76 = .ok (.invokestatic 120, 3) := by decide +kernel
theorem dX2_ageBy_79 : decode cX2_ageBy 79 = .ok (.goto 4, 3) := by decide +kernel
theorem dX2_ageBy_82 : decode cX2_ageBy 82 = .ok (.iconst 0, 1) := by decide +kernel
theorem dX2_ageBy_83 : decode cX2_ageBy 83 = .ok (.ireturn, 1) := by decide +kernel
theorem dX2_ageBy_84 : decode cX2_ageBy 84 = .ok (.iload_n 1, 1) := by decide +kernel
theorem dX2_ageBy_85 : decode cX2_ageBy 85 = .ok (.iload_n 2, 1) := by decide +kernel
theorem dX2_ageBy_86 : decode cX2_ageBy 86 = .ok (.iadd, 1) := by decide +kernel
theorem dX2_ageBy_87 : decode cX2_ageBy 87 = .ok (.ireturn, 1) := by decide +kernel
theorem dX2_isAhead_0 : decode cX2_isAhead 0 = .ok (.iload_n 2, 1) := by decide +kernel
theorem dX2_isAhead_1 : decode cX2_isAhead 1 = .ok (.iload 4, 2) := by decide +kernel
theorem dX2_isAhead_3 : decode cX2_isAhead 3 = .ok (.if_icmp .eq 15, 3) := by decide +kernel
theorem dX2_isAhead_6 : decode cX2_isAhead 6 = .ok (.iload_n 2, 1) := by decide +kernel
theorem dX2_isAhead_7 : decode cX2_isAhead 7 = .ok (.iload 4, 2) := by decide +kernel
theorem dX2_isAhead_9 : decode cX2_isAhead 9 = .ok (.if_icmp .le 7, 3) := by decide +kernel
theorem dX2_isAhead_12 : decode cX2_isAhead 12 = .ok (.iconst 1, 1) := by decide +kernel
theorem dX2_isAhead_13 : decode cX2_isAhead 13 = .ok (.goto 4, 3) := by decide +kernel
theorem dX2_isAhead_16 : decode cX2_isAhead 16 = .ok (.iconst 0, 1) := by decide +kernel
theorem dX2_isAhead_17 : decode cX2_isAhead 17 = .ok (.ireturn, 1) := by decide +kernel
theorem dX2_isAhead_18 : decode cX2_isAhead 18 = .ok (.aload_n 0, 1) := by decide +kernel
theorem dX2_isAhead_19 : decode cX2_isAhead 19 = .ok (.getfield 12, 3) := by decide +kernel
theorem dX2_isAhead_22 : decode cX2_isAhead 22 = .ok (.getfield 125, 3) := by decide +kernel
theorem dX2_isAhead_25 : decode cX2_isAhead 25 = .ok (.iload_n 1, 1) := by decide +kernel
theorem dX2_isAhead_26 : decode cX2_isAhead 26 = .ok (.iaload, 1) := by decide +kernel
theorem dX2_isAhead_27 : decode cX2_isAhead 27 = .ok (.aload_n 0, 1) := by decide +kernel
theorem dX2_isAhead_28 : decode cX2_isAhead 28 = .ok (.getfield 12, 3) := by decide +kernel
theorem dX2_isAhead_31 : decode cX2_isAhead 31 = .ok (.getfield 125, 3) := by decide +kernel
theorem dX2_isAhead_34 : decode cX2_isAhead 34 = .ok (.iload_n 3, 1) := by decide +kernel
theorem dX2_isAhead_35 : decode cX2_isAhead 35 = .ok (.iaload, 1) := by decide +kernel
theorem dX2_isAhead_36 : decode cX2_isAhead 36 = .ok (.if_icmp .eq 30, 3) := by decide +kernel
theorem dX2_isAhead_39 : decode cX2_isAhead 39 = .ok (.aload_n 0, 1) := by decide +kernel
theorem dX2_isAhead_40 : decode cX2_isAhead 40 = .ok (.getfield 12, 3) := by decide +kernel
theorem dX2_isAhead_43 : decode cX2_isAhead 43 = .ok (.getfield 125, 3) := by decide +kernel
theorem dX2_isAhead_46 : decode cX2_isAhead 46 = .ok (.iload_n 1, 1) := by decide +kernel
theorem dX2_isAhead_47 : decode cX2_isAhead 47 = .ok (.iaload, 1) := by decide +kernel
theorem dX2_isAhead_48 : decode cX2_isAhead 48 = .ok (.aload_n 0, 1) := by decide +kernel
theorem dX2_isAhead_49 : decode cX2_isAhead 49 = .ok (.getfield 12, 3) := by decide +kernel
theorem dX2_isAhead_52 : decode cX2_isAhead 52 = .ok (.getfield 125, 3) := by decide +kernel
theorem dX2_isAhead_55 : decode cX2_isAhead 55 = .ok (.iload_n 3, 1) := by decide +kernel
theorem dX2_isAhead_56 : decode cX2_isAhead 56 = .ok (.iaload, 1) := by decide +kernel
theorem dX2_isAhead_57 : decode cX2_isAhead 57 = .ok (.if_icmp .le 7, 3) := by decide +kernel
theorem dX2_isAhead_60 : decode cX2_isAhead 60 = .ok (.iconst 1, 1) := by decide +kernel
theorem dX2_isAhead_61 : decode cX2_isAhead 61 = .ok (.goto 4, 3) := by decide +kernel
theorem dX2_isAhead_64 : decode cX2_isAhead 64 = .ok (.iconst 0, 1) := by decide +kernel
theorem dX2_isAhead_65 : decode cX2_isAhead 65 = .ok (.ireturn, 1) := by decide +kernel
theorem dX2_isAhead_66 : decode cX2_isAhead 66 = .ok (.aload_n 0, 1) := by decide +kernel
theorem dX2_isAhead_67 : decode cX2_isAhead 67 = .ok (.getfield 12, 3) := by decide +kernel
theorem dX2_isAhead_70 : decode cX2_isAhead 70 = .ok (.getfield 128, 3) := by decide +kernel
theorem dX2_isAhead_73 : decode cX2_isAhead 73 = .ok (.iload_n 1, 1) := by decide +kernel
theorem dX2_isAhead_74 : decode cX2_isAhead 74 = .ok (.iaload, 1) := by decide +kernel
theorem dX2_isAhead_75 : decode cX2_isAhead 75 = .ok (.aload_n 0, 1) := by decide +kernel
theorem dX2_isAhead_76 : decode cX2_isAhead 76 = .ok (.getfield 12, 3) := by decide +kernel
theorem dX2_isAhead_79 : decode cX2_isAhead 79 = .ok (.getfield 128, 3) := by decide +kernel
theorem dX2_isAhead_82 : decode cX2_isAhead 82 = .ok (.iload_n 3, 1) := by decide +kernel
theorem dX2_isAhead_83 : decode cX2_isAhead 83 = .ok (.iaload, 1) := by decide +kernel
theorem dX2_isAhead_84 : decode cX2_isAhead 84 = .ok (.if_icmp .eq 30, 3) := by decide +kernel
theorem dX2_isAhead_87 : decode cX2_isAhead 87 = .ok (.aload_n 0, 1) := by decide +kernel
theorem dX2_isAhead_88 : decode cX2_isAhead 88 = .ok (.getfield 12, 3) := by decide +kernel
theorem dX2_isAhead_91 : decode cX2_isAhead 91 = .ok (.getfield 128, 3) := by decide +kernel
theorem dX2_isAhead_94 : decode cX2_isAhead 94 = .ok (.iload_n 1, 1) := by decide +kernel
theorem dX2_isAhead_95 : decode cX2_isAhead 95 = .ok (.iaload, 1) := by decide +kernel
theorem dX2_isAhead_96 : decode cX2_isAhead 96 = .ok (.aload_n 0, 1) := by decide +kernel
theorem dX2_isAhead_97 : decode cX2_isAhead 97 = .ok (.getfield 12, 3) := by decide +kernel
theorem dX2_isAhead_100 : decode cX2_isAhead 100 = .ok (.getfield 128, 3) := by decide +kernel
theorem dX2_isAhead_103 : decode cX2_isAhead 103 = .ok (.iload_n 3, 1) := by decide +kernel
theorem dX2_isAhead_104 : decode cX2_isAhead 104 = .ok (.iaload, 1) := by decide +kernel
theorem dX2_isAhead_105 : decode cX2_isAhead 105 = .ok (.if_icmp .le 7, 3) := by decide +kernel
theorem dX2_isAhead_108 : decode cX2_isAhead 108 = .ok (.iconst 1, 1) := by decide +kernel
theorem dX2_isAhead_109 : decode cX2_isAhead 109 = .ok (.goto 4, 3) := by decide +kernel
theorem dX2_isAhead_112 : decode cX2_isAhead 112 = .ok (.iconst 0, 1) := by decide +kernel
theorem dX2_isAhead_113 : decode cX2_isAhead 113 = .ok (.ireturn, 1) := by decide +kernel
theorem dX2_isAhead_114 : decode cX2_isAhead 114 = .ok (.iload_n 1, 1) := by decide +kernel
theorem dX2_isAhead_115 : decode cX2_isAhead 115 = .ok (.iload_n 3, 1) := by decide +kernel
theorem dX2_isAhead_116 : decode cX2_isAhead 116 = .ok (.if_icmp .ge 7, 3) := by decide +kernel
theorem dX2_isAhead_119 : decode cX2_isAhead 119 = .ok (.iconst 1, 1) := by decide +kernel
theorem dX2_isAhead_120 : decode cX2_isAhead 120 = .ok (.goto 4, 3) := by decide +kernel
theorem dX2_isAhead_123 : decode cX2_isAhead 123 = .ok (.iconst 0, 1) := by decide +kernel
theorem dX2_isAhead_124 : decode cX2_isAhead 124 = .ok (.ireturn, 1) := by decide +kernel
theorem dX2_aheadIn_0 : decode cX2_aheadIn 0 = .ok (.iconst 0, 1) := by decide +kernel
theorem dX2_aheadIn_1 : decode cX2_aheadIn 1 = .ok (.istore 4, 2) := by decide +kernel
theorem dX2_aheadIn_3 : decode cX2_aheadIn 3 = .ok (.iconst 0, 1) := by decide +kernel
theorem dX2_aheadIn_4 : decode cX2_aheadIn 4 = .ok (.istore 5, 2) := by decide +kernel
theorem dX2_aheadIn_6 : decode cX2_aheadIn 6 = .ok (.iload 5, 2) := by decide +kernel
theorem dX2_aheadIn_8 : decode cX2_aheadIn 8 = .ok (.aload_n 0, 1) := by decide +kernel
theorem dX2_aheadIn_9 : decode cX2_aheadIn 9 = .ok (.getfield 12, 3) := by decide +kernel
theorem dX2_aheadIn_12 : decode cX2_aheadIn 12 = .ok (.getfield 68, 3) := by decide +kernel
theorem dX2_aheadIn_15 : decode cX2_aheadIn 15 = .ok (.if_icmp .ge 42, 3) := by decide +kernel
theorem dX2_aheadIn_18 : decode cX2_aheadIn 18 = .ok (.iload 5, 2) := by decide +kernel
theorem dX2_aheadIn_20 : decode cX2_aheadIn 20 = .ok (.iload_n 2, 1) := by decide +kernel
theorem dX2_aheadIn_21 : decode cX2_aheadIn 21 = .ok (.if_icmp .eq 30, 3) := by decide +kernel
theorem dX2_aheadIn_24 : decode cX2_aheadIn 24 = .ok (.aload_n 0, 1) := by decide +kernel
theorem dX2_aheadIn_25 : decode cX2_aheadIn 25 = .ok (.iload 5, 2) := by decide +kernel
theorem dX2_aheadIn_27 : decode cX2_aheadIn 27 = .ok (.aload_n 0, 1) := by decide +kernel
theorem dX2_aheadIn_28 : decode cX2_aheadIn 28 = .ok (.iload 5, 2) := by decide +kernel
theorem dX2_aheadIn_30 : decode cX2_aheadIn 30 = .ok (.iload_n 1, 1) := by decide +kernel
theorem dX2_aheadIn_31 : decode cX2_aheadIn 31 = .ok (.invokevirtual 131, 3) := by decide +kernel
theorem dX2_aheadIn_34 : decode cX2_aheadIn 34 = .ok (.iload_n 2, 1) := by decide +kernel
theorem dX2_aheadIn_35 : decode cX2_aheadIn 35 = .ok (.iload_n 3, 1) := by decide +kernel
theorem dX2_aheadIn_36 : decode cX2_aheadIn 36 = .ok (.invokevirtual 78, 3) := by decide +kernel
theorem dX2_aheadIn_39 : decode cX2_aheadIn 39 = .ok (.ifCond .eq 12, 3) := by decide +kernel
theorem dX2_aheadIn_42 : decode cX2_aheadIn 42 = .ok (.iload 4, 2) := by decide +kernel
theorem dX2_aheadIn_44 : decode cX2_aheadIn 44 = .ok (.iconst 1, 1) := by decide +kernel
theorem dX2_aheadIn_45 : decode cX2_aheadIn 45 = .ok (.iload 5, 2) := by decide +kernel
theorem dX2_aheadIn_47 : decode cX2_aheadIn 47 = .ok (.ishl, 1) := by decide +kernel
theorem dX2_aheadIn_48 : decode cX2_aheadIn 48 = .ok (.ior, 1) := by decide +kernel
theorem dX2_aheadIn_49 : decode cX2_aheadIn 49 = .ok (.istore 4, 2) := by decide +kernel
theorem dX2_aheadIn_51 : decode cX2_aheadIn 51 = .ok (.iinc 5 1, 3) := by decide +kernel
theorem dX2_aheadIn_54 : decode cX2_aheadIn 54 = .ok (.goto (-48), 3) := by decide +kernel
theorem dX2_aheadIn_57 : decode cX2_aheadIn 57 = .ok (.iload 4, 2) := by decide +kernel
theorem dX2_aheadIn_59 : decode cX2_aheadIn 59 = .ok (.ireturn, 1) := by decide +kernel
theorem dX2_berthIn_0 : decode cX2_berthIn 0 = .ok (.aload_n 0, 1) := by decide +kernel
theorem dX2_berthIn_1 : decode cX2_berthIn 1 = .ok (.getfield 44, 3) := by decide +kernel
theorem dX2_berthIn_4 : decode cX2_berthIn 4 = .ok (.aload_n 0, 1) := by decide +kernel
theorem dX2_berthIn_5 : decode cX2_berthIn 5 = .ok (.iload_n 1, 1) := by decide +kernel
theorem dX2_berthIn_6 : decode cX2_berthIn 6 = .ok (.iload_n 2, 1) := by decide +kernel
theorem dX2_berthIn_7 : decode cX2_berthIn 7 = .ok (.iload_n 3, 1) := by decide +kernel
theorem dX2_berthIn_8 : decode cX2_berthIn 8 = .ok (.invokevirtual 134, 3) := by decide +kernel
theorem dX2_berthIn_11 : decode cX2_berthIn 11 = .ok (.iand, 1) := by decide +kernel
theorem dX2_berthIn_12 : decode cX2_berthIn 12 = .ok (.invokestatic 137, 3) := by decide +kernel
theorem dX2_berthIn_15 : decode cX2_berthIn 15 = .ok (.ireturn, 1) := by decide +kernel
theorem dX2_berthNow_0 : decode cX2_berthNow 0 = .ok (.aload_n 0, 1) := by decide +kernel
theorem dX2_berthNow_1 : decode cX2_berthNow 1 = .ok (.getfield 44, 3) := by decide +kernel
theorem dX2_berthNow_4 : decode cX2_berthNow 4 = .ok (.aload_n 0, 1) := by decide +kernel
theorem dX2_berthNow_5 : decode cX2_berthNow 5 = .ok (.getfield 31, 3) := by decide +kernel
theorem dX2_berthNow_8 : decode cX2_berthNow 8 = .ok (.iload_n 1, 1) := by decide +kernel
theorem dX2_berthNow_9 : decode cX2_berthNow 9 = .ok (.iaload, 1) := by decide +kernel
theorem dX2_berthNow_10 : decode cX2_berthNow 10 = .ok (.iand, 1) := by decide +kernel
theorem dX2_berthNow_11 : decode cX2_berthNow 11 = .ok (.invokestatic 137, 3) := by decide +kernel
theorem dX2_berthNow_14 : decode cX2_berthNow 14 = .ok (.ireturn, 1) := by decide +kernel
theorem dX2_shiftedBy_0 : decode cX2_shiftedBy 0 = .ok (.aload_n 0, 1) := by decide +kernel
theorem dX2_shiftedBy_1 : decode cX2_shiftedBy 1 = .ok (.getfield 44, 3) := by decide +kernel
theorem dX2_shiftedBy_4 : decode cX2_shiftedBy 4 = .ok (.aload_n 0, 1) := by decide +kernel
theorem dX2_shiftedBy_5 : decode cX2_shiftedBy 5 = .ok (.getfield 31, 3) := by decide +kernel
theorem dX2_shiftedBy_8 : decode cX2_shiftedBy 8 = .ok (.iload_n 1, 1) := by decide +kernel
theorem dX2_shiftedBy_9 : decode cX2_shiftedBy 9 = .ok (.iaload, 1) := by decide +kernel
theorem dX2_shiftedBy_10 : decode cX2_shiftedBy 10 = .ok (.iconst (-1), 1) := by decide +kernel
theorem dX2_shiftedBy_11 : decode cX2_shiftedBy 11 = .ok (.ixor, 1) := by decide +kernel
theorem dX2_shiftedBy_12 : decode cX2_shiftedBy 12 = .ok (.iand, 1) := by decide +kernel
theorem dX2_shiftedBy_13 : decode cX2_shiftedBy 13 = .ok (.iconst 1, 1) := by decide +kernel
theorem dX2_shiftedBy_14 : decode cX2_shiftedBy 14 = .ok (.iload_n 1, 1) := by decide +kernel
theorem dX2_shiftedBy_15 : decode cX2_shiftedBy 15 = .ok (.ishl, 1) := by decide +kernel
theorem dX2_shiftedBy_16 : decode cX2_shiftedBy 16 = .ok (.iconst (-1), 1) := by decide +kernel
theorem dX2_shiftedBy_17 : decode cX2_shiftedBy 17 = .ok (.ixor, 1) := by decide +kernel
theorem dX2_shiftedBy_18 : decode cX2_shiftedBy 18 = .ok (.iand, 1) := by decide +kernel
theorem dX2_shiftedBy_19 : decode cX2_shiftedBy 19 = .ok (.invokestatic 137, 3) := by decide +kernel
theorem dX2_shiftedBy_22 : decode cX2_shiftedBy 22 = .ok (.ireturn, 1) := by decide +kernel
theorem dX2_tooDeepBy_0 : decode cX2_tooDeepBy 0 = .ok (.aload_n 0, 1) := by decide +kernel
theorem dX2_tooDeepBy_1 : decode cX2_tooDeepBy 1 = .ok (.iload_n 1, 1) := by decide +kernel
theorem dX2_tooDeepBy_2 : decode cX2_tooDeepBy 2 = .ok (.invokevirtual 142, 3) := by decide +kernel
theorem dX2_tooDeepBy_5 : decode cX2_tooDeepBy 5 = .ok (.ifCond .eq 27, 3) := by decide +kernel
theorem dX2_tooDeepBy_8 : decode cX2_tooDeepBy 8 = .ok (.iconst 0, 1) := by decide +kernel
theorem dX2_tooDeepBy_9 : decode cX2_tooDeepBy 9 = .ok (.aload_n 0, 1) := by decide +kernel
theorem dX2_tooDeepBy_10 : decode cX2_tooDeepBy 10 = .ok (.getfield 12, 3) := by decide +kernel
theorem dX2_tooDeepBy_13 : decode cX2_tooDeepBy 13 = .ok (.getfield 145, 3) := by decide +kernel
theorem dX2_tooDeepBy_16 : decode cX2_tooDeepBy 16 = .ok (.iload_n 1, 1) := by decide +kernel
theorem dX2_tooDeepBy_17 : decode cX2_tooDeepBy 17 = .ok (.iaload, 1) := by decide +kernel
theorem dX2_tooDeepBy_18 : decode cX2_tooDeepBy 18 = .ok (.aload_n 0, 1) := by decide +kernel
theorem dX2_tooDeepBy_19 : decode cX2_tooDeepBy 19 = .ok (.iload_n 1, 1) := by decide +kernel
theorem dX2_tooDeepBy_20 : decode cX2_tooDeepBy 20 = .ok (.invokevirtual 148, 3) := by decide +kernel
theorem dX2_tooDeepBy_23 : decode cX2_tooDeepBy 23 = .ok (.isub, 1) := by decide +kernel
theorem dX2_tooDeepBy_24 : decode cX2_tooDeepBy 24 = .ok (.iconst 2, 1) := by decide +kernel
theorem dX2_tooDeepBy_25 : decode cX2_tooDeepBy 25 = .ok (.isub, 1) := by decide +kernel
theorem dX2_tooDeepBy_26 : decode cX2_tooDeepBy 26 = .ok (.invokestatic 120, 3) := by decide +kernel
theorem dX2_tooDeepBy_29 : decode cX2_tooDeepBy 29 = .ok (.goto 4, 3) := by decide +kernel
theorem dX2_tooDeepBy_32 : decode cX2_tooDeepBy 32 = .ok (.iconst 0, 1) := by decide +kernel
theorem dX2_tooDeepBy_33 : decode cX2_tooDeepBy 33 = .ok (.ireturn, 1) := by decide +kernel
theorem dX2_tooDeep_0 : decode cX2_tooDeep 0 = .ok (.iconst 0, 1) := by decide +kernel
theorem dX2_tooDeep_1 : decode cX2_tooDeep 1 = .ok (.istore_n 1, 1) := by decide +kernel
theorem dX2_tooDeep_2 : decode cX2_tooDeep 2 = .ok (.iconst 0, 1) := by decide +kernel
theorem dX2_tooDeep_3 : decode cX2_tooDeep 3 = .ok (.istore_n 2, 1) := by decide +kernel
theorem dX2_tooDeep_4 : decode cX2_tooDeep 4 = .ok (.iload_n 2, 1) := by decide +kernel
theorem dX2_tooDeep_5 : decode cX2_tooDeep 5 = .ok (.aload_n 0, 1) := by decide +kernel
theorem dX2_tooDeep_6 : decode cX2_tooDeep 6 = .ok (.getfield 12, 3) := by decide +kernel
theorem dX2_tooDeep_9 : decode cX2_tooDeep 9 = .ok (.getfield 68, 3) := by decide +kernel
theorem dX2_tooDeep_12 : decode cX2_tooDeep 12 = .ok (.if_icmp .ge 23, 3) := by decide +kernel
theorem dX2_tooDeep_15 : decode cX2_tooDeep 15 = .ok (.aload_n 0, 1) := by decide +kernel
theorem dX2_tooDeep_16 : decode cX2_tooDeep 16 = .ok (.iload_n 2, 1) := by decide +kernel
theorem dX2_tooDeep_17 : decode cX2_tooDeep 17 = .ok (.invokevirtual 151, 3) := by decide +kernel
theorem dX2_tooDeep_20 : decode cX2_tooDeep 20 = .ok (.ifCond .le 9, 3) := by decide +kernel
theorem dX2_tooDeep_23 : decode cX2_tooDeep 23 = .ok (.iload_n 1, 1) := by decide +kernel
theorem dX2_tooDeep_24 : decode cX2_tooDeep 24 = .ok (.iconst 1, 1) := by decide +kernel
theorem dX2_tooDeep_25 : decode cX2_tooDeep 25 = .ok (.iload_n 2, 1) := by decide +kernel
theorem dX2_tooDeep_26 : decode cX2_tooDeep 26 = .ok (.ishl, 1) := by decide +kernel
theorem dX2_tooDeep_27 : decode cX2_tooDeep 27 = .ok (.ior, 1) := by decide +kernel
theorem dX2_tooDeep_28 : decode cX2_tooDeep 28 = .ok (.istore_n 1, 1) := by decide +kernel
theorem dX2_tooDeep_29 : decode cX2_tooDeep 29 = .ok (.iinc 2 1, 3) := by decide +kernel
theorem dX2_tooDeep_32 : decode cX2_tooDeep 32 = .ok (.goto (-28), 3) := by decide +kernel
theorem dX2_tooDeep_35 : decode cX2_tooDeep 35 = .ok (.iload_n 1, 1) := by decide +kernel
theorem dX2_tooDeep_36 : decode cX2_tooDeep 36 = .ok (.ireturn, 1) := by decide +kernel
theorem dX2_allAground_0 : decode cX2_allAground 0 = .ok (.iconst 0, 1) := by decide +kernel
theorem dX2_allAground_1 : decode cX2_allAground 1 = .ok (.istore_n 1, 1) := by decide +kernel
theorem dX2_allAground_2 : decode cX2_allAground 2 = .ok (.iconst 0, 1) := by decide +kernel
theorem dX2_allAground_3 : decode cX2_allAground 3 = .ok (.istore_n 2, 1) := by decide +kernel
theorem dX2_allAground_4 : decode cX2_allAground 4 = .ok (.iload_n 2, 1) := by decide +kernel
theorem dX2_allAground_5 : decode cX2_allAground 5 = .ok (.aload_n 0, 1) := by decide +kernel
theorem dX2_allAground_6 : decode cX2_allAground 6 = .ok (.getfield 12, 3) := by decide +kernel
theorem dX2_allAground_9 : decode cX2_allAground 9 = .ok (.getfield 68, 3) := by decide +kernel
theorem dX2_allAground_12 : decode cX2_allAground 12 = .ok (.if_icmp .ge 18, 3) := by decide +kernel
theorem dX2_allAground_15 : decode cX2_allAground 15 = .ok (.iload_n 1, 1) := by decide +kernel
theorem dX2_allAground_16 : decode cX2_allAground 16 = .ok (.aload_n 0, 1) := by decide +kernel
theorem dX2_allAground_17 : decode cX2_allAground 17 = .ok (.getfield 22, 3) := by decide +kernel
theorem dX2_allAground_20 : decode cX2_allAground 20 = .ok (.iload_n 2, 1) := by decide +kernel
theorem dX2_allAground_21 : decode cX2_allAground 21 = .ok (.iaload, 1) := by decide +kernel
theorem dX2_allAground_22 : decode cX2_allAground 22 = .ok (.iadd, 1) := by decide +kernel
theorem dX2_allAground_23 : decode cX2_allAground 23 = .ok (.istore_n 1, 1) := by decide +kernel
theorem dX2_allAground_24 : decode cX2_allAground 24 = .ok (.iinc 2 1, 3) := by decide +kernel
theorem dX2_allAground_27 : decode cX2_allAground 27 = .ok (.goto (-23), 3) := by decide +kernel
theorem dX2_allAground_30 : decode cX2_allAground 30 = .ok (.iload_n 1, 1) := by decide +kernel
theorem dX2_allAground_31 : decode cX2_allAground 31 = .ok (.ireturn, 1) := by decide +kernel
theorem dX2_bells_0 : decode cX2_bells 0 = .ok (.iconst 0, 1) := by decide +kernel
theorem dX2_bells_1 : decode cX2_bells 1 = .ok (.istore_n 1, 1) := by decide +kernel
theorem dX2_bells_2 : decode cX2_bells 2 = .ok (.iconst 0, 1) := by decide +kernel
theorem dX2_bells_3 : decode cX2_bells 3 = .ok (.istore_n 2, 1) := by decide +kernel
theorem dX2_bells_4 : decode cX2_bells 4 = .ok (.iload_n 2, 1) := by decide +kernel
theorem dX2_bells_5 : decode cX2_bells 5 = .ok (.aload_n 0, 1) := by decide +kernel
theorem dX2_bells_6 : decode cX2_bells 6 = .ok (.getfield 12, 3) := by decide +kernel
theorem dX2_bells_9 : decode cX2_bells 9 = .ok (.getfield 68, 3) := by decide +kernel
theorem dX2_bells_12 : decode cX2_bells 12 = .ok (.if_icmp .ge 26, 3) := by decide +kernel
theorem dX2_bells_15 : decode cX2_bells 15 = .ok (.iload_n 1, 1) := by decide +kernel
theorem dX2_bells_16 : decode cX2_bells 16 = .ok (.aload_n 0, 1) := by decide +kernel
theorem dX2_bells_17 : decode cX2_bells 17 = .ok (.iload_n 2, 1) := by decide +kernel
theorem dX2_bells_18 : decode cX2_bells 18 = .ok (.iconst 1, 1) := by decide +kernel
theorem dX2_bells_19 : decode cX2_bells 19 = .ok (.invokevirtual 154, 3) := by decide +kernel
theorem dX2_bells_22 : decode cX2_bells 22 = .ok (.ifCond .eq 7, 3) := by decide +kernel
theorem dX2_bells_25 : decode cX2_bells 25 = .ok (.iconst 1, 1) := by decide +kernel
theorem dX2_bells_26 : decode cX2_bells 26 = .ok (.goto 4, 3) := by decide +kernel
theorem dX2_bells_29 : decode cX2_bells 29 = .ok (.iconst 0, 1) := by decide +kernel
theorem dX2_bells_30 : decode cX2_bells 30 = .ok (.iadd, 1) := by decide +kernel
theorem dX2_bells_31 : decode cX2_bells 31 = .ok (.istore_n 1, 1) := by decide +kernel
theorem dX2_bells_32 : decode cX2_bells 32 = .ok (.iinc 2 1, 3) := by decide +kernel
theorem dX2_bells_35 : decode cX2_bells 35 = .ok (.goto (-31), 3) := by decide +kernel
theorem dX2_bells_38 : decode cX2_bells 38 = .ok (.iload_n 1, 1) := by decide +kernel
theorem dX2_bells_39 : decode cX2_bells 39 = .ok (.ireturn, 1) := by decide +kernel
theorem dX2_fact_0 : decode cX2_fact 0 = .ok (.iload_n 2, 1) := by decide +kernel
theorem dX2_fact_1 : decode cX2_fact 1 = .ok (.tableswitch 130 0 7 #[47, 57, 67, 77, 87, 97, 104, 111], 47) := by decide +kernel
theorem dX2_fact_48 : decode cX2_fact 48 = .ok (.aload_n 0, 1) := by decide +kernel
theorem dX2_fact_49 : decode cX2_fact 49 = .ok (.getfield 12, 3) := by decide +kernel
theorem dX2_fact_52 : decode cX2_fact 52 = .ok (.getfield 71, 3) := by decide +kernel
theorem dX2_fact_55 : decode cX2_fact 55 = .ok (.iload_n 1, 1) := by decide +kernel
theorem dX2_fact_56 : decode cX2_fact 56 = .ok (.iaload, 1) := by decide +kernel
theorem dX2_fact_57 : decode cX2_fact 57 = .ok (.ireturn, 1) := by decide +kernel
theorem dX2_fact_58 : decode cX2_fact 58 = .ok (.aload_n 0, 1) := by decide +kernel
theorem dX2_fact_59 : decode cX2_fact 59 = .ok (.getfield 12, 3) := by decide +kernel
theorem dX2_fact_62 : decode cX2_fact 62 = .ok (.getfield 106, 3) := by decide +kernel
theorem dX2_fact_65 : decode cX2_fact 65 = .ok (.iload_n 1, 1) := by decide +kernel
theorem dX2_fact_66 : decode cX2_fact 66 = .ok (.iaload, 1) := by decide +kernel
theorem dX2_fact_67 : decode cX2_fact 67 = .ok (.ireturn, 1) := by decide +kernel
theorem dX2_fact_68 : decode cX2_fact 68 = .ok (.aload_n 0, 1) := by decide +kernel
theorem dX2_fact_69 : decode cX2_fact 69 = .ok (.getfield 12, 3) := by decide +kernel
theorem dX2_fact_72 : decode cX2_fact 72 = .ok (.getfield 125, 3) := by decide +kernel
theorem dX2_fact_75 : decode cX2_fact 75 = .ok (.iload_n 1, 1) := by decide +kernel
theorem dX2_fact_76 : decode cX2_fact 76 = .ok (.iaload, 1) := by decide +kernel
theorem dX2_fact_77 : decode cX2_fact 77 = .ok (.ireturn, 1) := by decide +kernel
theorem dX2_fact_78 : decode cX2_fact 78 = .ok (.aload_n 0, 1) := by decide +kernel
theorem dX2_fact_79 : decode cX2_fact 79 = .ok (.getfield 12, 3) := by decide +kernel
theorem dX2_fact_82 : decode cX2_fact 82 = .ok (.getfield 128, 3) := by decide +kernel
theorem dX2_fact_85 : decode cX2_fact 85 = .ok (.iload_n 1, 1) := by decide +kernel
theorem dX2_fact_86 : decode cX2_fact 86 = .ok (.iaload, 1) := by decide +kernel
theorem dX2_fact_87 : decode cX2_fact 87 = .ok (.ireturn, 1) := by decide +kernel
theorem dX2_fact_88 : decode cX2_fact 88 = .ok (.aload_n 0, 1) := by decide +kernel
theorem dX2_fact_89 : decode cX2_fact 89 = .ok (.getfield 12, 3) := by decide +kernel
theorem dX2_fact_92 : decode cX2_fact 92 = .ok (.getfield 145, 3) := by decide +kernel
theorem dX2_fact_95 : decode cX2_fact 95 = .ok (.iload_n 1, 1) := by decide +kernel
theorem dX2_fact_96 : decode cX2_fact 96 = .ok (.iaload, 1) := by decide +kernel
theorem dX2_fact_97 : decode cX2_fact 97 = .ok (.ireturn, 1) := by decide +kernel
theorem dX2_fact_98 : decode cX2_fact 98 = .ok (.aload_n 0, 1) := by decide +kernel
theorem dX2_fact_99 : decode cX2_fact 99 = .ok (.getfield 18, 3) := by decide +kernel
theorem dX2_fact_102 : decode cX2_fact 102 = .ok (.iload_n 1, 1) := by decide +kernel
theorem dX2_fact_103 : decode cX2_fact 103 = .ok (.iaload, 1) := by decide +kernel
theorem dX2_fact_104 : decode cX2_fact 104 = .ok (.ireturn, 1) := by decide +kernel
theorem dX2_fact_105 : decode cX2_fact 105 = .ok (.aload_n 0, 1) := by decide +kernel
theorem dX2_fact_106 : decode cX2_fact 106 = .ok (.getfield 28, 3) := by decide +kernel
theorem dX2_fact_109 : decode cX2_fact 109 = .ok (.iload_n 1, 1) := by decide +kernel
theorem dX2_fact_110 : decode cX2_fact 110 = .ok (.iaload, 1) := by decide +kernel
theorem dX2_fact_111 : decode cX2_fact 111 = .ok (.ireturn, 1) := by decide +kernel
theorem dX2_fact_112 : decode cX2_fact 112 = .ok (.aload_n 0, 1) := by decide +kernel
theorem dX2_fact_113 : decode cX2_fact 113 = .ok (.iload_n 1, 1) := by decide +kernel
theorem dX2_fact_114 : decode cX2_fact 114 = .ok (.invokevirtual 142, 3) := by decide +kernel
theorem dX2_fact_117 : decode cX2_fact 117 = .ok (.ifCond .eq 11, 3) := by decide +kernel
theorem dX2_fact_120 : decode cX2_fact 120 = .ok (.aload_n 0, 1) := by decide +kernel
theorem dX2_fact_121 : decode cX2_fact 121 = .ok (.iload_n 1, 1) := by decide +kernel
theorem dX2_fact_122 : decode cX2_fact 122 = .ok (.invokevirtual 148, 3) := by decide +kernel
theorem dX2_fact_125 : decode cX2_fact 125 = .ok (.goto 5, 3) := by decide +kernel
theorem dX2_fact_128 : decode cX2_fact 128 = .ok (.bipush (-9), 2) := by decide +kernel
theorem dX2_fact_130 : decode cX2_fact 130 = .ok (.ireturn, 1) := by decide +kernel
theorem dX2_fact_131 : decode cX2_fact 131 = .ok (.aload_n 0, 1) := by decide +kernel
theorem dX2_fact_132 : decode cX2_fact 132 = .ok (.getfield 22, 3) := by decide +kernel
theorem dX2_fact_135 : decode cX2_fact 135 = .ok (.iload_n 1, 1) := by decide +kernel
theorem dX2_fact_136 : decode cX2_fact 136 = .ok (.iaload, 1) := by decide +kernel
theorem dX2_fact_137 : decode cX2_fact 137 = .ok (.ireturn, 1) := by decide +kernel
theorem dX2_markOf_0 : decode cX2_markOf 0 = .ok (.aload_n 0, 1) := by decide +kernel
theorem dX2_markOf_1 : decode cX2_markOf 1 = .ok (.iload_n 1, 1) := by decide +kernel
theorem dX2_markOf_2 : decode cX2_markOf 2 = .ok (.iconst 0, 1) := by decide +kernel
theorem dX2_markOf_3 : decode cX2_markOf 3 = .ok (.aload_n 0, 1) := by decide +kernel
theorem dX2_markOf_4 : decode cX2_markOf 4 = .ok (.getfield 38, 3) := by decide +kernel
theorem dX2_markOf_7 : decode cX2_markOf 7 = .ok (.invokevirtual 74, 3) := by decide +kernel
theorem dX2_markOf_10 : decode cX2_markOf 10 = .ok (.istore_n 3, 1) := by decide +kernel
theorem dX2_markOf_11 : decode cX2_markOf 11 = .ok (.iload_n 2, 1) := by decide +kernel
theorem dX2_markOf_12 : decode cX2_markOf 12 = .ok (.tableswitch 92 1 4 #[32, 41, 50, 60], 32) := by decide +kernel
theorem dX2_markOf_44 : decode cX2_markOf 44 = .ok (.aload_n 0, 1) := by decide +kernel
theorem dX2_markOf_45 : decode cX2_markOf 45 = .ok (.getfield 28, 3) := by decide +kernel
theorem dX2_markOf_48 : decode cX2_markOf 48 = .ok (.iload_n 1, 1) := by decide +kernel
theorem dX2_markOf_49 : decode cX2_markOf 49 = .ok (.iaload, 1) := by decide +kernel
theorem dX2_markOf_50 : decode cX2_markOf 50 = .ok (.iload_n 3, 1) := by decide +kernel
theorem dX2_markOf_51 : decode cX2_markOf 51 = .ok (.isub, 1) := by decide +kernel
theorem dX2_markOf_52 : decode cX2_markOf 52 = .ok (.ireturn, 1) := by decide +kernel
theorem dX2_markOf_53 : decode cX2_markOf 53 = .ok (.iload_n 3, 1) := by decide +kernel
theorem dX2_markOf_54 : decode cX2_markOf 54 = .ok (.aload_n 0, 1) := by decide +kernel
theorem dX2_markOf_55 : decode cX2_markOf 55 = .ok (.getfield 28, 3) := by decide +kernel
theorem dX2_markOf_58 : decode cX2_markOf 58 = .ok (.iload_n 1, 1) := by decide +kernel
theorem dX2_markOf_59 : decode cX2_markOf 59 = .ok (.iaload, 1) := by decide +kernel
theorem dX2_markOf_60 : decode cX2_markOf 60 = .ok (.isub, 1) := by decide +kernel
theorem dX2_markOf_61 : decode cX2_markOf 61 = .ok (.ireturn, 1) := by decide +kernel
theorem dX2_markOf_62 : decode cX2_markOf 62 = .ok (.aload_n 0, 1) := by decide +kernel
theorem dX2_markOf_63 : decode cX2_markOf 63 = .ok (.getfield 31, 3) := by decide +kernel
theorem dX2_markOf_66 : decode cX2_markOf 66 = .ok (.iload_n 1, 1) := by decide +kernel
theorem dX2_markOf_67 : decode cX2_markOf 67 = .ok (.iaload, 1) := by decide +kernel
theorem dX2_markOf_68 : decode cX2_markOf 68 = .ok (.invokestatic 137, 3) := by decide +kernel
theorem dX2_markOf_71 : decode cX2_markOf 71 = .ok (.ireturn, 1) := by decide +kernel
theorem dX2_markOf_72 : decode cX2_markOf 72 = .ok (.aload_n 0, 1) := by decide +kernel
theorem dX2_markOf_73 : decode cX2_markOf 73 = .ok (.aload_n 0, 1) := by decide +kernel
theorem dX2_markOf_74 : decode cX2_markOf 74 = .ok (.getfield 38, 3) := by decide +kernel
theorem dX2_markOf_77 : decode cX2_markOf 77 = .ok (.iload_n 1, 1) := by decide +kernel
theorem dX2_markOf_78 : decode cX2_markOf 78 = .ok (.aload_n 0, 1) := by decide +kernel
theorem dX2_markOf_79 : decode cX2_markOf 79 = .ok (.iload_n 1, 1) := by decide +kernel
theorem dX2_markOf_80 : decode cX2_markOf 80 = .ok (.iconst 1, 1) := by decide +kernel
theorem dX2_markOf_81 : decode cX2_markOf 81 = .ok (.aload_n 0, 1) := by decide +kernel
theorem dX2_markOf_82 : decode cX2_markOf 82 = .ok (.getfield 38, 3) := by decide +kernel
theorem dX2_markOf_85 : decode cX2_markOf 85 = .ok (.invokevirtual 74, 3) := by decide +kernel
theorem dX2_markOf_88 : decode cX2_markOf 88 = .ok (.invokevirtual 134, 3) := by decide +kernel
theorem dX2_markOf_91 : decode cX2_markOf 91 = .ok (.aload_n 0, 1) := by decide +kernel
theorem dX2_markOf_92 : decode cX2_markOf 92 = .ok (.getfield 31, 3) := by decide +kernel
theorem dX2_markOf_95 : decode cX2_markOf 95 = .ok (.iload_n 1, 1) := by decide +kernel
theorem dX2_markOf_96 : decode cX2_markOf 96 = .ok (.iaload, 1) := by decide +kernel
theorem dX2_markOf_97 : decode cX2_markOf 97 = .ok (.iconst (-1), 1) := by decide +kernel
theorem dX2_markOf_98 : decode cX2_markOf 98 = .ok (.ixor, 1) := by decide +kernel
theorem dX2_markOf_99 : decode cX2_markOf 99 = .ok (.iand, 1) := by decide +kernel
theorem dX2_markOf_100 : decode cX2_markOf 100 = .ok (.invokestatic 137, 3) := by decide +kernel
theorem dX2_markOf_103 : decode cX2_markOf 103 = .ok (.ireturn, 1) := by decide +kernel
theorem dX2_markOf_104 : decode cX2_markOf 104 = .ok (.aload_n 0, 1) := by decide +kernel
theorem dX2_markOf_105 : decode cX2_markOf 105 = .ok (.iload_n 1, 1) := by decide +kernel
theorem dX2_markOf_106 : decode cX2_markOf 106 = .ok (.invokevirtual 112, 3) := by decide +kernel
theorem dX2_markOf_109 : decode cX2_markOf 109 = .ok (.ifCond .eq 7, 3) := by decide +kernel
theorem dX2_markOf_112 : decode cX2_markOf 112 = .ok (.iconst 1, 1) := by decide +kernel
theorem dX2_markOf_113 : decode cX2_markOf 113 = .ok (.goto 4, 3) := by decide +kernel
theorem dX2_markOf_116 : decode cX2_markOf 116 = .ok (.iconst 0, 1) := by decide +kernel
theorem dX2_markOf_117 : decode cX2_markOf 117 = .ok (.ireturn, 1) := by decide +kernel
theorem dX2_greatestPart_0 : decode cX2_greatestPart 0 = .ok (.iconst 0, 1) := by decide +kernel
theorem dX2_greatestPart_1 : decode cX2_greatestPart 1 = .ok (.istore 4, 2) := by decide +kernel
theorem dX2_greatestPart_3 : decode cX2_greatestPart 3 = .ok (.iconst 0, 1) := by decide +kernel
theorem dX2_greatestPart_4 : decode cX2_greatestPart 4 = .ok (.istore 5, 2) := by decide +kernel
theorem dX2_greatestPart_6 : decode cX2_greatestPart 6 = .ok (.iload 5, 2) := by decide +kernel
theorem dX2_greatestPart_8 : decode cX2_greatestPart 8 = .ok (.bipush 6, 2) := by decide +kernel
theorem dX2_greatestPart_10 : decode cX2_greatestPart 10 = .ok (.if_icmp .ge 41, 3) := by decide +kernel
theorem dX2_greatestPart_13 : decode cX2_greatestPart 13 = .ok (.iload_n 2, 1) := by decide +kernel
theorem dX2_greatestPart_14 : decode cX2_greatestPart 14 = .ok (.iload 5, 2) := by decide +kernel
theorem dX2_greatestPart_16 : decode cX2_greatestPart 16 = .ok (.ishr, 1) := by decide +kernel
theorem dX2_greatestPart_17 : decode cX2_greatestPart 17 = .ok (.iconst 1, 1) := by decide +kernel
theorem dX2_greatestPart_18 : decode cX2_greatestPart 18 = .ok (.iand, 1) := by decide +kernel
theorem dX2_greatestPart_19 : decode cX2_greatestPart 19 = .ok (.iconst 1, 1) := by decide +kernel
theorem dX2_greatestPart_20 : decode cX2_greatestPart 20 = .ok (.if_icmp .ne 25, 3) := by decide +kernel
theorem dX2_greatestPart_23 : decode cX2_greatestPart 23 = .ok (.iload 4, 2) := by decide +kernel
theorem dX2_greatestPart_25 : decode cX2_greatestPart 25 = .ok (.aload_n 0, 1) := by decide +kernel
theorem dX2_greatestPart_26 : decode cX2_greatestPart 26 = .ok (.iload_n 1, 1) := by decide +kernel
theorem dX2_greatestPart_27 : decode cX2_greatestPart 27 = .ok (.iload_n 2, 1) := by decide +kernel
theorem dX2_greatestPart_28 : decode cX2_greatestPart 28 = .ok (.iload_n 3, 1) := by decide +kernel
theorem dX2_greatestPart_29 : decode cX2_greatestPart 29 = .ok (.aload_n 0, 1) := by decide +kernel
theorem dX2_greatestPart_30 : decode cX2_greatestPart 30 = .ok (.iload_n 1, 1) := by decide +kernel
theorem dX2_greatestPart_31 : decode cX2_greatestPart 31 = .ok (.iload 5, 2) := by decide +kernel
theorem dX2_greatestPart_33 : decode cX2_greatestPart 33 = .ok (.iload_n 3, 1) := by decide +kernel
theorem dX2_greatestPart_34 : decode cX2_greatestPart 34 = .ok (.invokevirtual 74, 3) := by decide +kernel
theorem dX2_greatestPart_37 : decode cX2_greatestPart 37 = .ok (.invokevirtual 158, 3) := by decide +kernel
theorem dX2_greatestPart_40 : decode cX2_greatestPart 40 = .ok (.invokestatic 120, 3) := by decide +kernel
theorem dX2_greatestPart_43 : decode cX2_greatestPart 43 = .ok (.istore 4, 2) := by decide +kernel
theorem dX2_greatestPart_45 : decode cX2_greatestPart 45 = .ok (.iinc 5 1, 3) := by decide +kernel
theorem dX2_greatestPart_48 : decode cX2_greatestPart 48 = .ok (.goto (-42), 3) := by decide +kernel
theorem dX2_greatestPart_51 : decode cX2_greatestPart 51 = .ok (.iload 4, 2) := by decide +kernel
theorem dX2_greatestPart_53 : decode cX2_greatestPart 53 = .ok (.ireturn, 1) := by decide +kernel
theorem dX2_alike_0 : decode cX2_alike 0 = .ok (.iconst 0, 1) := by decide +kernel
theorem dX2_alike_1 : decode cX2_alike 1 = .ok (.istore 5, 2) := by decide +kernel
theorem dX2_alike_3 : decode cX2_alike 3 = .ok (.iconst 0, 1) := by decide +kernel
theorem dX2_alike_4 : decode cX2_alike 4 = .ok (.istore 6, 2) := by decide +kernel
theorem dX2_alike_6 : decode cX2_alike 6 = .ok (.iload 6, 2) := by decide +kernel
theorem dX2_alike_8 : decode cX2_alike 8 = .ok (.bipush 6, 2) := by decide +kernel
theorem dX2_alike_10 : decode cX2_alike 10 = .ok (.if_icmp .ge 35, 3) := by decide +kernel
theorem dX2_alike_13 : decode cX2_alike 13 = .ok (.iload_n 2, 1) := by decide +kernel
theorem dX2_alike_14 : decode cX2_alike 14 = .ok (.iload 6, 2) := by decide +kernel
theorem dX2_alike_16 : decode cX2_alike 16 = .ok (.ishr, 1) := by decide +kernel
theorem dX2_alike_17 : decode cX2_alike 17 = .ok (.iconst 1, 1) := by decide +kernel
theorem dX2_alike_18 : decode cX2_alike 18 = .ok (.iand, 1) := by decide +kernel
theorem dX2_alike_19 : decode cX2_alike 19 = .ok (.iconst 1, 1) := by decide +kernel
theorem dX2_alike_20 : decode cX2_alike 20 = .ok (.if_icmp .ne 19, 3) := by decide +kernel
theorem dX2_alike_23 : decode cX2_alike 23 = .ok (.aload_n 0, 1) := by decide +kernel
theorem dX2_alike_24 : decode cX2_alike 24 = .ok (.iload_n 1, 1) := by decide +kernel
theorem dX2_alike_25 : decode cX2_alike 25 = .ok (.iload 6, 2) := by decide +kernel
theorem dX2_alike_27 : decode cX2_alike 27 = .ok (.iload_n 3, 1) := by decide +kernel
theorem dX2_alike_28 : decode cX2_alike 28 = .ok (.invokevirtual 74, 3) := by decide +kernel
theorem dX2_alike_31 : decode cX2_alike 31 = .ok (.iload 4, 2) := by decide +kernel
theorem dX2_alike_33 : decode cX2_alike 33 = .ok (.if_icmp .ne 6, 3) := by decide +kernel
theorem dX2_alike_36 : decode cX2_alike 36 = .ok (.iinc 5 1, 3) := by decide +kernel
theorem dX2_alike_39 : decode cX2_alike 39 = .ok (.iinc 6 1, 3) := by decide +kernel
theorem dX2_alike_42 : decode cX2_alike 42 = .ok (.goto (-36), 3) := by decide +kernel
theorem dX2_alike_45 : decode cX2_alike 45 = .ok (.iload 5, 2) := by decide +kernel
theorem dX2_alike_47 : decode cX2_alike 47 = .ok (.ireturn, 1) := by decide +kernel
theorem dX3_init_0 : decode cX3_init 0 = .ok (.aload_n 0, 1) := by decide +kernel
theorem dX3_init_1 : decode cX3_init 1 = .ok (.invokespecial 3, 3) := by decide +kernel
theorem dX3_init_4 : decode cX3_init 4 = .ok (.aload_n 0, 1) := by decide +kernel
theorem dX3_init_5 : decode cX3_init 5 = .ok (.bipush 64, 2) := by decide +kernel
theorem dX3_init_7 : decode cX3_init 7 = .ok (.newarray .int, 2) := by decide +kernel
theorem dX3_init_9 : decode cX3_init 9 = .ok (.putfield 9, 3) := by decide +kernel
theorem dX3_init_12 : decode cX3_init 12 = .ok (.aload_n 0, 1) := by decide +kernel
theorem dX3_init_13 : decode cX3_init 13 = .ok (.bipush 64, 2) := by decide +kernel
theorem dX3_init_15 : decode cX3_init 15 = .ok (.newarray .int, 2) := by decide +kernel
theorem dX3_init_17 : decode cX3_init 17 = .ok (.putfield 15, 3) := by decide +kernel
theorem dX3_init_20 : decode cX3_init 20 = .ok (.aload_n 0, 1) := by decide +kernel
theorem dX3_init_21 : decode cX3_init 21 = .ok (.aload_n 1, 1) := by decide +kernel
theorem dX3_init_22 : decode cX3_init 22 = .ok (.putfield 18, 3) := by decide +kernel
theorem dX3_init_25 : decode cX3_init 25 = .ok (.return_, 1) := by decide +kernel
theorem dX3_outcome_0 : decode cX3_outcome 0 = .ok (.iconst 1, 1) := by decide +kernel
theorem dX3_outcome_1 : decode cX3_outcome 1 = .ok (.aload_n 0, 1) := by decide +kernel
theorem dX3_outcome_2 : decode cX3_outcome 2 = .ok (.getfield 18, 3) := by decide +kernel
theorem dX3_outcome_5 : decode cX3_outcome 5 = .ok (.getfield 22, 3) := by decide +kernel
theorem dX3_outcome_8 : decode cX3_outcome 8 = .ok (.getfield 28, 3) := by decide +kernel
theorem dX3_outcome_11 : decode cX3_outcome 11 = .ok (.ishl, 1) := by decide +kernel
theorem dX3_outcome_12 : decode cX3_outcome 12 = .ok (.istore_n 2, 1) := by decide +kernel
theorem dX3_outcome_13 : decode cX3_outcome 13 = .ok (.iconst 0, 1) := by decide +kernel
theorem dX3_outcome_14 : decode cX3_outcome 14 = .ok (.istore_n 3, 1) := by decide +kernel
theorem dX3_outcome_15 : decode cX3_outcome 15 = .ok (.iload_n 3, 1) := by decide +kernel
theorem dX3_outcome_16 : decode cX3_outcome 16 = .ok (.iload_n 2, 1) := by decide +kernel
theorem dX3_outcome_17 : decode cX3_outcome 17 = .ok (.if_icmp .ge 20, 3) := by decide +kernel
theorem dX3_outcome_20 : decode cX3_outcome 20 = .ok (.aload_n 0, 1) := by decide +kernel
theorem dX3_outcome_21 : decode cX3_outcome 21 = .ok (.getfield 9, 3) := by decide +kernel
theorem dX3_outcome_24 : decode cX3_outcome 24 = .ok (.iload_n 3, 1) := by decide +kernel
theorem dX3_outcome_25 : decode cX3_outcome 25 = .ok (.aload_n 0, 1) := by decide +kernel
theorem dX3_outcome_26 : decode cX3_outcome 26 = .ok (.iload_n 3, 1) := by decide +kernel
theorem dX3_outcome_27 : decode cX3_outcome 27 = .ok (.invokevirtual 34, 3) := by decide +kernel
theorem dX3_outcome_30 : decode cX3_outcome 30 = .ok (.iastore, 1) := by decide +kernel
theorem dX3_outcome_31 : decode cX3_outcome 31 = .ok (.iinc 3 1, 3) := by decide +kernel
theorem dX3_outcome_34 : decode cX3_outcome 34 = .ok (.goto (-19), 3) := by decide +kernel
theorem dX3_outcome_37 : decode cX3_outcome 37 = .ok (.iload_n 1, 1) := by decide +kernel
theorem dX3_outcome_38 : decode cX3_outcome 38 = .ok (.iconst 1, 1) := by decide +kernel
theorem dX3_outcome_39 : decode cX3_outcome 39 = .ok (.isub, 1) := by decide +kernel
theorem dX3_outcome_40 : decode cX3_outcome 40 = .ok (.istore_n 3, 1) := by decide +kernel
theorem dX3_outcome_41 : decode cX3_outcome 41 = .ok (.iload_n 3, 1) := by decide +kernel
theorem dX3_outcome_42 : decode cX3_outcome 42 = .ok (.ifCond .lt 54, 3) := by decide +kernel
theorem dX3_outcome_45 : decode cX3_outcome 45 = .ok (.aload_n 0, 1) := by decide +kernel
theorem dX3_outcome_46 : decode cX3_outcome 46 = .ok (.getfield 9, 3) := by decide +kernel
theorem dX3_outcome_49 : decode cX3_outcome 49 = .ok (.iconst 0, 1) := by decide +kernel
theorem dX3_outcome_50 : decode cX3_outcome 50 = .ok (.aload_n 0, 1) := by decide +kernel
theorem dX3_outcome_51 : decode cX3_outcome 51 = .ok (.getfield 15, 3) := by decide +kernel
theorem dX3_outcome_54 : decode cX3_outcome 54 = .ok (.iconst 0, 1) := by decide +kernel
theorem dX3_outcome_55 : decode cX3_outcome 55 = .ok (.iload_n 2, 1) := by decide +kernel
theorem dX3_outcome_56 : decode cX3_outcome 56 = .ok (.invokestatic 38, 3) := by decide +kernel
theorem dX3_outcome_59 : decode cX3_outcome 59 = .ok (.iconst 0, 1) := by decide +kernel
theorem dX3_outcome_60 : decode cX3_outcome 60 = .ok (.istore 4, 2) := by decide +kernel
theorem dX3_outcome_62 : decode cX3_outcome 62 = .ok (.iload 4, 2) := by decide +kernel
theorem dX3_outcome_64 : decode cX3_outcome 64 = .ok (.iload_n 2, 1) := by decide +kernel
theorem dX3_outcome_65 : decode cX3_outcome 65 = .ok (.if_icmp .ge 25, 3) := by decide +kernel
theorem dX3_outcome_68 : decode cX3_outcome 68 = .ok (.aload_n 0, 1) := by decide +kernel
theorem dX3_outcome_69 : decode cX3_outcome 69 = .ok (.getfield 9, 3) := by decide +kernel
theorem dX3_outcome_72 : decode cX3_outcome 72 = .ok (.iload 4, 2) := by decide +kernel
theorem dX3_outcome_74 : decode cX3_outcome 74 = .ok (.aload_n 0, 1) := by decide +kernel
theorem dX3_outcome_75 : decode cX3_outcome 75 = .ok (.iload 4, 2) := by decide +kernel
theorem dX3_outcome_77 : decode cX3_outcome 77 = .ok (.iload_n 3, 1) := by decide +kernel
theorem dX3_outcome_78 : decode cX3_outcome 78 = .ok (.iconst 2, 1) := by decide +kernel
theorem dX3_outcome_79 : decode cX3_outcome 79 = .ok (.irem, 1) := by decide +kernel
theorem dX3_outcome_80 : decode cX3_outcome 80 = .ok (.invokevirtual 44, 3) := by decide +kernel
theorem dX3_outcome_83 : decode cX3_outcome 83 = .ok (.iastore, 1) := by decide +kernel
theorem dX3_outcome_84 : decode cX3_outcome 84 = .ok (.iinc 4 1, 3) := by decide +kernel
theorem dX3_outcome_87 : decode cX3_outcome 87 = .ok (.goto (-25), 3) := by decide +kernel
theorem dX3_outcome_90 : decode cX3_outcome 90 = .ok (.iinc 3 (-1), 3) := by decide +kernel
theorem dX3_outcome_93 : decode cX3_outcome 93 = .ok (.goto (-52), 3) := by decide +kernel
theorem dX3_outcome_96 : decode cX3_outcome 96 = .ok (.aload_n 0, 1) := by decide +kernel
theorem dX3_outcome_97 : decode cX3_outcome 97 = .ok (.getfield 9, 3) := by decide +kernel
theorem dX3_outcome_100 : decode cX3_outcome 100 = .ok (.aload_n 0, 1) := by decide +kernel
theorem dX3_outcome_101 : decode cX3_outcome 101 = .ok (.getfield 18, 3) := by decide +kernel
theorem dX3_outcome_104 : decode cX3_outcome 104 = .ok (.getfield 48, 3) := by decide +kernel
theorem dX3_outcome_107 : decode cX3_outcome 107 = .ok (.iaload, 1) := by decide +kernel
theorem dX3_outcome_108 : decode cX3_outcome 108 = .ok (.ireturn, 1) := by decide +kernel
theorem dX3_worthAtEnd_0 : decode cX3_worthAtEnd 0 = .ok (.iconst 0, 1) := by decide +kernel
theorem dX3_worthAtEnd_1 : decode cX3_worthAtEnd 1 = .ok (.istore_n 2, 1) := by decide +kernel
theorem dX3_worthAtEnd_2 : decode cX3_worthAtEnd 2 = .ok (.iconst 0, 1) := by decide +kernel
theorem dX3_worthAtEnd_3 : decode cX3_worthAtEnd 3 = .ok (.istore_n 3, 1) := by decide +kernel
theorem dX3_worthAtEnd_4 : decode cX3_worthAtEnd 4 = .ok (.iload_n 3, 1) := by decide +kernel
theorem dX3_worthAtEnd_5 : decode cX3_worthAtEnd 5 = .ok (.aload_n 0, 1) := by decide +kernel
theorem dX3_worthAtEnd_6 : decode cX3_worthAtEnd 6 = .ok (.getfield 18, 3) := by decide +kernel
theorem dX3_worthAtEnd_9 : decode cX3_worthAtEnd 9 = .ok (.getfield 22, 3) := by decide +kernel
theorem dX3_worthAtEnd_12 : decode cX3_worthAtEnd 12 = .ok (.getfield 28, 3) := by decide +kernel
theorem dX3_worthAtEnd_15 : decode cX3_worthAtEnd 15 = .ok (.if_icmp .ge 52, 3) := by decide +kernel
theorem dX3_worthAtEnd_18 : decode cX3_worthAtEnd 18 = .ok (.iload_n 1, 1) := by decide +kernel
theorem dX3_worthAtEnd_19 : decode cX3_worthAtEnd 19 = .ok (.iload_n 3, 1) := by decide +kernel
theorem dX3_worthAtEnd_20 : decode cX3_worthAtEnd 20 = .ok (.ishr, 1) := by decide +kernel
theorem dX3_worthAtEnd_21 : decode cX3_worthAtEnd 21 = .ok (.iconst 1, 1) := by decide +kernel
theorem dX3_worthAtEnd_22 : decode cX3_worthAtEnd 22 = .ok (.iand, 1) := by decide +kernel
theorem dX3_worthAtEnd_23 : decode cX3_worthAtEnd 23 = .ok (.iconst 1, 1) := by decide +kernel
theorem dX3_worthAtEnd_24 : decode cX3_worthAtEnd 24 = .ok (.if_icmp .ne 37, 3) := by decide +kernel
theorem dX3_worthAtEnd_27 : decode cX3_worthAtEnd 27 = .ok (.iload_n 1, 1) := by decide +kernel
theorem dX3_worthAtEnd_28 : decode cX3_worthAtEnd 28 = .ok (.aload_n 0, 1) := by decide +kernel
theorem dX3_worthAtEnd_29 : decode cX3_worthAtEnd 29 = .ok (.getfield 18, 3) := by decide +kernel
theorem dX3_worthAtEnd_32 : decode cX3_worthAtEnd 32 = .ok (.getfield 51, 3) := by decide +kernel
theorem dX3_worthAtEnd_35 : decode cX3_worthAtEnd 35 = .ok (.iload_n 3, 1) := by decide +kernel
theorem dX3_worthAtEnd_36 : decode cX3_worthAtEnd 36 = .ok (.iaload, 1) := by decide +kernel
theorem dX3_worthAtEnd_37 : decode cX3_worthAtEnd 37 = .ok (.iand, 1) := by decide +kernel
theorem dX3_worthAtEnd_38 : decode cX3_worthAtEnd 38 = .ok (.invokestatic 54, 3) := by decide +kernel
theorem dX3_worthAtEnd_41 : decode cX3_worthAtEnd 41 = .ok (.istore 4, 2) := by decide +kernel
theorem dX3_worthAtEnd_43 : decode cX3_worthAtEnd 43 = .ok (.iload_n 2, 1) := by decide +kernel
theorem dX3_worthAtEnd_44 : decode cX3_worthAtEnd 44 = .ok (.iload_n 3, 1) := by decide +kernel
theorem dX3_worthAtEnd_45 : decode cX3_worthAtEnd 45 = .ok (.iconst 2, 1) := by decide +kernel
theorem dX3_worthAtEnd_46 : decode cX3_worthAtEnd 46 = .ok (.irem, 1) := by decide +kernel
theorem dX3_worthAtEnd_47 : decode cX3_worthAtEnd 47 = .ok (.iconst 1, 1) := by decide +kernel
theorem dX3_worthAtEnd_48 : decode cX3_worthAtEnd 48 = .ok (.if_icmp .ne 8, 3) := by decide +kernel
theorem dX3_worthAtEnd_51 : decode cX3_worthAtEnd 51 = .ok (.iload 4, 2) := by decide +kernel
theorem dX3_worthAtEnd_53 : decode cX3_worthAtEnd 53 = .ok (.goto 6, 3) := by decide +kernel
theorem dX3_worthAtEnd_56 : decode cX3_worthAtEnd 56 = .ok (.iload 4, 2) := by decide +kernel
theorem dX3_worthAtEnd_58 : decode cX3_worthAtEnd 58 = .ok (.ineg, 1) := by decide +kernel
theorem dX3_worthAtEnd_59 : decode cX3_worthAtEnd 59 = .ok (.iadd, 1) := by decide +kernel
theorem dX3_worthAtEnd_60 : decode cX3_worthAtEnd 60 = .ok (.istore_n 2, 1) := by decide +kernel
theorem dX3_worthAtEnd_61 : decode cX3_worthAtEnd 61 = .ok (.iinc 3 1, 3) := by decide +kernel
theorem dX3_worthAtEnd_64 : decode cX3_worthAtEnd 64 = .ok (.goto (-60), 3) := by decide +kernel
theorem dX3_worthAtEnd_67 : decode cX3_worthAtEnd 67 = .ok (.iload_n 2, 1) := by decide +kernel
theorem dX3_worthAtEnd_68 : decode cX3_worthAtEnd 68 = .ok (.ireturn, 1) := by decide +kernel
theorem dX3_worthBefore_0 : decode cX3_worthBefore 0 = .ok (.aload_n 0, 1) := by decide +kernel
theorem dX3_worthBefore_1 : decode cX3_worthBefore 1 = .ok (.getfield 15, 3) := by decide +kernel
theorem dX3_worthBefore_4 : decode cX3_worthBefore 4 = .ok (.iload_n 1, 1) := by decide +kernel
theorem dX3_worthBefore_5 : decode cX3_worthBefore 5 = .ok (.iaload, 1) := by decide +kernel
theorem dX3_worthBefore_6 : decode cX3_worthBefore 6 = .ok (.istore_n 3, 1) := by decide +kernel
theorem dX3_worthBefore_7 : decode cX3_worthBefore 7 = .ok (.iload_n 2, 1) := by decide +kernel
theorem dX3_worthBefore_8 : decode cX3_worthBefore 8 = .ok (.istore 4, 2) := by decide +kernel
theorem dX3_worthBefore_10 : decode cX3_worthBefore 10 = .ok (.iload 4, 2) := by decide +kernel
theorem dX3_worthBefore_12 : decode cX3_worthBefore 12 = .ok (.aload_n 0, 1) := by decide +kernel
theorem dX3_worthBefore_13 : decode cX3_worthBefore 13 = .ok (.getfield 18, 3) := by decide +kernel
theorem dX3_worthBefore_16 : decode cX3_worthBefore 16 = .ok (.getfield 22, 3) := by decide +kernel
theorem dX3_worthBefore_19 : decode cX3_worthBefore 19 = .ok (.getfield 28, 3) := by decide +kernel
theorem dX3_worthBefore_22 : decode cX3_worthBefore 22 = .ok (.if_icmp .ge 42, 3) := by decide +kernel
theorem dX3_worthBefore_25 : decode cX3_worthBefore 25 = .ok (.aload_n 0, 1) := by decide +kernel
theorem dX3_worthBefore_26 : decode cX3_worthBefore 26 = .ok (.getfield 15, 3) := by decide +kernel
theorem dX3_worthBefore_29 : decode cX3_worthBefore 29 = .ok (.iload_n 1, 1) := by decide +kernel
theorem dX3_worthBefore_30 : decode cX3_worthBefore 30 = .ok (.iconst 1, 1) := by decide +kernel
theorem dX3_worthBefore_31 : decode cX3_worthBefore 31 = .ok (.iload 4, 2) := by decide +kernel
theorem dX3_worthBefore_33 : decode cX3_worthBefore 33 = .ok (.ishl, 1) := by decide +kernel
theorem dX3_worthBefore_34 : decode cX3_worthBefore 34 = .ok (.ixor, 1) := by decide +kernel
theorem dX3_worthBefore_35 : decode cX3_worthBefore 35 = .ok (.iaload, 1) := by decide +kernel
theorem dX3_worthBefore_36 : decode cX3_worthBefore 36 = .ok (.istore 5, 2) := by decide +kernel
theorem dX3_worthBefore_38 : decode cX3_worthBefore 38 = .ok (.iload_n 2, 1) := by decide +kernel
theorem dX3_worthBefore_39 : decode cX3_worthBefore 39 = .ok (.ifCond .ne 12, 3) := by decide +kernel
theorem dX3_worthBefore_42 : decode cX3_worthBefore 42 = .ok (.iload_n 3, 1) := by decide +kernel
theorem dX3_worthBefore_43 : decode cX3_worthBefore 43 = .ok (.iload 5, 2) := by decide +kernel
theorem dX3_worthBefore_45 : decode cX3_worthBefore 45 = .ok (.invokestatic 59, 3) := by decide +kernel
theorem dX3_worthBefore_48 : decode cX3_worthBefore 48 = .ok (.goto 9, 3) := by decide +kernel
theorem dX3_worthBefore_51 : decode cX3_worthBefore 51 = .ok (.iload_n 3, 1) := by decide +kernel
theorem dX3_worthBefore_52 : decode cX3_worthBefore 52 = .ok (.iload 5, 2) := by decide +kernel
theorem dX3_worthBefore_54 : decode cX3_worthBefore 54 = .ok (.invokestatic 64, 3) := by decide +kernel
theorem dX3_worthBefore_57 : decode cX3_worthBefore 57 = .ok (.istore_n 3, 1) := by decide +kernel
theorem dX3_worthBefore_58 : decode cX3_worthBefore 58 = .ok (.iinc 4 2, 3) := by decide +kernel
theorem dX3_worthBefore_61 : decode cX3_worthBefore 61 = .ok (.goto (-51), 3) := by decide +kernel
theorem dX3_worthBefore_64 : decode cX3_worthBefore 64 = .ok (.iload_n 3, 1) := by decide +kernel
theorem dX3_worthBefore_65 : decode cX3_worthBefore 65 = .ok (.ireturn, 1) := by decide +kernel
theorem dX4_init_0 : decode cX4_init 0 = .ok (.aload_n 0, 1) := by decide +kernel
theorem dX4_init_1 : decode cX4_init 1 = .ok (.invokespecial 3, 3) := by decide +kernel
theorem dX4_init_4 : decode cX4_init 4 = .ok (.aload_n 0, 1) := by decide +kernel
theorem dX4_init_5 : decode cX4_init 5 = .ok (.bipush 6, 2) := by decide +kernel
theorem dX4_init_7 : decode cX4_init 7 = .ok (.newarray .int, 2) := by decide +kernel
theorem dX4_init_9 : decode cX4_init 9 = .ok (.putfield 9, 3) := by decide +kernel
theorem dX4_init_12 : decode cX4_init 12 = .ok (.aload_n 0, 1) := by decide +kernel
theorem dX4_init_13 : decode cX4_init 13 = .ok (.bipush 6, 2) := by decide +kernel
theorem dX4_init_15 : decode cX4_init 15 = .ok (.newarray .int, 2) := by decide +kernel
theorem dX4_init_17 : decode cX4_init 17 = .ok (.putfield 15, 3) := by decide +kernel
theorem dX4_init_20 : decode cX4_init 20 = .ok (.aload_n 0, 1) := by decide +kernel
theorem dX4_init_21 : decode cX4_init 21 = .ok (.iconst 0, 1) := by decide +kernel
theorem dX4_init_22 : decode cX4_init 22 = .ok (.putfield 18, 3) := by decide +kernel
theorem dX4_init_25 : decode cX4_init 25 = .ok (.aload_n 0, 1) := by decide +kernel
theorem dX4_init_26 : decode cX4_init 26 = .ok (.iconst 0, 1) := by decide +kernel
theorem dX4_init_27 : decode cX4_init 27 = .ok (.putfield 22, 3) := by decide +kernel
theorem dX4_init_30 : decode cX4_init 30 = .ok (.aload_n 0, 1) := by decide +kernel
theorem dX4_init_31 : decode cX4_init 31 = .ok (.iconst 0, 1) := by decide +kernel
theorem dX4_init_32 : decode cX4_init 32 = .ok (.putfield 25, 3) := by decide +kernel
theorem dX4_init_35 : decode cX4_init 35 = .ok (.aload_n 0, 1) := by decide +kernel
theorem dX4_init_36 : decode cX4_init 36 = .ok (.iconst 0, 1) := by decide +kernel
theorem dX4_init_37 : decode cX4_init 37 = .ok (.putfield 28, 3) := by decide +kernel
theorem dX4_init_40 : decode cX4_init 40 = .ok (.aload_n 0, 1) := by decide +kernel
theorem dX4_init_41 : decode cX4_init 41 = .ok (.iconst 0, 1) := by decide +kernel
theorem dX4_init_42 : decode cX4_init 42 = .ok (.putfield 31, 3) := by decide +kernel
theorem dX4_init_45 : decode cX4_init 45 = .ok (.aload_n 0, 1) := by decide +kernel
theorem dX4_init_46 : decode cX4_init 46 = .ok (.iconst 0, 1) := by decide +kernel
theorem dX4_init_47 : decode cX4_init 47 = .ok (.putfield 35, 3) := by decide +kernel
theorem dX4_init_50 : decode cX4_init 50 = .ok (.aload_n 0, 1) := by decide +kernel
theorem dX4_init_51 : decode cX4_init 51 = .ok (.iconst 0, 1) := by decide +kernel
theorem dX4_init_52 : decode cX4_init 52 = .ok (.putfield 38, 3) := by decide +kernel
theorem dX4_init_55 : decode cX4_init 55 = .ok (.aload_n 0, 1) := by decide +kernel
theorem dX4_init_56 : decode cX4_init 56 = .ok (.iconst 0, 1) := by decide +kernel
theorem dX4_init_57 : decode cX4_init 57 = .ok (.putfield 41, 3) := by decide +kernel
theorem dX4_init_60 : decode cX4_init 60 = .ok (.aload_n 0, 1) := by decide +kernel
theorem dX4_init_61 : decode cX4_init 61 = .ok (.aload_n 1, 1) := by decide +kernel
theorem dX4_init_62 : decode cX4_init 62 = .ok (.putfield 44, 3) := by decide +kernel
theorem dX4_init_65 : decode cX4_init 65 = .ok (.return_, 1) := by decide +kernel
theorem dX4_begin_0 : decode cX4_begin 0 = .ok (.aload_n 0, 1) := by decide +kernel
theorem dX4_begin_1 : decode cX4_begin 1 = .ok (.aload_n 0, 1) := by decide +kernel
theorem dX4_begin_2 : decode cX4_begin 2 = .ok (.getfield 44, 3) := by decide +kernel
theorem dX4_begin_5 : decode cX4_begin 5 = .ok (.getfield 48, 3) := by decide +kernel
theorem dX4_begin_8 : decode cX4_begin 8 = .ok (.putfield 18, 3) := by decide +kernel
theorem dX4_begin_11 : decode cX4_begin 11 = .ok (.aload_n 0, 1) := by decide +kernel
theorem dX4_begin_12 : decode cX4_begin 12 = .ok (.aload_n 0, 1) := by decide +kernel
theorem dX4_begin_13 : decode cX4_begin 13 = .ok (.getfield 44, 3) := by decide +kernel
theorem dX4_begin_16 : decode cX4_begin 16 = .ok (.getfield 51, 3) := by decide +kernel
theorem dX4_begin_19 : decode cX4_begin 19 = .ok (.putfield 22, 3) := by decide +kernel
theorem dX4_begin_22 : decode cX4_begin 22 = .ok (.aload_n 0, 1) := by decide +kernel
theorem dX4_begin_23 : decode cX4_begin 23 = .ok (.iconst 0, 1) := by decide +kernel
theorem dX4_begin_24 : decode cX4_begin 24 = .ok (.putfield 25, 3) := by decide +kernel
theorem dX4_begin_27 : decode cX4_begin 27 = .ok (.aload_n 0, 1) := by decide +kernel
theorem dX4_begin_28 : decode cX4_begin 28 = .ok (.iconst 0, 1) := by decide +kernel
theorem dX4_begin_29 : decode cX4_begin 29 = .ok (.putfield 28, 3) := by decide +kernel
theorem dX4_begin_32 : decode cX4_begin 32 = .ok (.return_, 1) := by decide +kernel
theorem dX4_takes_0 : decode cX4_takes 0 = .ok (.aload_n 0, 1) := by decide +kernel
theorem dX4_takes_1 : decode cX4_takes 1 = .ok (.getfield 18, 3) := by decide +kernel
theorem dX4_takes_4 : decode cX4_takes 4 = .ok (.aload_n 0, 1) := by decide +kernel
theorem dX4_takes_5 : decode cX4_takes 5 = .ok (.getfield 44, 3) := by decide +kernel
theorem dX4_takes_8 : decode cX4_takes 8 = .ok (.getfield 52, 3) := by decide +kernel
theorem dX4_takes_11 : decode cX4_takes 11 = .ok (.iload_n 1, 1) := by decide +kernel
theorem dX4_takes_12 : decode cX4_takes 12 = .ok (.iaload, 1) := by decide +kernel
theorem dX4_takes_13 : decode cX4_takes 13 = .ok (.iconst (-1), 1) := by decide +kernel
theorem dX4_takes_14 : decode cX4_takes 14 = .ok (.ixor, 1) := by decide +kernel
theorem dX4_takes_15 : decode cX4_takes 15 = .ok (.iand, 1) := by decide +kernel
theorem dX4_takes_16 : decode cX4_takes 16 = .ok (.invokestatic 55, 3) := by decide +kernel
theorem dX4_takes_19 : decode cX4_takes 19 = .ok (.istore_n 2, 1) := by decide +kernel
theorem dX4_takes_20 : decode cX4_takes 20 = .ok (.iconst 1, 1) := by decide +kernel
theorem dX4_takes_21 : decode cX4_takes 21 = .ok (.iload_n 2, 1) := by decide +kernel
theorem dX4_takes_22 : decode cX4_takes 22 = .ok (.iadd, 1) := by decide +kernel
theorem dX4_takes_23 : decode cX4_takes 23 = .ok (.istore_n 3, 1) := by decide +kernel
theorem dX4_takes_24 : decode cX4_takes 24 = .ok (.iload_n 3, 1) := by decide +kernel
theorem dX4_takes_25 : decode cX4_takes 25 = .ok (.aload_n 0, 1) := by decide +kernel
theorem dX4_takes_26 : decode cX4_takes 26 = .ok (.getfield 44, 3) := by decide +kernel
theorem dX4_takes_29 : decode cX4_takes 29 = .ok (.getfield 61, 3) := by decide +kernel
theorem dX4_takes_32 : decode cX4_takes 32 = .ok (.getfield 65, 3) := by decide +kernel
theorem dX4_takes_35 : decode cX4_takes 35 = .ok (.if_icmp .le 5, 3) := by decide +kernel
theorem dX4_takes_38 : decode cX4_takes 38 = .ok (.iconst 0, 1) := by decide +kernel
theorem dX4_takes_39 : decode cX4_takes 39 = .ok (.ireturn, 1) := by decide +kernel
theorem dX4_takes_40 : decode cX4_takes 40 = .ok (.iload_n 3, 1) := by decide +kernel
theorem dX4_takes_41 : decode cX4_takes 41 = .ok (.aload_n 0, 1) := by decide +kernel
theorem dX4_takes_42 : decode cX4_takes 42 = .ok (.getfield 22, 3) := by decide +kernel
theorem dX4_takes_45 : decode cX4_takes 45 = .ok (.if_icmp .le 27, 3) := by decide +kernel
theorem dX4_takes_48 : decode cX4_takes 48 = .ok (.aload_n 0, 1) := by decide +kernel
theorem dX4_takes_49 : decode cX4_takes 49 = .ok (.dup, 1) := by decide +kernel
theorem dX4_takes_50 : decode cX4_takes 50 = .ok (.getfield 25, 3) := by decide +kernel
theorem dX4_takes_53 : decode cX4_takes 53 = .ok (.iconst 1, 1) := by decide +kernel
theorem dX4_takes_54 : decode cX4_takes 54 = .ok (.iadd, 1) := by decide +kernel
theorem dX4_takes_55 : decode cX4_takes 55 = .ok (.putfield 25, 3) := by decide +kernel
theorem dX4_takes_58 : decode cX4_takes 58 = .ok (.aload_n 0, 1) := by decide +kernel
theorem dX4_takes_59 : decode cX4_takes 59 = .ok (.aload_n 0, 1) := by decide +kernel
theorem dX4_takes_60 : decode cX4_takes 60 = .ok (.getfield 44, 3) := by decide +kernel
theorem dX4_takes_63 : decode cX4_takes 63 = .ok (.getfield 61, 3) := by decide +kernel
theorem dX4_takes_66 : decode cX4_takes 66 = .ok (.getfield 65, 3) := by decide +kernel
theorem dX4_takes_69 : decode cX4_takes 69 = .ok (.putfield 22, 3) := by decide +kernel
theorem dX4_takes_72 : decode cX4_takes 72 = .ok (.aload_n 0, 1) := by decide +kernel
theorem dX4_takes_73 : decode cX4_takes 73 = .ok (.dup, 1) := by decide +kernel
theorem dX4_takes_74 : decode cX4_takes 74 = .ok (.getfield 22, 3) := by decide +kernel
theorem dX4_takes_77 : decode cX4_takes 77 = .ok (.iload_n 3, 1) := by decide +kernel
theorem dX4_takes_78 : decode cX4_takes 78 = .ok (.isub, 1) := by decide +kernel
theorem dX4_takes_79 : decode cX4_takes 79 = .ok (.putfield 22, 3) := by decide +kernel
theorem dX4_takes_82 : decode cX4_takes 82 = .ok (.aload_n 0, 1) := by decide +kernel
theorem dX4_takes_83 : decode cX4_takes 83 = .ok (.dup, 1) := by decide +kernel
theorem dX4_takes_84 : decode cX4_takes 84 = .ok (.getfield 28, 3) := by decide +kernel
theorem dX4_takes_87 : decode cX4_takes 87 = .ok (.iload_n 2, 1) := by decide +kernel
theorem dX4_takes_88 : decode cX4_takes 88 = .ok (.iadd, 1) := by decide +kernel
theorem dX4_takes_89 : decode cX4_takes 89 = .ok (.putfield 28, 3) := by decide +kernel
theorem dX4_takes_92 : decode cX4_takes 92 = .ok (.aload_n 0, 1) := by decide +kernel
theorem dX4_takes_93 : decode cX4_takes 93 = .ok (.dup, 1) := by decide +kernel
theorem dX4_takes_94 : decode cX4_takes 94 = .ok (.getfield 18, 3) := by decide +kernel
theorem dX4_takes_97 : decode cX4_takes 97 = .ok (.iconst 1, 1) := by decide +kernel
theorem dX4_takes_98 : decode cX4_takes 98 = .ok (.iload_n 1, 1) := by decide +kernel
theorem dX4_takes_99 : decode cX4_takes 99 = .ok (.ishl, 1) := by decide +kernel
theorem dX4_takes_100 : decode cX4_takes 100 = .ok (.ior, 1) := by decide +kernel
theorem dX4_takes_101 : decode cX4_takes 101 = .ok (.putfield 18, 3) := by decide +kernel
theorem dX4_takes_104 : decode cX4_takes 104 = .ok (.iconst 1, 1) := by decide +kernel
theorem dX4_takes_105 : decode cX4_takes 105 = .ok (.ireturn, 1) := by decide +kernel
theorem dX4_findBest_0 : decode cX4_findBest 0 = .ok (.aload_n 0, 1) := by decide +kernel
theorem dX4_findBest_1 : decode cX4_findBest 1 = .ok (.invokevirtual 70, 3) := by decide +kernel
theorem dX4_findBest_4 : decode cX4_findBest 4 = .ok (.aload_n 0, 1) := by decide +kernel
theorem dX4_findBest_5 : decode cX4_findBest 5 = .ok (.iconst 0, 1) := by decide +kernel
theorem dX4_findBest_6 : decode cX4_findBest 6 = .ok (.putfield 31, 3) := by decide +kernel
theorem dX4_findBest_9 : decode cX4_findBest 9 = .ok (.aload_n 0, 1) := by decide +kernel
theorem dX4_findBest_10 : decode cX4_findBest 10 = .ok (.iconst 0, 1) := by decide +kernel
theorem dX4_findBest_11 : decode cX4_findBest 11 = .ok (.invokevirtual 73, 3) := by decide +kernel
theorem dX4_findBest_14 : decode cX4_findBest 14 = .ok (.aload_n 0, 1) := by decide +kernel
theorem dX4_findBest_15 : decode cX4_findBest 15 = .ok (.getfield 31, 3) := by decide +kernel
theorem dX4_findBest_18 : decode cX4_findBest 18 = .ok (.ireturn, 1) := by decide +kernel
theorem dX4_seek_0 : decode cX4_seek 0 = .ok (.iload_n 1, 1) := by decide +kernel
theorem dX4_seek_1 : decode cX4_seek 1 = .ok (.ifCond .lt 23, 3) := by decide +kernel
theorem dX4_seek_4 : decode cX4_seek 4 = .ok (.iload_n 1, 1) := by decide +kernel
theorem dX4_seek_5 : decode cX4_seek 5 = .ok (.bipush 6, 2) := by decide +kernel
theorem dX4_seek_7 : decode cX4_seek 7 = .ok (.if_icmp .gt 17, 3) := by decide +kernel
theorem dX4_seek_10 : decode cX4_seek 10 = .ok (.aload_n 0, 1) := by decide +kernel
theorem dX4_seek_11 : decode cX4_seek 11 = .ok (.getfield 31, 3) := by decide +kernel
theorem dX4_seek_14 : decode cX4_seek 14 = .ok (.ifCond .eq 11, 3) := by decide +kernel
theorem dX4_seek_17 : decode cX4_seek 17 = .ok (.aload_n 0, 1) := by decide +kernel
theorem dX4_seek_18 : decode cX4_seek 18 = .ok (.invokevirtual 77, 3) := by decide +kernel
theorem dX4_seek_21 : decode cX4_seek 21 = .ok (.ifCond .ne 4, 3) := by decide +kernel
theorem dX4_seek_24 : decode cX4_seek 24 = .ok (.return_, 1) := by decide +kernel
theorem dX4_seek_25 : decode cX4_seek 25 = .ok (.aload_n 0, 1) := by decide +kernel
theorem dX4_seek_26 : decode cX4_seek 26 = .ok (.getfield 18, 3) := by decide +kernel
theorem dX4_seek_29 : decode cX4_seek 29 = .ok (.iconst 1, 1) := by decide +kernel
theorem dX4_seek_30 : decode cX4_seek 30 = .ok (.aload_n 0, 1) := by decide +kernel
theorem dX4_seek_31 : decode cX4_seek 31 = .ok (.getfield 44, 3) := by decide +kernel
theorem dX4_seek_34 : decode cX4_seek 34 = .ok (.getfield 61, 3) := by decide +kernel
theorem dX4_seek_37 : decode cX4_seek 37 = .ok (.getfield 81, 3) := by decide +kernel
theorem dX4_seek_40 : decode cX4_seek 40 = .ok (.ishl, 1) := by decide +kernel
theorem dX4_seek_41 : decode cX4_seek 41 = .ok (.iconst 1, 1) := by decide +kernel
theorem dX4_seek_42 : decode cX4_seek 42 = .ok (.isub, 1) := by decide +kernel
theorem dX4_seek_43 : decode cX4_seek 43 = .ok (.if_icmp .ne 9, 3) := by decide +kernel
theorem dX4_seek_46 : decode cX4_seek 46 = .ok (.aload_n 0, 1) := by decide +kernel
theorem dX4_seek_47 : decode cX4_seek 47 = .ok (.iload_n 1, 1) := by decide +kernel
theorem dX4_seek_48 : decode cX4_seek 48 = .ok (.invokevirtual 84, 3) := by decide +kernel
theorem dX4_seek_51 : decode cX4_seek 51 = .ok (.return_, 1) := by decide +kernel
theorem dX4_seek_52 : decode cX4_seek 52 = .ok (.iconst 0, 1) := by decide +kernel
theorem dX4_seek_53 : decode cX4_seek 53 = .ok (.istore_n 2, 1) := by decide +kernel
theorem dX4_seek_54 : decode cX4_seek 54 = .ok (.iload_n 2, 1) := by decide +kernel
theorem dX4_seek_55 : decode cX4_seek 55 = .ok (.aload_n 0, 1) := by decide +kernel
theorem dX4_seek_56 : decode cX4_seek 56 = .ok (.getfield 44, 3) := by decide +kernel
theorem dX4_seek_59 : decode cX4_seek 59 = .ok (.getfield 61, 3) := by decide +kernel
theorem dX4_seek_62 : decode cX4_seek 62 = .ok (.getfield 81, 3) := by decide +kernel
theorem dX4_seek_65 : decode cX4_seek 65 = .ok (.if_icmp .ge 26, 3) := by decide +kernel
theorem dX4_seek_68 : decode cX4_seek 68 = .ok (.aload_n 0, 1) := by decide +kernel
theorem dX4_seek_69 : decode cX4_seek 69 = .ok (.getfield 18, 3) := by decide +kernel
theorem dX4_seek_72 : decode cX4_seek 72 = .ok (.iload_n 2, 1) := by decide +kernel
theorem dX4_seek_73 : decode cX4_seek 73 = .ok (.ishr, 1) := by decide +kernel
theorem dX4_seek_74 : decode cX4_seek 74 = .ok (.iconst 1, 1) := by decide +kernel
theorem dX4_seek_75 : decode cX4_seek 75 = .ok (.iand, 1) := by decide +kernel
theorem dX4_seek_76 : decode cX4_seek 76 = .ok (.ifCond .ne 9, 3) := by decide +kernel
theorem dX4_seek_79 : decode cX4_seek 79 = .ok (.aload_n 0, 1) := by decide +kernel
theorem dX4_seek_80 : decode cX4_seek 80 = .ok (.iload_n 2, 1) := by decide +kernel
theorem dX4_seek_81 : decode cX4_seek 81 = .ok (.iload_n 1, 1) := by decide +kernel
theorem dX4_seek_82 : decode cX4_seek 82 = .ok (.invokevirtual 87, 3) := by decide +kernel
theorem dX4_seek_85 : decode cX4_seek 85 = .ok (.iinc 2 1, 3) := by decide +kernel
theorem dX4_seek_88 : decode cX4_seek 88 = .ok (.goto (-34), 3) := by decide +kernel
theorem dX4_seek_91 : decode cX4_seek 91 = .ok (.return_, 1) := by decide +kernel
theorem dX4_seekBehind_0 : decode cX4_seekBehind 0 = .ok (.iload_n 2, 1) := by decide +kernel
theorem dX4_seekBehind_1 : decode cX4_seekBehind 1 = .ok (.bipush 6, 2) := by decide +kernel
theorem dX4_seekBehind_3 : decode cX4_seekBehind 3 = .ok (.if_icmp .lt 4, 3) := by decide +kernel
theorem dX4_seekBehind_6 : decode cX4_seekBehind 6 = .ok (.return_, 1) := by decide +kernel
theorem dX4_seekBehind_7 : decode cX4_seekBehind 7 = .ok (.aload_n 0, 1) := by decide +kernel
theorem dX4_seekBehind_8 : decode cX4_seekBehind 8 = .ok (.getfield 18, 3) := by decide +kernel
theorem dX4_seekBehind_11 : decode cX4_seekBehind 11 = .ok (.istore_n 3, 1) := by decide +kernel
theorem dX4_seekBehind_12 : decode cX4_seekBehind 12 = .ok (.aload_n 0, 1) := by decide +kernel
theorem dX4_seekBehind_13 : decode cX4_seekBehind 13 = .ok (.getfield 22, 3) := by decide +kernel
theorem dX4_seekBehind_16 : decode cX4_seekBehind 16 = .ok (.istore 4, 2) := by decide +kernel
theorem dX4_seekBehind_18 : decode cX4_seekBehind 18 = .ok (.aload_n 0, 1) := by decide +kernel
theorem dX4_seekBehind_19 : decode cX4_seekBehind 19 = .ok (.getfield 25, 3) := by decide +kernel
theorem dX4_seekBehind_22 : decode cX4_seekBehind 22 = .ok (.istore 5, 2) := by decide +kernel
theorem dX4_seekBehind_24 : decode cX4_seekBehind 24 = .ok (.aload_n 0, 1) := by decide +kernel
theorem dX4_seekBehind_25 : decode cX4_seekBehind 25 = .ok (.getfield 28, 3) := by decide +kernel
theorem dX4_seekBehind_28 : decode cX4_seekBehind 28 = .ok (.istore 6, 2) := by decide +kernel
theorem dX4_seekBehind_30 : decode cX4_seekBehind 30 = .ok (.aload_n 0, 1) := by decide +kernel
theorem dX4_seekBehind_31 : decode cX4_seekBehind 31 = .ok (.getfield 9, 3) := by decide +kernel
theorem dX4_seekBehind_34 : decode cX4_seekBehind 34 = .ok (.iload_n 2, 1) := by decide +kernel
theorem dX4_seekBehind_35 : decode cX4_seekBehind 35 = .ok (.iload_n 1, 1) := by decide +kernel
theorem dX4_seekBehind_36 : decode cX4_seekBehind 36 = .ok (.iastore, 1) := by decide +kernel
theorem dX4_seekBehind_37 : decode cX4_seekBehind 37 = .ok (.aload_n 0, 1) := by decide +kernel
theorem dX4_seekBehind_38 : decode cX4_seekBehind 38 = .ok (.iload_n 1, 1) := by decide +kernel
theorem dX4_seekBehind_39 : decode cX4_seekBehind 39 = .ok (.invokevirtual 91, 3) := by decide +kernel
theorem dX4_seekBehind_42 : decode cX4_seekBehind 42 = .ok (.ifCond .eq 10, 3) := by decide +kernel
theorem dX4_seekBehind_45 : decode cX4_seekBehind 45 = .ok (.aload_n 0, 1) := by decide +kernel
theorem dX4_seekBehind_46 : decode cX4_seekBehind 46 = .ok (.iload_n 2, 1) := by decide +kernel
theorem dX4_seekBehind_47 : decode cX4_seekBehind 47 = .ok (.iconst 1, 1) := by decide +kernel
theorem dX4_seekBehind_48 : decode cX4_seekBehind 48 = .ok (.iadd, 1) := by decide +kernel
theorem dX4_seekBehind_49 : decode cX4_seekBehind 49 = .ok (.invokevirtual 73, 3) := by decide +kernel
theorem dX4_seekBehind_52 : decode cX4_seekBehind 52 = .ok (.aload_n 0, 1) := by decide +kernel
theorem dX4_seekBehind_53 : decode cX4_seekBehind 53 = .ok (.iload_n 3, 1) := by decide +kernel
theorem dX4_seekBehind_54 : decode cX4_seekBehind 54 = .ok (.putfield 18, 3) := by decide +kernel
theorem dX4_seekBehind_57 : decode cX4_seekBehind 57 = .ok (.aload_n 0, 1) := by decide +kernel
theorem dX4_seekBehind_58 : decode cX4_seekBehind 58 = .ok (.iload 4, 2) := by decide +kernel
theorem dX4_seekBehind_60 : decode cX4_seekBehind 60 = .ok (.putfield 22, 3) := by decide +kernel
theorem dX4_seekBehind_63 : decode cX4_seekBehind 63 = .ok (.aload_n 0, 1) := by decide +kernel
theorem dX4_seekBehind_64 : decode cX4_seekBehind 64 = .ok (.iload 5, 2) := by decide +kernel
theorem dX4_seekBehind_66 : decode cX4_seekBehind 66 = .ok (.putfield 25, 3) := by decide +kernel
theorem dX4_seekBehind_69 : decode cX4_seekBehind 69 = .ok (.aload_n 0, 1) := by decide +kernel
theorem dX4_seekBehind_70 : decode cX4_seekBehind 70 = .ok (.iload 6, 2) := by decide +kernel
theorem dX4_seekBehind_72 : decode cX4_seekBehind 72 = .ok (.putfield 28, 3) := by decide +kernel
theorem dX4_seekBehind_75 : decode cX4_seekBehind 75 = .ok (.return_, 1) := by decide +kernel
theorem dX4_isBetter_0 : decode cX4_isBetter 0 = .ok (.aload_n 0, 1) := by decide +kernel
theorem dX4_isBetter_1 : decode cX4_isBetter 1 = .ok (.getfield 25, 3) := by decide +kernel
theorem dX4_isBetter_4 : decode cX4_isBetter 4 = .ok (.aload_n 0, 1) := by decide +kernel
theorem dX4_isBetter_5 : decode cX4_isBetter 5 = .ok (.getfield 38, 3) := by decide +kernel
theorem dX4_isBetter_8 : decode cX4_isBetter 8 = .ok (.if_icmp .lt 25, 3) := by decide +kernel
theorem dX4_isBetter_11 : decode cX4_isBetter 11 = .ok (.aload_n 0, 1) := by decide +kernel
theorem dX4_isBetter_12 : decode cX4_isBetter 12 = .ok (.getfield 25, 3) := by decide +kernel
theorem dX4_isBetter_15 : decode cX4_isBetter 15 = .ok (.aload_n 0, 1) := by decide +kernel
theorem dX4_isBetter_16 : decode cX4_isBetter 16 = .ok (.getfield 38, 3) := by decide +kernel
theorem dX4_isBetter_19 : decode cX4_isBetter 19 = .ok (.if_icmp .ne 18, 3) := by decide +kernel
theorem dX4_isBetter_22 : decode cX4_isBetter 22 = .ok (.aload_n 0, 1) := by decide +kernel
theorem dX4_isBetter_23 : decode cX4_isBetter 23 = .ok (.getfield 28, 3) := by decide +kernel
theorem dX4_isBetter_26 : decode cX4_isBetter 26 = .ok (.aload_n 0, 1) := by decide +kernel
theorem dX4_isBetter_27 : decode cX4_isBetter 27 = .ok (.getfield 41, 3) := by decide +kernel
theorem dX4_isBetter_30 : decode cX4_isBetter 30 = .ok (.if_icmp .ge 7, 3) := by decide +kernel
theorem dX4_isBetter_33 : decode cX4_isBetter 33 = .ok (.iconst 1, 1) := by decide +kernel
theorem dX4_isBetter_34 : decode cX4_isBetter 34 = .ok (.goto 4, 3) := by decide +kernel
theorem dX4_isBetter_37 : decode cX4_isBetter 37 = .ok (.iconst 0, 1) := by decide +kernel
theorem dX4_isBetter_38 : decode cX4_isBetter 38 = .ok (.ireturn, 1) := by decide +kernel
theorem dX4_keepPath_0 : decode cX4_keepPath 0 = .ok (.aload_n 0, 1) := by decide +kernel
theorem dX4_keepPath_1 : decode cX4_keepPath 1 = .ok (.iconst 1, 1) := by decide +kernel
theorem dX4_keepPath_2 : decode cX4_keepPath 2 = .ok (.putfield 31, 3) := by decide +kernel
theorem dX4_keepPath_5 : decode cX4_keepPath 5 = .ok (.aload_n 0, 1) := by decide +kernel
theorem dX4_keepPath_6 : decode cX4_keepPath 6 = .ok (.iload_n 1, 1) := by decide +kernel
theorem dX4_keepPath_7 : decode cX4_keepPath 7 = .ok (.putfield 35, 3) := by decide +kernel
theorem dX4_keepPath_10 : decode cX4_keepPath 10 = .ok (.aload_n 0, 1) := by decide +kernel
theorem dX4_keepPath_11 : decode cX4_keepPath 11 = .ok (.aload_n 0, 1) := by decide +kernel
theorem dX4_keepPath_12 : decode cX4_keepPath 12 = .ok (.getfield 25, 3) := by decide +kernel
theorem dX4_keepPath_15 : decode cX4_keepPath 15 = .ok (.putfield 38, 3) := by decide +kernel
theorem dX4_keepPath_18 : decode cX4_keepPath 18 = .ok (.aload_n 0, 1) := by decide +kernel
theorem dX4_keepPath_19 : decode cX4_keepPath 19 = .ok (.aload_n 0, 1) := by decide +kernel
theorem dX4_keepPath_20 : decode cX4_keepPath 20 = .ok (.getfield 28, 3) := by decide +kernel
theorem dX4_keepPath_23 : decode cX4_keepPath 23 = .ok (.putfield 41, 3) := by decide +kernel
theorem dX4_keepPath_26 : decode cX4_keepPath 26 = .ok (.aload_n 0, 1) := by decide +kernel
theorem dX4_keepPath_27 : decode cX4_keepPath 27 = .ok (.getfield 9, 3) := by decide +kernel
theorem dX4_keepPath_30 : decode cX4_keepPath 30 = .ok (.iconst 0, 1) := by decide +kernel
theorem dX4_keepPath_31 : decode cX4_keepPath 31 = .ok (.aload_n 0, 1) := by decide +kernel
theorem dX4_keepPath_32 : decode cX4_keepPath 32 = .ok (.getfield 15, 3) := by decide +kernel
theorem dX4_keepPath_35 : decode cX4_keepPath 35 = .ok (.iconst 0, 1) := by decide +kernel
theorem dX4_keepPath_36 : decode cX4_keepPath 36 = .ok (.iload_n 1, 1) := by decide +kernel
theorem dX4_keepPath_37 : decode cX4_keepPath 37 = .ok (.invokestatic 95, 3) := by decide +kernel
theorem dX4_keepPath_40 : decode cX4_keepPath 40 = .ok (.return_, 1) := by decide +kernel
theorem dX5_init_0 : decode cX5_init 0 = .ok (.aload_n 0, 1) := by decide +kernel
theorem dX5_init_1 : decode cX5_init 1 = .ok (.invokespecial 3, 3) := by decide +kernel
theorem dX5_init_4 : decode cX5_init 4 = .ok (.aload_n 0, 1) := by decide +kernel
theorem dX5_init_5 : decode cX5_init 5 = .ok (.iconst 0, 1) := by decide +kernel
theorem dX5_init_6 : decode cX5_init 6 = .ok (.iload_n 1, 1) := by decide +kernel
theorem dX5_init_7 : decode cX5_init 7 = .ok (.invokestatic 9, 3) := by decide +kernel
theorem dX5_init_10 : decode cX5_init 10 = .ok (.putfield 15, 3) := by decide +kernel
theorem dX5_init_13 : decode cX5_init 13 = .ok (.aload_n 0, 1) := by decide +kernel
theorem dX5_init_14 : decode cX5_init 14 = .ok (.iconst 0, 1) := by decide +kernel
theorem dX5_init_15 : decode cX5_init 15 = .ok (.iload_n 2, 1) := by decide +kernel
theorem dX5_init_16 : decode cX5_init 16 = .ok (.invokestatic 9, 3) := by decide +kernel
theorem dX5_init_19 : decode cX5_init 19 = .ok (.putfield 21, 3) := by decide +kernel
theorem dX5_init_22 : decode cX5_init 22 = .ok (.aload_n 0, 1) := by decide +kernel
theorem dX5_init_23 : decode cX5_init 23 = .ok (.aload_n 0, 1) := by decide +kernel
theorem dX5_init_24 : decode cX5_init 24 = .ok (.getfield 15, 3) := by decide +kernel
theorem dX5_init_27 : decode cX5_init 27 = .ok (.newarray .int, 2) := by decide +kernel
theorem dX5_init_29 : decode cX5_init 29 = .ok (.putfield 24, 3) := by decide +kernel
theorem dX5_init_32 : decode cX5_init 32 = .ok (.aload_n 0, 1) := by decide +kernel
theorem dX5_init_33 : decode cX5_init 33 = .ok (.aload_n 0, 1) := by decide +kernel
theorem dX5_init_34 : decode cX5_init 34 = .ok (.getfield 15, 3) := by decide +kernel
theorem dX5_init_37 : decode cX5_init 37 = .ok (.aload_n 0, 1) := by decide +kernel
theorem dX5_init_38 : decode cX5_init 38 = .ok (.getfield 21, 3) := by decide +kernel
theorem dX5_init_41 : decode cX5_init 41 = .ok (.multianewarray 28 2, 4) := by decide +kernel
theorem dX5_init_45 : decode cX5_init 45 = .ok (.putfield 30, 3) := by decide +kernel
theorem dX5_init_48 : decode cX5_init 48 = .ok (.aload_n 0, 1) := by decide +kernel
theorem dX5_init_49 : decode cX5_init 49 = .ok (.getfield 24, 3) := by decide +kernel
theorem dX5_init_52 : decode cX5_init 52 = .ok (.iconst (-1), 1) := by decide +kernel
theorem dX5_init_53 : decode cX5_init 53 = .ok (.invokestatic 33, 3) := by decide +kernel
theorem dX5_init_56 : decode cX5_init 56 = .ok (.return_, 1) := by decide +kernel
theorem dX5_isNumber_0 : decode cX5_isNumber 0 = .ok (.iload_n 1, 1) := by decide +kernel
theorem dX5_isNumber_1 : decode cX5_isNumber 1 = .ok (.ifCond .lt 15, 3) := by decide +kernel
theorem dX5_isNumber_4 : decode cX5_isNumber 4 = .ok (.iload_n 1, 1) := by decide +kernel
theorem dX5_isNumber_5 : decode cX5_isNumber 5 = .ok (.aload_n 0, 1) := by decide +kernel
theorem dX5_isNumber_6 : decode cX5_isNumber 6 = .ok (.getfield 15, 3) := by decide +kernel
theorem dX5_isNumber_9 : decode cX5_isNumber 9 = .ok (.if_icmp .ge 7, 3) := by decide +kernel
theorem dX5_isNumber_12 : decode cX5_isNumber 12 = .ok (.iconst 1, 1) := by decide +kernel
theorem dX5_isNumber_13 : decode cX5_isNumber 13 = .ok (.goto 4, 3) := by decide +kernel
theorem dX5_isNumber_16 : decode cX5_isNumber 16 = .ok (.iconst 0, 1) := by decide +kernel
theorem dX5_isNumber_17 : decode cX5_isNumber 17 = .ok (.ireturn, 1) := by decide +kernel
theorem dX5_isThere_0 : decode cX5_isThere 0 = .ok (.aload_n 0, 1) := by decide +kernel
theorem dX5_isThere_1 : decode cX5_isThere 1 = .ok (.iload_n 1, 1) := by decide +kernel
theorem dX5_isThere_2 : decode cX5_isThere 2 = .ok (.invokevirtual 39, 3) := by decide +kernel
theorem dX5_isThere_5 : decode cX5_isThere 5 = .ok (.ifCond .eq 17, 3) := by decide +kernel
theorem dX5_isThere_8 : decode cX5_isThere 8 = .ok (.aload_n 0, 1) := by decide +kernel
theorem dX5_isThere_9 : decode cX5_isThere 9 = .ok (.getfield 24, 3) := by decide +kernel
theorem dX5_isThere_12 : decode cX5_isThere 12 = .ok (.iload_n 1, 1) := by decide +kernel
theorem dX5_isThere_13 : decode cX5_isThere 13 = .ok (.iaload, 1) := by decide +kernel
theorem dX5_isThere_14 : decode cX5_isThere 14 = .ok (.iconst (-1), 1) := by decide +kernel
theorem dX5_isThere_15 : decode cX5_isThere 15 = .ok (.if_icmp .eq 7, 3) := by decide +kernel
theorem dX5_isThere_18 : decode cX5_isThere 18 = .ok (.iconst 1, 1) := by decide +kernel
theorem dX5_isThere_19 : decode cX5_isThere 19 = .ok (.goto 4, 3) := by decide +kernel
theorem dX5_isThere_22 : decode cX5_isThere 22 = .ok (.iconst 0, 1) := by decide +kernel
theorem dX5_isThere_23 : decode cX5_isThere 23 = .ok (.ireturn, 1) := by decide +kernel
theorem dX5_isPlace_0 : decode cX5_isPlace 0 = .ok (.aload_n 0, 1) := by decide +kernel
theorem dX5_isPlace_1 : decode cX5_isPlace 1 = .ok (.iload_n 1, 1) := by decide +kernel
theorem dX5_isPlace_2 : decode cX5_isPlace 2 = .ok (.invokevirtual 43, 3) := by decide +kernel
theorem dX5_isPlace_5 : decode cX5_isPlace 5 = .ok (.ifCond .eq 21, 3) := by decide +kernel
theorem dX5_isPlace_8 : decode cX5_isPlace 8 = .ok (.iload_n 2, 1) := by decide +kernel
theorem dX5_isPlace_9 : decode cX5_isPlace 9 = .ok (.ifCond .lt 17, 3) := by decide +kernel
theorem dX5_isPlace_12 : decode cX5_isPlace 12 = .ok (.iload_n 2, 1) := by decide +kernel
theorem dX5_isPlace_13 : decode cX5_isPlace 13 = .ok (.aload_n 0, 1) := by decide +kernel
theorem dX5_isPlace_14 : decode cX5_isPlace 14 = .ok (.getfield 24, 3) := by decide +kernel
theorem dX5_isPlace_17 : decode cX5_isPlace 17 = .ok (.iload_n 1, 1) := by decide +kernel
theorem dX5_isPlace_18 : decode cX5_isPlace 18 = .ok (.iaload, 1) := by decide +kernel
theorem dX5_isPlace_19 : decode cX5_isPlace 19 = .ok (.if_icmp .ge 7, 3) := by decide +kernel
theorem dX5_isPlace_22 : decode cX5_isPlace 22 = .ok (.iconst 1, 1) := by decide +kernel
theorem dX5_isPlace_23 : decode cX5_isPlace 23 = .ok (.goto 4, 3) := by decide +kernel
theorem dX5_isPlace_26 : decode cX5_isPlace 26 = .ok (.iconst 0, 1) := by decide +kernel
theorem dX5_isPlace_27 : decode cX5_isPlace 27 = .ok (.ireturn, 1) := by decide +kernel
theorem dX5_hasPlaces_0 : decode cX5_hasPlaces 0 = .ok (.aload_n 0, 1) := by decide +kernel
theorem dX5_hasPlaces_1 : decode cX5_hasPlaces 1 = .ok (.iload_n 1, 1) := by decide +kernel
theorem dX5_hasPlaces_2 : decode cX5_hasPlaces 2 = .ok (.invokevirtual 43, 3) := by decide +kernel
theorem dX5_hasPlaces_5 : decode cX5_hasPlaces 5 = .ok (.ifCond .eq 37, 3) := by decide +kernel
theorem dX5_hasPlaces_8 : decode cX5_hasPlaces 8 = .ok (.iload_n 2, 1) := by decide +kernel
theorem dX5_hasPlaces_9 : decode cX5_hasPlaces 9 = .ok (.ifCond .lt 33, 3) := by decide +kernel
theorem dX5_hasPlaces_12 : decode cX5_hasPlaces 12 = .ok (.iload_n 3, 1) := by decide +kernel
theorem dX5_hasPlaces_13 : decode cX5_hasPlaces 13 = .ok (.ifCond .lt 29, 3) := by decide +kernel
theorem dX5_hasPlaces_16 : decode cX5_hasPlaces 16 = .ok (.iload_n 2, 1) := by decide +kernel
theorem dX5_hasPlaces_17 : decode cX5_hasPlaces 17 = .ok (.aload_n 0, 1) := by decide +kernel
theorem dX5_hasPlaces_18 : decode cX5_hasPlaces 18 = .ok (.getfield 24, 3) := by decide +kernel
theorem dX5_hasPlaces_21 : decode cX5_hasPlaces 21 = .ok (.iload_n 1, 1) := by decide +kernel
theorem dX5_hasPlaces_22 : decode cX5_hasPlaces 22 = .ok (.iaload, 1) := by decide +kernel
theorem dX5_hasPlaces_23 : decode cX5_hasPlaces 23 = .ok (.if_icmp .gt 19, 3) := by decide +kernel
theorem dX5_hasPlaces_26 : decode cX5_hasPlaces 26 = .ok (.iload_n 3, 1) := by decide +kernel
theorem dX5_hasPlaces_27 : decode cX5_hasPlaces 27 = .ok (.aload_n 0, 1) := by decide +kernel
theorem dX5_hasPlaces_28 : decode cX5_hasPlaces 28 = .ok (.getfield 24, 3) := by decide +kernel
theorem dX5_hasPlaces_31 : decode cX5_hasPlaces 31 = .ok (.iload_n 1, 1) := by decide +kernel
theorem dX5_hasPlaces_32 : decode cX5_hasPlaces 32 = .ok (.iaload, 1) := by decide +kernel
theorem dX5_hasPlaces_33 : decode cX5_hasPlaces 33 = .ok (.iload_n 2, 1) := by decide +kernel
theorem dX5_hasPlaces_34 : decode cX5_hasPlaces 34 = .ok (.isub, 1) := by decide +kernel
theorem dX5_hasPlaces_35 : decode cX5_hasPlaces 35 = .ok (.if_icmp .gt 7, 3) := by decide +kernel
theorem dX5_hasPlaces_38 : decode cX5_hasPlaces 38 = .ok (.iconst 1, 1) := by decide +kernel
theorem dX5_hasPlaces_39 : decode cX5_hasPlaces 39 = .ok (.goto 4, 3) := by decide +kernel
theorem dX5_hasPlaces_42 : decode cX5_hasPlaces 42 = .ok (.iconst 0, 1) := by decide +kernel
theorem dX5_hasPlaces_43 : decode cX5_hasPlaces 43 = .ok (.ireturn, 1) := by decide +kernel
theorem dX5_get_0 : decode cX5_get 0 = .ok (.aload_n 0, 1) := by decide +kernel
theorem dX5_get_1 : decode cX5_get 1 = .ok (.iload_n 1, 1) := by decide +kernel
theorem dX5_get_2 : decode cX5_get 2 = .ok (.iload_n 2, 1) := by decide +kernel
theorem dX5_get_3 : decode cX5_get 3 = .ok (.invokevirtual 46, 3) := by decide +kernel
theorem dX5_get_6 : decode cX5_get 6 = .ok (.ifCond .eq 14, 3) := by decide +kernel
theorem dX5_get_9 : decode cX5_get 9 = .ok (.aload_n 0, 1) := by decide +kernel
theorem dX5_get_10 : decode cX5_get 10 = .ok (.getfield 30, 3) := by decide +kernel
theorem dX5_get_13 : decode cX5_get 13 = .ok (.iload_n 1, 1) := by decide +kernel
theorem dX5_get_14 : decode cX5_get 14 = .ok (.aaload, 1) := by decide +kernel
theorem dX5_get_15 : decode cX5_get 15 = .ok (.iload_n 2, 1) := by decide +kernel
theorem dX5_get_16 : decode cX5_get 16 = .ok (.iaload, 1) := by decide +kernel
theorem dX5_get_17 : decode cX5_get 17 = .ok (.goto 4, 3) := by decide +kernel
theorem dX5_get_20 : decode cX5_get 20 = .ok (.iload_n 3, 1) := by decide +kernel
theorem dX5_get_21 : decode cX5_get 21 = .ok (.ireturn, 1) := by decide +kernel
theorem dX5_set_0 : decode cX5_set 0 = .ok (.aload_n 0, 1) := by decide +kernel
theorem dX5_set_1 : decode cX5_set 1 = .ok (.iload_n 1, 1) := by decide +kernel
theorem dX5_set_2 : decode cX5_set 2 = .ok (.iload_n 2, 1) := by decide +kernel
theorem dX5_set_3 : decode cX5_set 3 = .ok (.invokevirtual 46, 3) := by decide +kernel
theorem dX5_set_6 : decode cX5_set 6 = .ok (.ifCond .eq 12, 3) := by decide +kernel
theorem dX5_set_9 : decode cX5_set 9 = .ok (.aload_n 0, 1) := by decide +kernel
theorem dX5_set_10 : decode cX5_set 10 = .ok (.getfield 30, 3) := by decide +kernel
theorem dX5_set_13 : decode cX5_set 13 = .ok (.iload_n 1, 1) := by decide +kernel
theorem dX5_set_14 : decode cX5_set 14 = .ok (.aaload, 1) := by decide +kernel
theorem dX5_set_15 : decode cX5_set 15 = .ok (.iload_n 2, 1) := by decide +kernel
theorem dX5_set_16 : decode cX5_set 16 = .ok (.iload_n 3, 1) := by decide +kernel
theorem dX5_set_17 : decode cX5_set 17 = .ok (.iastore, 1) := by decide +kernel
theorem dX5_set_18 : decode cX5_set 18 = .ok (.return_, 1) := by decide +kernel
theorem dX5_make_0 : decode cX5_make 0 = .ok (.aload_n 0, 1) := by decide +kernel
theorem dX5_make_1 : decode cX5_make 1 = .ok (.iload_n 1, 1) := by decide +kernel
theorem dX5_make_2 : decode cX5_make 2 = .ok (.invokevirtual 39, 3) := by decide +kernel
theorem dX5_make_5 : decode cX5_make 5 = .ok (.ifCond .eq 32, 3) := by decide +kernel
theorem dX5_make_8 : decode cX5_make 8 = .ok (.iload_n 2, 1) := by decide +kernel
theorem dX5_make_9 : decode cX5_make 9 = .ok (.ifCond .lt 28, 3) := by decide +kernel
theorem dX5_make_12 : decode cX5_make 12 = .ok (.iload_n 2, 1) := by decide +kernel
theorem dX5_make_13 : decode cX5_make 13 = .ok (.aload_n 0, 1) := by decide +kernel
theorem dX5_make_14 : decode cX5_make 14 = .ok (.getfield 21, 3) := by decide +kernel
theorem dX5_make_17 : decode cX5_make 17 = .ok (.if_icmp .gt 20, 3) := by decide +kernel
theorem dX5_make_20 : decode cX5_make 20 = .ok (.aload_n 0, 1) := by decide +kernel
theorem dX5_make_21 : decode cX5_make 21 = .ok (.getfield 24, 3) := by decide +kernel
theorem dX5_make_24 : decode cX5_make 24 = .ok (.iload_n 1, 1) := by decide +kernel
theorem dX5_make_25 : decode cX5_make 25 = .ok (.iload_n 2, 1) := by decide +kernel
theorem dX5_make_26 : decode cX5_make 26 = .ok (.iastore, 1) := by decide +kernel
theorem dX5_make_27 : decode cX5_make 27 = .ok (.aload_n 0, 1) := by decide +kernel
theorem dX5_make_28 : decode cX5_make 28 = .ok (.getfield 30, 3) := by decide +kernel
theorem dX5_make_31 : decode cX5_make 31 = .ok (.iload_n 1, 1) := by decide +kernel
theorem dX5_make_32 : decode cX5_make 32 = .ok (.aaload, 1) := by decide +kernel
theorem dX5_make_33 : decode cX5_make 33 = .ok (.iload_n 3, 1) := by decide +kernel
theorem dX5_make_34 : decode cX5_make 34 = .ok (.invokestatic 33, 3) := by decide +kernel
theorem dX5_make_37 : decode cX5_make 37 = .ok (.return_, 1) := by decide +kernel
theorem dX5_drop_0 : decode cX5_drop 0 = .ok (.aload_n 0, 1) := by decide +kernel
theorem dX5_drop_1 : decode cX5_drop 1 = .ok (.iload_n 1, 1) := by decide +kernel
theorem dX5_drop_2 : decode cX5_drop 2 = .ok (.invokevirtual 39, 3) := by decide +kernel
theorem dX5_drop_5 : decode cX5_drop 5 = .ok (.ifCond .eq 10, 3) := by decide +kernel
theorem dX5_drop_8 : decode cX5_drop 8 = .ok (.aload_n 0, 1) := by decide +kernel
theorem dX5_drop_9 : decode cX5_drop 9 = .ok (.getfield 24, 3) := by decide +kernel
theorem dX5_drop_12 : decode cX5_drop 12 = .ok (.iload_n 1, 1) := by decide +kernel
theorem dX5_drop_13 : decode cX5_drop 13 = .ok (.iconst (-1), 1) := by decide +kernel
theorem dX5_drop_14 : decode cX5_drop 14 = .ok (.iastore, 1) := by decide +kernel
theorem dX5_drop_15 : decode cX5_drop 15 = .ok (.return_, 1) := by decide +kernel
theorem dX5_howMany_0 : decode cX5_howMany 0 = .ok (.iconst 0, 1) := by decide +kernel
theorem dX5_howMany_1 : decode cX5_howMany 1 = .ok (.istore_n 1, 1) := by decide +kernel
theorem dX5_howMany_2 : decode cX5_howMany 2 = .ok (.iconst 0, 1) := by decide +kernel
theorem dX5_howMany_3 : decode cX5_howMany 3 = .ok (.istore_n 2, 1) := by decide +kernel
theorem dX5_howMany_4 : decode cX5_howMany 4 = .ok (.iload_n 2, 1) := by decide +kernel
theorem dX5_howMany_5 : decode cX5_howMany 5 = .ok (.aload_n 0, 1) := by decide +kernel
theorem dX5_howMany_6 : decode cX5_howMany 6 = .ok (.getfield 15, 3) := by decide +kernel
theorem dX5_howMany_9 : decode cX5_howMany 9 = .ok (.if_icmp .ge 27, 3) := by decide +kernel
theorem dX5_howMany_12 : decode cX5_howMany 12 = .ok (.iload_n 1, 1) := by decide +kernel
theorem dX5_howMany_13 : decode cX5_howMany 13 = .ok (.aload_n 0, 1) := by decide +kernel
theorem dX5_howMany_14 : decode cX5_howMany 14 = .ok (.getfield 24, 3) := by decide +kernel
theorem dX5_howMany_17 : decode cX5_howMany 17 = .ok (.iload_n 2, 1) := by decide +kernel
theorem dX5_howMany_18 : decode cX5_howMany 18 = .ok (.iaload, 1) := by decide +kernel
theorem dX5_howMany_19 : decode cX5_howMany 19 = .ok (.iconst (-1), 1) := by decide +kernel
theorem dX5_howMany_20 : decode cX5_howMany 20 = .ok (.if_icmp .ne 7, 3) := by decide +kernel
theorem dX5_howMany_23 : decode cX5_howMany 23 = .ok (.iconst 0, 1) := by decide +kernel
theorem dX5_howMany_24 : decode cX5_howMany 24 = .ok (.goto 4, 3) := by decide +kernel
theorem dX5_howMany_27 : decode cX5_howMany 27 = .ok (.iconst 1, 1) := by decide +kernel
theorem dX5_howMany_28 : decode cX5_howMany 28 = .ok (.iadd, 1) := by decide +kernel
theorem dX5_howMany_29 : decode cX5_howMany 29 = .ok (.istore_n 1, 1) := by decide +kernel
theorem dX5_howMany_30 : decode cX5_howMany 30 = .ok (.iinc 2 1, 3) := by decide +kernel
theorem dX5_howMany_33 : decode cX5_howMany 33 = .ok (.goto (-29), 3) := by decide +kernel
theorem dX5_howMany_36 : decode cX5_howMany 36 = .ok (.iload_n 1, 1) := by decide +kernel
theorem dX5_howMany_37 : decode cX5_howMany 37 = .ok (.ireturn, 1) := by decide +kernel
theorem dX5_digestFrom_0 : decode cX5_digestFrom 0 = .ok (.lload_n 1, 1) := by decide +kernel
theorem dX5_digestFrom_1 : decode cX5_digestFrom 1 = .ok (.lstore_n 3, 1) := by decide +kernel
theorem dX5_digestFrom_2 : decode cX5_digestFrom 2 = .ok (.iconst 0, 1) := by decide +kernel
theorem dX5_digestFrom_3 : decode cX5_digestFrom 3 = .ok (.istore 5, 2) := by decide +kernel
theorem dX5_digestFrom_5 : decode cX5_digestFrom 5 = .ok (.iload 5, 2) := by decide +kernel
theorem dX5_digestFrom_7 : decode cX5_digestFrom 7 = .ok (.aload_n 0, 1) := by decide +kernel
theorem dX5_digestFrom_8 : decode cX5_digestFrom 8 = .ok (.getfield 15, 3) := by decide +kernel
theorem dX5_digestFrom_11 : decode cX5_digestFrom 11 = .ok (.if_icmp .ge 63, 3) := by decide +kernel
theorem dX5_digestFrom_14 : decode cX5_digestFrom 14 = .ok (.ldc2_w 50, 3) := by decide +kernel
theorem dX5_digestFrom_17 : decode cX5_digestFrom 17 = .ok (.lload_n 3, 1) := by decide +kernel
theorem dX5_digestFrom_18 : decode cX5_digestFrom 18 = .ok (.lmul, 1) := by decide +kernel
theorem dX5_digestFrom_19 : decode cX5_digestFrom 19 = .ok (.aload_n 0, 1) := by decide +kernel
theorem dX5_digestFrom_20 : decode cX5_digestFrom 20 = .ok (.getfield 24, 3) := by decide +kernel
theorem dX5_digestFrom_23 : decode cX5_digestFrom 23 = .ok (.iload 5, 2) := by decide +kernel
theorem dX5_digestFrom_25 : decode cX5_digestFrom 25 = .ok (.iaload, 1) := by decide +kernel
theorem dX5_digestFrom_26 : decode cX5_digestFrom 26 = .ok (.i2l, 1) := by decide +kernel
theorem dX5_digestFrom_27 : decode cX5_digestFrom 27 = .ok (.ladd, 1) := by decide +kernel
theorem dX5_digestFrom_28 : decode cX5_digestFrom 28 = .ok (.lstore_n 3, 1) := by decide +kernel
theorem dX5_digestFrom_29 : decode cX5_digestFrom 29 = .ok (.iconst 0, 1) := by decide +kernel
theorem dX5_digestFrom_30 : decode cX5_digestFrom 30 = .ok (.istore 6, 2) := by decide +kernel
theorem dX5_digestFrom_32 : decode cX5_digestFrom 32 = .ok (.iload 6, 2) := by decide +kernel
theorem dX5_digestFrom_34 : decode cX5_digestFrom 34 = .ok (.aload_n 0, 1) := by decide +kernel
theorem dX5_digestFrom_35 : decode cX5_digestFrom 35 = .ok (.getfield 24, 3) := by decide +kernel
theorem dX5_digestFrom_38 : decode cX5_digestFrom 38 = .ok (.iload 5, 2) := by decide +kernel
theorem dX5_digestFrom_40 : decode cX5_digestFrom 40 = .ok (.iaload, 1) := by decide +kernel
theorem dX5_digestFrom_41 : decode cX5_digestFrom 41 = .ok (.if_icmp .ge 27, 3) := by decide +kernel
theorem dX5_digestFrom_44 : decode cX5_digestFrom 44 = .ok (.ldc2_w 50, 3) := by decide +kernel
theorem dX5_digestFrom_47 : decode cX5_digestFrom 47 = .ok (.lload_n 3, 1) := by decide +kernel
theorem dX5_digestFrom_48 : decode cX5_digestFrom 48 = .ok (.lmul, 1) := by decide +kernel
theorem dX5_digestFrom_49 : decode cX5_digestFrom 49 = .ok (.aload_n 0, 1) := by decide +kernel
theorem dX5_digestFrom_50 : decode cX5_digestFrom 50 = .ok (.getfield 30, 3) := by decide +kernel
theorem dX5_digestFrom_53 : decode cX5_digestFrom 53 = .ok (.iload 5, 2) := by decide +kernel
theorem dX5_digestFrom_55 : decode cX5_digestFrom 55 = .ok (.aaload, 1) := by decide +kernel
theorem dX5_digestFrom_56 : decode cX5_digestFrom 56 = .ok (.iload 6, 2) := by decide +kernel
theorem dX5_digestFrom_58 : decode cX5_digestFrom 58 = .ok (.iaload, 1) := by decide +kernel
theorem dX5_digestFrom_59 : decode cX5_digestFrom 59 = .ok (.i2l, 1) := by decide +kernel
theorem dX5_digestFrom_60 : decode cX5_digestFrom 60 = .ok (.ladd, 1) := by decide +kernel
theorem dX5_digestFrom_61 : decode cX5_digestFrom 61 = .ok (.lstore_n 3, 1) := by decide +kernel
theorem dX5_digestFrom_62 : decode cX5_digestFrom 62 = .ok (.iinc 6 1, 3) := by decide +kernel
theorem dX5_digestFrom_65 : decode cX5_digestFrom 65 = .ok (.goto (-33), 3) := by decide +kernel
theorem dX5_digestFrom_68 : decode cX5_digestFrom 68 = .ok (.iinc 5 1, 3) := by decide +kernel
theorem dX5_digestFrom_71 : decode cX5_digestFrom 71 = .ok (.goto (-66), 3) := by decide +kernel
theorem dX5_digestFrom_74 : decode cX5_digestFrom 74 = .ok (.lload_n 3, 1) := by decide +kernel
theorem dX5_digestFrom_75 : decode cX5_digestFrom 75 = .ok (.lreturn, 1) := by decide +kernel
theorem dJ6_bitCount_0f7a4_0 : decode cJ6_bitCount_0f7a4 0 = .ok (.iload_n 0, 1) := by decide +kernel
theorem dJ6_bitCount_0f7a4_1 : decode cJ6_bitCount_0f7a4 1 = .ok (.iload_n 0, 1) := by decide +kernel
theorem dJ6_bitCount_0f7a4_2 : decode cJ6_bitCount_0f7a4 2 = .ok (.iconst 1, 1) := by decide +kernel
theorem dJ6_bitCount_0f7a4_3 : decode cJ6_bitCount_0f7a4 3 = .ok (.iushr, 1) := by decide +kernel
theorem dJ6_bitCount_0f7a4_4 : decode cJ6_bitCount_0f7a4 4 = .ok (.ldc_w 265, 3) := by decide +kernel
theorem dJ6_bitCount_0f7a4_7 : decode cJ6_bitCount_0f7a4 7 = .ok (.iand, 1) := by decide +kernel
theorem dJ6_bitCount_0f7a4_8 : decode cJ6_bitCount_0f7a4 8 = .ok (.isub, 1) := by decide +kernel
theorem dJ6_bitCount_0f7a4_9 : decode cJ6_bitCount_0f7a4 9 = .ok (.istore_n 0, 1) := by decide +kernel
theorem dJ6_bitCount_0f7a4_10 : decode cJ6_bitCount_0f7a4 10 = .ok (.iload_n 0, 1) := by decide +kernel
theorem dJ6_bitCount_0f7a4_11 : decode cJ6_bitCount_0f7a4 11 = .ok (.ldc_w 266, 3) := by decide +kernel
theorem dJ6_bitCount_0f7a4_14 : decode cJ6_bitCount_0f7a4 14 = .ok (.iand, 1) := by decide +kernel
theorem dJ6_bitCount_0f7a4_15 : decode cJ6_bitCount_0f7a4 15 = .ok (.iload_n 0, 1) := by decide +kernel
theorem dJ6_bitCount_0f7a4_16 : decode cJ6_bitCount_0f7a4 16 = .ok (.iconst 2, 1) := by decide +kernel
theorem dJ6_bitCount_0f7a4_17 : decode cJ6_bitCount_0f7a4 17 = .ok (.iushr, 1) := by decide +kernel
theorem dJ6_bitCount_0f7a4_18 : decode cJ6_bitCount_0f7a4 18 = .ok (.ldc_w 266, 3) := by decide +kernel
theorem dJ6_bitCount_0f7a4_21 : decode cJ6_bitCount_0f7a4 21 = .ok (.iand, 1) := by decide +kernel
theorem dJ6_bitCount_0f7a4_22 : decode cJ6_bitCount_0f7a4 22 = .ok (.iadd, 1) := by decide +kernel
theorem dJ6_bitCount_0f7a4_23 : decode cJ6_bitCount_0f7a4 23 = .ok (.istore_n 0, 1) := by decide +kernel
theorem dJ6_bitCount_0f7a4_24 : decode cJ6_bitCount_0f7a4 24 = .ok (.iload_n 0, 1) := by decide +kernel
theorem dJ6_bitCount_0f7a4_25 : decode cJ6_bitCount_0f7a4 25 = .ok (.iload_n 0, 1) := by decide +kernel
theorem dJ6_bitCount_0f7a4_26 : decode cJ6_bitCount_0f7a4 26 = .ok (.iconst 4, 1) := by decide +kernel
theorem dJ6_bitCount_0f7a4_27 : decode cJ6_bitCount_0f7a4 27 = .ok (.iushr, 1) := by decide +kernel
theorem dJ6_bitCount_0f7a4_28 : decode cJ6_bitCount_0f7a4 28 = .ok (.iadd, 1) := by decide +kernel
theorem dJ6_bitCount_0f7a4_29 : decode cJ6_bitCount_0f7a4 29 = .ok (.ldc_w 267, 3) := by decide +kernel
theorem dJ6_bitCount_0f7a4_32 : decode cJ6_bitCount_0f7a4 32 = .ok (.iand, 1) := by decide +kernel
theorem dJ6_bitCount_0f7a4_33 : decode cJ6_bitCount_0f7a4 33 = .ok (.istore_n 0, 1) := by decide +kernel
theorem dJ6_bitCount_0f7a4_34 : decode cJ6_bitCount_0f7a4 34 = .ok (.iload_n 0, 1) := by decide +kernel
theorem dJ6_bitCount_0f7a4_35 : decode cJ6_bitCount_0f7a4 35 = .ok (.iload_n 0, 1) := by decide +kernel
theorem dJ6_bitCount_0f7a4_36 : decode cJ6_bitCount_0f7a4 36 = .ok (.bipush 8, 2) := by decide +kernel
theorem dJ6_bitCount_0f7a4_38 : decode cJ6_bitCount_0f7a4 38 = .ok (.iushr, 1) := by decide +kernel
theorem dJ6_bitCount_0f7a4_39 : decode cJ6_bitCount_0f7a4 39 = .ok (.iadd, 1) := by decide +kernel
theorem dJ6_bitCount_0f7a4_40 : decode cJ6_bitCount_0f7a4 40 = .ok (.istore_n 0, 1) := by decide +kernel
theorem dJ6_bitCount_0f7a4_41 : decode cJ6_bitCount_0f7a4 41 = .ok (.iload_n 0, 1) := by decide +kernel
theorem dJ6_bitCount_0f7a4_42 : decode cJ6_bitCount_0f7a4 42 = .ok (.iload_n 0, 1) := by decide +kernel
theorem dJ6_bitCount_0f7a4_43 : decode cJ6_bitCount_0f7a4 43 = .ok (.bipush 16, 2) := by decide +kernel
theorem dJ6_bitCount_0f7a4_45 : decode cJ6_bitCount_0f7a4 45 = .ok (.iushr, 1) := by decide +kernel
theorem dJ6_bitCount_0f7a4_46 : decode cJ6_bitCount_0f7a4 46 = .ok (.iadd, 1) := by decide +kernel
theorem dJ6_bitCount_0f7a4_47 : decode cJ6_bitCount_0f7a4 47 = .ok (.istore_n 0, 1) := by decide +kernel
theorem dJ6_bitCount_0f7a4_48 : decode cJ6_bitCount_0f7a4 48 = .ok (.iload_n 0, 1) := by decide +kernel
theorem dJ6_bitCount_0f7a4_49 : decode cJ6_bitCount_0f7a4 49 = .ok (.bipush 63, 2) := by decide +kernel
theorem dJ6_bitCount_0f7a4_51 : decode cJ6_bitCount_0f7a4 51 = .ok (.iand, 1) := by decide +kernel
theorem dJ6_bitCount_0f7a4_52 : decode cJ6_bitCount_0f7a4 52 = .ok (.ireturn, 1) := by decide +kernel
theorem dJ9_max_7cf53_0 : decode cJ9_max_7cf53 0 = .ok (.iload_n 0, 1) := by decide +kernel
theorem dJ9_max_7cf53_1 : decode cJ9_max_7cf53 1 = .ok (.iload_n 1, 1) := by decide +kernel
theorem dJ9_max_7cf53_2 : decode cJ9_max_7cf53 2 = .ok (.if_icmp .lt 7, 3) := by decide +kernel
theorem dJ9_max_7cf53_5 : decode cJ9_max_7cf53 5 = .ok (.iload_n 0, 1) := by decide +kernel
theorem dJ9_max_7cf53_6 : decode cJ9_max_7cf53 6 = .ok (.goto 4, 3) := by decide +kernel
theorem dJ9_max_7cf53_9 : decode cJ9_max_7cf53 9 = .ok (.iload_n 1, 1) := by decide +kernel
theorem dJ9_max_7cf53_10 : decode cJ9_max_7cf53 10 = .ok (.ireturn, 1) := by decide +kernel
theorem dJ9_min_7cf53_0 : decode cJ9_min_7cf53 0 = .ok (.iload_n 0, 1) := by decide +kernel
theorem dJ9_min_7cf53_1 : decode cJ9_min_7cf53 1 = .ok (.iload_n 1, 1) := by decide +kernel
theorem dJ9_min_7cf53_2 : decode cJ9_min_7cf53 2 = .ok (.if_icmp .gt 7, 3) := by decide +kernel
theorem dJ9_min_7cf53_5 : decode cJ9_min_7cf53 5 = .ok (.iload_n 0, 1) := by decide +kernel
theorem dJ9_min_7cf53_6 : decode cJ9_min_7cf53 6 = .ok (.goto 4, 3) := by decide +kernel
theorem dJ9_min_7cf53_9 : decode cJ9_min_7cf53 9 = .ok (.iload_n 1, 1) := by decide +kernel
theorem dJ9_min_7cf53_10 : decode cJ9_min_7cf53 10 = .ok (.ireturn, 1) := by decide +kernel
theorem dJ7_fill_d0a16_0 : decode cJ7_fill_d0a16 0 = .ok (.iconst 0, 1) := by decide +kernel
theorem dJ7_fill_d0a16_1 : decode cJ7_fill_d0a16 1 = .ok (.istore_n 3, 1) := by decide +kernel
theorem dJ7_fill_d0a16_2 : decode cJ7_fill_d0a16 2 = .ok (.aload_n 0, 1) := by decide +kernel
theorem dJ7_fill_d0a16_3 : decode cJ7_fill_d0a16 3 = .ok (.arraylength, 1) := by decide +kernel
theorem dJ7_fill_d0a16_4 : decode cJ7_fill_d0a16 4 = .ok (.istore 4, 2) := by decide +kernel
theorem dJ7_fill_d0a16_6 : decode cJ7_fill_d0a16 6 = .ok (.iload_n 3, 1) := by decide +kernel
theorem dJ7_fill_d0a16_7 : decode cJ7_fill_d0a16 7 = .ok (.iload 4, 2) := by decide +kernel
theorem dJ7_fill_d0a16_9 : decode cJ7_fill_d0a16 9 = .ok (.if_icmp .ge 13, 3) := by decide +kernel
theorem dJ7_fill_d0a16_12 : decode cJ7_fill_d0a16 12 = .ok (.aload_n 0, 1) := by decide +kernel
theorem dJ7_fill_d0a16_13 : decode cJ7_fill_d0a16 13 = .ok (.iload_n 3, 1) := by decide +kernel
theorem dJ7_fill_d0a16_14 : decode cJ7_fill_d0a16 14 = .ok (.lload_n 1, 1) := by decide +kernel
theorem dJ7_fill_d0a16_15 : decode cJ7_fill_d0a16 15 = .ok (.lastore, 1) := by decide +kernel
theorem dJ7_fill_d0a16_16 : decode cJ7_fill_d0a16 16 = .ok (.iinc 3 1, 3) := by decide +kernel
theorem dJ7_fill_d0a16_19 : decode cJ7_fill_d0a16 19 = .ok (.goto (-13), 3) := by decide +kernel
theorem dJ7_fill_d0a16_22 : decode cJ7_fill_d0a16 22 = .ok (.return_, 1) := by decide +kernel
theorem dJ7_fill_53178_0 : decode cJ7_fill_53178 0 = .ok (.iconst 0, 1) := by decide +kernel
theorem dJ7_fill_53178_1 : decode cJ7_fill_53178 1 = .ok (.istore_n 2, 1) := by decide +kernel
theorem dJ7_fill_53178_2 : decode cJ7_fill_53178 2 = .ok (.aload_n 0, 1) := by decide +kernel
theorem dJ7_fill_53178_3 : decode cJ7_fill_53178 3 = .ok (.arraylength, 1) := by decide +kernel
theorem dJ7_fill_53178_4 : decode cJ7_fill_53178 4 = .ok (.istore_n 3, 1) := by decide +kernel
theorem dJ7_fill_53178_5 : decode cJ7_fill_53178 5 = .ok (.iload_n 2, 1) := by decide +kernel
theorem dJ7_fill_53178_6 : decode cJ7_fill_53178 6 = .ok (.iload_n 3, 1) := by decide +kernel
theorem dJ7_fill_53178_7 : decode cJ7_fill_53178 7 = .ok (.if_icmp .ge 13, 3) := by decide +kernel
theorem dJ7_fill_53178_10 : decode cJ7_fill_53178 10 = .ok (.aload_n 0, 1) := by decide +kernel
theorem dJ7_fill_53178_11 : decode cJ7_fill_53178 11 = .ok (.iload_n 2, 1) := by decide +kernel
theorem dJ7_fill_53178_12 : decode cJ7_fill_53178 12 = .ok (.iload_n 1, 1) := by decide +kernel
theorem dJ7_fill_53178_13 : decode cJ7_fill_53178 13 = .ok (.iastore, 1) := by decide +kernel
theorem dJ7_fill_53178_14 : decode cJ7_fill_53178 14 = .ok (.iinc 2 1, 3) := by decide +kernel
theorem dJ7_fill_53178_17 : decode cJ7_fill_53178 17 = .ok (.goto (-12), 3) := by decide +kernel
theorem dJ7_fill_53178_20 : decode cJ7_fill_53178 20 = .ok (.return_, 1) := by decide +kernel
