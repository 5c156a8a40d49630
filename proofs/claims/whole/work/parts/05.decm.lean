theorem dX4_init_0 : decode cX4_init 0 = .ok (.aload_n 0, 1) := by decide +kernel
theorem dX4_init_1 : decode cX4_init 1 = .ok (.invokespecial 1, 3) := by decide +kernel
theorem dX4_init_4 : decode cX4_init 4 = .ok (.aload_n 0, 1) := by decide +kernel
theorem dX4_init_5 : decode cX4_init 5 = .ok (.bipush 20, 2) := by decide +kernel
theorem dX4_init_7 : decode cX4_init 7 = .ok (.putfield 7, 3) := by decide +kernel
theorem dX4_init_10 : decode cX4_init 10 = .ok (.aload_n 0, 1) := by decide +kernel
theorem dX4_init_11 : decode cX4_init 11 = .ok (.iconst 5, 1) := by decide +kernel
theorem dX4_init_12 : decode cX4_init 12 = .ok (.putfield 13, 3) := by decide +kernel
theorem dX4_init_15 : decode cX4_init 15 = .ok (.aload_n 0, 1) := by decide +kernel
theorem dX4_init_16 : decode cX4_init 16 = .ok (.sipush 1000, 3) := by decide +kernel
theorem dX4_init_19 : decode cX4_init 19 = .ok (.putfield 16, 3) := by decide +kernel
theorem dX4_init_22 : decode cX4_init 22 = .ok (.aload_n 0, 1) := by decide +kernel
theorem dX4_init_23 : decode cX4_init 23 = .ok (.bipush 100, 2) := by decide +kernel
theorem dX4_init_25 : decode cX4_init 25 = .ok (.putfield 19, 3) := by decide +kernel
theorem dX4_init_28 : decode cX4_init 28 = .ok (.aload_n 0, 1) := by decide +kernel
theorem dX4_init_29 : decode cX4_init 29 = .ok (.sipush 500, 3) := by decide +kernel
theorem dX4_init_32 : decode cX4_init 32 = .ok (.putfield 22, 3) := by decide +kernel
theorem dX4_init_35 : decode cX4_init 35 = .ok (.aload_n 0, 1) := by decide +kernel
theorem dX4_init_36 : decode cX4_init 36 = .ok (.bipush 30, 2) := by decide +kernel
theorem dX4_init_38 : decode cX4_init 38 = .ok (.newarray .int, 2) := by decide +kernel
theorem dX4_init_40 : decode cX4_init 40 = .ok (.putfield 25, 3) := by decide +kernel
theorem dX4_init_43 : decode cX4_init 43 = .ok (.aload_n 0, 1) := by decide +kernel
theorem dX4_init_44 : decode cX4_init 44 = .ok (.bipush 30, 2) := by decide +kernel
theorem dX4_init_46 : decode cX4_init 46 = .ok (.newarray .int, 2) := by decide +kernel
theorem dX4_init_48 : decode cX4_init 48 = .ok (.putfield 29, 3) := by decide +kernel
theorem dX4_init_51 : decode cX4_init 51 = .ok (.aload_n 0, 1) := by decide +kernel
theorem dX4_init_52 : decode cX4_init 52 = .ok (.bipush 30, 2) := by decide +kernel
theorem dX4_init_54 : decode cX4_init 54 = .ok (.newarray .int, 2) := by decide +kernel
theorem dX4_init_56 : decode cX4_init 56 = .ok (.putfield 32, 3) := by decide +kernel
theorem dX4_init_59 : decode cX4_init 59 = .ok (.aload_n 0, 1) := by decide +kernel
theorem dX4_init_60 : decode cX4_init 60 = .ok (.bipush 30, 2) := by decide +kernel
theorem dX4_init_62 : decode cX4_init 62 = .ok (.newarray .int, 2) := by decide +kernel
theorem dX4_init_64 : decode cX4_init 64 = .ok (.putfield 35, 3) := by decide +kernel
theorem dX4_init_67 : decode cX4_init 67 = .ok (.aload_n 0, 1) := by decide +kernel
theorem dX4_init_68 : decode cX4_init 68 = .ok (.bipush 30, 2) := by decide +kernel
theorem dX4_init_70 : decode cX4_init 70 = .ok (.newarray .int, 2) := by decide +kernel
theorem dX4_init_72 : decode cX4_init 72 = .ok (.putfield 38, 3) := by decide +kernel
theorem dX4_init_75 : decode cX4_init 75 = .ok (.aload_n 0, 1) := by decide +kernel
theorem dX4_init_76 : decode cX4_init 76 = .ok (.bipush 30, 2) := by decide +kernel
theorem dX4_init_78 : decode cX4_init 78 = .ok (.newarray .int, 2) := by decide +kernel
theorem dX4_init_80 : decode cX4_init 80 = .ok (.putfield 41, 3) := by decide +kernel
theorem dX4_init_83 : decode cX4_init 83 = .ok (.aload_n 0, 1) := by decide +kernel
theorem dX4_init_84 : decode cX4_init 84 = .ok (.bipush 30, 2) := by decide +kernel
theorem dX4_init_86 : decode cX4_init 86 = .ok (.newarray .int, 2) := by decide +kernel
theorem dX4_init_88 : decode cX4_init 88 = .ok (.putfield 44, 3) := by decide +kernel
theorem dX4_init_91 : decode cX4_init 91 = .ok (.aload_n 0, 1) := by decide +kernel
theorem dX4_init_92 : decode cX4_init 92 = .ok (.bipush 30, 2) := by decide +kernel
theorem dX4_init_94 : decode cX4_init 94 = .ok (.newarray .long, 2) := by decide +kernel
theorem dX4_init_96 : decode cX4_init 96 = .ok (.putfield 47, 3) := by decide +kernel
theorem dX4_init_99 : decode cX4_init 99 = .ok (.aload_n 0, 1) := by decide +kernel
theorem dX4_init_100 : decode cX4_init 100 = .ok (.bipush 30, 2) := by decide +kernel
theorem dX4_init_102 : decode cX4_init 102 = .ok (.newarray .long, 2) := by decide +kernel
theorem dX4_init_104 : decode cX4_init 104 = .ok (.putfield 51, 3) := by decide +kernel
theorem dX4_init_107 : decode cX4_init 107 = .ok (.aload_n 0, 1) := by decide +kernel
theorem dX4_init_108 : decode cX4_init 108 = .ok (.bipush 21, 2) := by decide +kernel
theorem dX4_init_110 : decode cX4_init 110 = .ok (.newarray .int, 2) := by decide +kernel
theorem dX4_init_112 : decode cX4_init 112 = .ok (.putfield 54, 3) := by decide +kernel
theorem dX4_init_115 : decode cX4_init 115 = .ok (.aload_n 0, 1) := by decide +kernel
theorem dX4_init_116 : decode cX4_init 116 = .ok (.bipush 21, 2) := by decide +kernel
theorem dX4_init_118 : decode cX4_init 118 = .ok (.newarray .int, 2) := by decide +kernel
theorem dX4_init_120 : decode cX4_init 120 = .ok (.putfield 57, 3) := by decide +kernel
theorem dX4_init_123 : decode cX4_init 123 = .ok (.return_, 1) := by decide +kernel
theorem dX4_thrown_0 : decode cX4_thrown 0 = .ok (.aload_n 0, 1) := by decide +kernel
theorem dX4_thrown_1 : decode cX4_thrown 1 = .ok (.getfield 60, 3) := by decide +kernel
theorem dX4_thrown_4 : decode cX4_thrown 4 = .ok (.ireturn, 1) := by decide +kernel
theorem dX4_in_0 : decode cX4_in 0 = .ok (.iload_n 0, 1) := by decide +kernel
theorem dX4_in_1 : decode cX4_in 1 = .ok (.iload_n 1, 1) := by decide +kernel
theorem dX4_in_2 : decode cX4_in 2 = .ok (.if_icmp .lt 12, 3) := by decide +kernel
theorem dX4_in_5 : decode cX4_in 5 = .ok (.iload_n 0, 1) := by decide +kernel
theorem dX4_in_6 : decode cX4_in 6 = .ok (.iload_n 2, 1) := by decide +kernel
theorem dX4_in_7 : decode cX4_in 7 = .ok (.if_icmp .gt 7, 3) := by decide +kernel
theorem dX4_in_10 : decode cX4_in 10 = .ok (.iconst 1, 1) := by decide +kernel
theorem dX4_in_11 : decode cX4_in 11 = .ok (.goto 4, 3) := by decide +kernel
theorem dX4_in_14 : decode cX4_in 14 = .ok (.iconst 0, 1) := by decide +kernel
theorem dX4_in_15 : decode cX4_in 15 = .ok (.ireturn, 1) := by decide +kernel
theorem dX4_isPolicy_0 : decode cX4_isPolicy 0 = .ok (.aload_n 0, 1) := by decide +kernel
theorem dX4_isPolicy_1 : decode cX4_isPolicy 1 = .ok (.iload_n 1, 1) := by decide +kernel
theorem dX4_isPolicy_2 : decode cX4_isPolicy 2 = .ok (.iconst 0, 1) := by decide +kernel
theorem dX4_isPolicy_3 : decode cX4_isPolicy 3 = .ok (.aload_n 0, 1) := by decide +kernel
theorem dX4_isPolicy_4 : decode cX4_isPolicy 4 = .ok (.getfield 63, 3) := by decide +kernel
theorem dX4_isPolicy_7 : decode cX4_isPolicy 7 = .ok (.iconst 1, 1) := by decide +kernel
theorem dX4_isPolicy_8 : decode cX4_isPolicy 8 = .ok (.isub, 1) := by decide +kernel
theorem dX4_isPolicy_9 : decode cX4_isPolicy 9 = .ok (.invokestatic 66, 3) := by decide +kernel
theorem dX4_isPolicy_12 : decode cX4_isPolicy 12 = .ok (.ifCond .eq 7, 3) := by decide +kernel
theorem dX4_isPolicy_15 : decode cX4_isPolicy 15 = .ok (.iconst 0, 1) := by decide +kernel
theorem dX4_isPolicy_16 : decode cX4_isPolicy 16 = .ok (.goto 4, 3) := by decide +kernel
theorem dX4_isPolicy_19 : decode cX4_isPolicy 19 = .ok (.iconst 1, 1) := by decide +kernel
theorem dX4_isPolicy_20 : decode cX4_isPolicy 20 = .ok (.putfield 60, 3) := by decide +kernel
theorem dX4_isPolicy_23 : decode cX4_isPolicy 23 = .ok (.aload_n 0, 1) := by decide +kernel
theorem dX4_isPolicy_24 : decode cX4_isPolicy 24 = .ok (.getfield 60, 3) := by decide +kernel
theorem dX4_isPolicy_27 : decode cX4_isPolicy 27 = .ok (.ifCond .ne 7, 3) := by decide +kernel
theorem dX4_isPolicy_30 : decode cX4_isPolicy 30 = .ok (.iconst 1, 1) := by decide +kernel
theorem dX4_isPolicy_31 : decode cX4_isPolicy 31 = .ok (.goto 4, 3) := by decide +kernel
theorem dX4_isPolicy_34 : decode cX4_isPolicy 34 = .ok (.iconst 0, 1) := by decide +kernel
theorem dX4_isPolicy_35 : decode cX4_isPolicy 35 = .ok (.ireturn, 1) := by decide +kernel
theorem dX4_part_0 : decode cX4_part 0 = .ok (.lload_n 0, 1) := by decide +kernel
theorem dX4_part_1 : decode cX4_part 1 = .ok (.lload_n 2, 1) := by decide +kernel
theorem dX4_part_2 : decode cX4_part 2 = .ok (.lmul, 1) := by decide +kernel
theorem dX4_part_3 : decode cX4_part 3 = .ok (.lstore 4, 2) := by decide +kernel
theorem dX4_part_5 : decode cX4_part 5 = .ok (.lload 4, 2) := by decide +kernel
theorem dX4_part_7 : decode cX4_part 7 = .ok (.ldc2_w 70, 3) := by decide +kernel
theorem dX4_part_10 : decode cX4_part 10 = .ok (.ldiv, 1) := by decide +kernel
theorem dX4_part_11 : decode cX4_part 11 = .ok (.lstore 6, 2) := by decide +kernel
theorem dX4_part_13 : decode cX4_part 13 = .ok (.lload 4, 2) := by decide +kernel
theorem dX4_part_15 : decode cX4_part 15 = .ok (.lconst 0, 1) := by decide +kernel
theorem dX4_part_16 : decode cX4_part 16 = .ok (.lcmp, 1) := by decide +kernel
theorem dX4_part_17 : decode cX4_part 17 = .ok (.ifCond .ge 22, 3) := by decide +kernel
theorem dX4_part_20 : decode cX4_part 20 = .ok (.lload 6, 2) := by decide +kernel
theorem dX4_part_22 : decode cX4_part 22 = .ok (.ldc2_w 70, 3) := by decide +kernel
theorem dX4_part_25 : decode cX4_part 25 = .ok (.lmul, 1) := by decide +kernel
theorem dX4_part_26 : decode cX4_part 26 = .ok (.lload 4, 2) := by decide +kernel
theorem dX4_part_28 : decode cX4_part 28 = .ok (.lcmp, 1) := by decide +kernel
theorem dX4_part_29 : decode cX4_part 29 = .ok (.ifCond .eq 10, 3) := by decide +kernel
theorem dX4_part_32 : decode cX4_part 32 = .ok (.lload 6, 2) := by decide +kernel
theorem dX4_part_34 : decode cX4_part 34 = .ok (.lconst 1, 1) := by decide +kernel
theorem dX4_part_35 : decode cX4_part 35 = .ok (.lsub, 1) := by decide +kernel
theorem dX4_part_36 : decode cX4_part 36 = .ok (.goto 5, 3) := by decide +kernel
theorem dX4_part_39 : decode cX4_part 39 = .ok (.lload 6, 2) := by decide +kernel
theorem dX4_part_41 : decode cX4_part 41 = .ok (.lreturn, 1) := by decide +kernel
theorem dX4_firstOf_0 : decode cX4_firstOf 0 = .ok (.iconst (-1), 1) := by decide +kernel
theorem dX4_firstOf_1 : decode cX4_firstOf 1 = .ok (.istore_n 3, 1) := by decide +kernel
theorem dX4_firstOf_2 : decode cX4_firstOf 2 = .ok (.aload_n 0, 1) := by decide +kernel
theorem dX4_firstOf_3 : decode cX4_firstOf 3 = .ok (.getfield 63, 3) := by decide +kernel
theorem dX4_firstOf_6 : decode cX4_firstOf 6 = .ok (.iconst 1, 1) := by decide +kernel
theorem dX4_firstOf_7 : decode cX4_firstOf 7 = .ok (.isub, 1) := by decide +kernel
theorem dX4_firstOf_8 : decode cX4_firstOf 8 = .ok (.istore 4, 2) := by decide +kernel
theorem dX4_firstOf_10 : decode cX4_firstOf 10 = .ok (.iload 4, 2) := by decide +kernel
theorem dX4_firstOf_12 : decode cX4_firstOf 12 = .ok (.ifCond .lt 38, 3) := by decide +kernel
theorem dX4_firstOf_15 : decode cX4_firstOf 15 = .ok (.aload_n 0, 1) := by decide +kernel
theorem dX4_firstOf_16 : decode cX4_firstOf 16 = .ok (.getfield 25, 3) := by decide +kernel
theorem dX4_firstOf_19 : decode cX4_firstOf 19 = .ok (.iload 4, 2) := by decide +kernel
theorem dX4_firstOf_21 : decode cX4_firstOf 21 = .ok (.iaload, 1) := by decide +kernel
theorem dX4_firstOf_22 : decode cX4_firstOf 22 = .ok (.iload_n 1, 1) := by decide +kernel
theorem dX4_firstOf_23 : decode cX4_firstOf 23 = .ok (.if_icmp .ne 19, 3) := by decide +kernel
theorem dX4_firstOf_26 : decode cX4_firstOf 26 = .ok (.aload_n 0, 1) := by decide +kernel
theorem dX4_firstOf_27 : decode cX4_firstOf 27 = .ok (.getfield 29, 3) := by decide +kernel
theorem dX4_firstOf_30 : decode cX4_firstOf 30 = .ok (.iload 4, 2) := by decide +kernel
theorem dX4_firstOf_32 : decode cX4_firstOf 32 = .ok (.iaload, 1) := by decide +kernel
theorem dX4_firstOf_33 : decode cX4_firstOf 33 = .ok (.iload_n 2, 1) := by decide +kernel
theorem dX4_firstOf_34 : decode cX4_firstOf 34 = .ok (.if_icmp .ne 8, 3) := by decide +kernel
theorem dX4_firstOf_37 : decode cX4_firstOf 37 = .ok (.iload 4, 2) := by decide +kernel
theorem dX4_firstOf_39 : decode cX4_firstOf 39 = .ok (.goto 4, 3) := by decide +kernel
theorem dX4_firstOf_42 : decode cX4_firstOf 42 = .ok (.iload_n 3, 1) := by decide +kernel
theorem dX4_firstOf_43 : decode cX4_firstOf 43 = .ok (.istore_n 3, 1) := by decide +kernel
theorem dX4_firstOf_44 : decode cX4_firstOf 44 = .ok (.iinc 4 (-1), 3) := by decide +kernel
theorem dX4_firstOf_47 : decode cX4_firstOf 47 = .ok (.goto (-37), 3) := by decide +kernel
theorem dX4_firstOf_50 : decode cX4_firstOf 50 = .ok (.iload_n 3, 1) := by decide +kernel
theorem dX4_firstOf_51 : decode cX4_firstOf 51 = .ok (.ireturn, 1) := by decide +kernel
theorem dX4_home_0 : decode cX4_home 0 = .ok (.aload_n 0, 1) := by decide +kernel
theorem dX4_home_1 : decode cX4_home 1 = .ok (.aload_n 0, 1) := by decide +kernel
theorem dX4_home_2 : decode cX4_home 2 = .ok (.getfield 25, 3) := by decide +kernel
theorem dX4_home_5 : decode cX4_home 5 = .ok (.iload_n 1, 1) := by decide +kernel
theorem dX4_home_6 : decode cX4_home 6 = .ok (.iaload, 1) := by decide +kernel
theorem dX4_home_7 : decode cX4_home 7 = .ok (.aload_n 0, 1) := by decide +kernel
theorem dX4_home_8 : decode cX4_home 8 = .ok (.getfield 29, 3) := by decide +kernel
theorem dX4_home_11 : decode cX4_home 11 = .ok (.iload_n 1, 1) := by decide +kernel
theorem dX4_home_12 : decode cX4_home 12 = .ok (.iaload, 1) := by decide +kernel
theorem dX4_home_13 : decode cX4_home 13 = .ok (.invokevirtual 72, 3) := by decide +kernel
theorem dX4_home_16 : decode cX4_home 16 = .ok (.ireturn, 1) := by decide +kernel
theorem dX4_premiumsOf_0 : decode cX4_premiumsOf 0 = .ok (.lconst 0, 1) := by decide +kernel
theorem dX4_premiumsOf_1 : decode cX4_premiumsOf 1 = .ok (.lstore_n 3, 1) := by decide +kernel
theorem dX4_premiumsOf_2 : decode cX4_premiumsOf 2 = .ok (.iconst 0, 1) := by decide +kernel
theorem dX4_premiumsOf_3 : decode cX4_premiumsOf 3 = .ok (.istore 5, 2) := by decide +kernel
theorem dX4_premiumsOf_5 : decode cX4_premiumsOf 5 = .ok (.iload 5, 2) := by decide +kernel
theorem dX4_premiumsOf_7 : decode cX4_premiumsOf 7 = .ok (.aload_n 0, 1) := by decide +kernel
theorem dX4_premiumsOf_8 : decode cX4_premiumsOf 8 = .ok (.getfield 63, 3) := by decide +kernel
theorem dX4_premiumsOf_11 : decode cX4_premiumsOf 11 = .ok (.if_icmp .ge 56, 3) := by decide +kernel
theorem dX4_premiumsOf_14 : decode cX4_premiumsOf 14 = .ok (.lload_n 3, 1) := by decide +kernel
theorem dX4_premiumsOf_15 : decode cX4_premiumsOf 15 = .ok (.aload_n 0, 1) := by decide +kernel
theorem dX4_premiumsOf_16 : decode cX4_premiumsOf 16 = .ok (.getfield 25, 3) := by decide +kernel
theorem dX4_premiumsOf_19 : decode cX4_premiumsOf 19 = .ok (.iload 5, 2) := by decide +kernel
theorem dX4_premiumsOf_21 : decode cX4_premiumsOf 21 = .ok (.iaload, 1) := by decide +kernel
theorem dX4_premiumsOf_22 : decode cX4_premiumsOf 22 = .ok (.iload_n 1, 1) := by decide +kernel
theorem dX4_premiumsOf_23 : decode cX4_premiumsOf 23 = .ok (.if_icmp .ne 35, 3) := by decide +kernel
theorem dX4_premiumsOf_26 : decode cX4_premiumsOf 26 = .ok (.aload_n 0, 1) := by decide +kernel
theorem dX4_premiumsOf_27 : decode cX4_premiumsOf 27 = .ok (.getfield 29, 3) := by decide +kernel
theorem dX4_premiumsOf_30 : decode cX4_premiumsOf 30 = .ok (.iload 5, 2) := by decide +kernel
theorem dX4_premiumsOf_32 : decode cX4_premiumsOf 32 = .ok (.iaload, 1) := by decide +kernel
theorem dX4_premiumsOf_33 : decode cX4_premiumsOf 33 = .ok (.iload_n 2, 1) := by decide +kernel
theorem dX4_premiumsOf_34 : decode cX4_premiumsOf 34 = .ok (.if_icmp .ne 24, 3) := by decide +kernel
theorem dX4_premiumsOf_37 : decode cX4_premiumsOf 37 = .ok (.aload_n 0, 1) := by decide +kernel
theorem dX4_premiumsOf_38 : decode cX4_premiumsOf 38 = .ok (.getfield 38, 3) := by decide +kernel
theorem dX4_premiumsOf_41 : decode cX4_premiumsOf 41 = .ok (.iload 5, 2) := by decide +kernel
theorem dX4_premiumsOf_43 : decode cX4_premiumsOf 43 = .ok (.iaload, 1) := by decide +kernel
theorem dX4_premiumsOf_44 : decode cX4_premiumsOf 44 = .ok (.ifCond .ne 14, 3) := by decide +kernel
theorem dX4_premiumsOf_47 : decode cX4_premiumsOf 47 = .ok (.aload_n 0, 1) := by decide +kernel
theorem dX4_premiumsOf_48 : decode cX4_premiumsOf 48 = .ok (.getfield 32, 3) := by decide +kernel
theorem dX4_premiumsOf_51 : decode cX4_premiumsOf 51 = .ok (.iload 5, 2) := by decide +kernel
theorem dX4_premiumsOf_53 : decode cX4_premiumsOf 53 = .ok (.iaload, 1) := by decide +kernel
theorem dX4_premiumsOf_54 : decode cX4_premiumsOf 54 = .ok (.i2l, 1) := by decide +kernel
theorem dX4_premiumsOf_55 : decode cX4_premiumsOf 55 = .ok (.goto 4, 3) := by decide +kernel
theorem dX4_premiumsOf_58 : decode cX4_premiumsOf 58 = .ok (.lconst 0, 1) := by decide +kernel
theorem dX4_premiumsOf_59 : decode cX4_premiumsOf 59 = .ok (.ladd, 1) := by decide +kernel
theorem dX4_premiumsOf_60 : decode cX4_premiumsOf 60 = .ok (.lstore_n 3, 1) := by decide +kernel
theorem dX4_premiumsOf_61 : decode cX4_premiumsOf 61 = .ok (.iinc 5 1, 3) := by decide +kernel
theorem dX4_premiumsOf_64 : decode cX4_premiumsOf 64 = .ok (.goto (-59), 3) := by decide +kernel
theorem dX4_premiumsOf_67 : decode cX4_premiumsOf 67 = .ok (.lload_n 3, 1) := by decide +kernel
theorem dX4_premiumsOf_68 : decode cX4_premiumsOf 68 = .ok (.lreturn, 1) := by decide +kernel
theorem dX4_share_0 : decode cX4_share 0 = .ok (.aload_n 0, 1) := by decide +kernel
theorem dX4_share_1 : decode cX4_share 1 = .ok (.getfield 38, 3) := by decide +kernel
theorem dX4_share_4 : decode cX4_share 4 = .ok (.iload_n 1, 1) := by decide +kernel
theorem dX4_share_5 : decode cX4_share 5 = .ok (.iaload, 1) := by decide +kernel
theorem dX4_share_6 : decode cX4_share 6 = .ok (.ifCond .eq 5, 3) := by decide +kernel
theorem dX4_share_9 : decode cX4_share 9 = .ok (.lconst 0, 1) := by decide +kernel
theorem dX4_share_10 : decode cX4_share 10 = .ok (.lreturn, 1) := by decide +kernel
theorem dX4_share_11 : decode cX4_share 11 = .ok (.aload_n 0, 1) := by decide +kernel
theorem dX4_share_12 : decode cX4_share 12 = .ok (.getfield 51, 3) := by decide +kernel
theorem dX4_share_15 : decode cX4_share 15 = .ok (.aload_n 0, 1) := by decide +kernel
theorem dX4_share_16 : decode cX4_share 16 = .ok (.iload_n 1, 1) := by decide +kernel
theorem dX4_share_17 : decode cX4_share 17 = .ok (.invokevirtual 76, 3) := by decide +kernel
theorem dX4_share_20 : decode cX4_share 20 = .ok (.laload, 1) := by decide +kernel
theorem dX4_share_21 : decode cX4_share 21 = .ok (.aload_n 0, 1) := by decide +kernel
theorem dX4_share_22 : decode cX4_share 22 = .ok (.getfield 32, 3) := by decide +kernel
theorem dX4_share_25 : decode cX4_share 25 = .ok (.iload_n 1, 1) := by decide +kernel
theorem dX4_share_26 : decode cX4_share 26 = .ok (.iaload, 1) := by decide +kernel
theorem dX4_share_27 : decode cX4_share 27 = .ok (.i2l, 1) := by decide +kernel
theorem dX4_share_28 : decode cX4_share 28 = .ok (.lmul, 1) := by decide +kernel
theorem dX4_share_29 : decode cX4_share 29 = .ok (.aload_n 0, 1) := by decide +kernel
theorem dX4_share_30 : decode cX4_share 30 = .ok (.aload_n 0, 1) := by decide +kernel
theorem dX4_share_31 : decode cX4_share 31 = .ok (.getfield 25, 3) := by decide +kernel
theorem dX4_share_34 : decode cX4_share 34 = .ok (.iload_n 1, 1) := by decide +kernel
theorem dX4_share_35 : decode cX4_share 35 = .ok (.iaload, 1) := by decide +kernel
theorem dX4_share_36 : decode cX4_share 36 = .ok (.aload_n 0, 1) := by decide +kernel
theorem dX4_share_37 : decode cX4_share 37 = .ok (.getfield 29, 3) := by decide +kernel
theorem dX4_share_40 : decode cX4_share 40 = .ok (.iload_n 1, 1) := by decide +kernel
theorem dX4_share_41 : decode cX4_share 41 = .ok (.iaload, 1) := by decide +kernel
theorem dX4_share_42 : decode cX4_share 42 = .ok (.invokevirtual 80, 3) := by decide +kernel
theorem dX4_share_45 : decode cX4_share 45 = .ok (.ldiv, 1) := by decide +kernel
theorem dX4_share_46 : decode cX4_share 46 = .ok (.lreturn, 1) := by decide +kernel
theorem dX4_leaves_0 : decode cX4_leaves 0 = .ok (.aload_n 0, 1) := by decide +kernel
theorem dX4_leaves_1 : decode cX4_leaves 1 = .ok (.iload_n 1, 1) := by decide +kernel
theorem dX4_leaves_2 : decode cX4_leaves 2 = .ok (.invokevirtual 76, 3) := by decide +kernel
theorem dX4_leaves_5 : decode cX4_leaves 5 = .ok (.istore 6, 2) := by decide +kernel
theorem dX4_leaves_7 : decode cX4_leaves 7 = .ok (.aload_n 0, 1) := by decide +kernel
theorem dX4_leaves_8 : decode cX4_leaves 8 = .ok (.getfield 51, 3) := by decide +kernel
theorem dX4_leaves_11 : decode cX4_leaves 11 = .ok (.iload 6, 2) := by decide +kernel
theorem dX4_leaves_13 : decode cX4_leaves 13 = .ok (.dup2, 1) := by decide +kernel
theorem dX4_leaves_14 : decode cX4_leaves 14 = .ok (.laload, 1) := by decide +kernel
theorem dX4_leaves_15 : decode cX4_leaves 15 = .ok (.lload_n 3, 1) := by decide +kernel
theorem dX4_leaves_16 : decode cX4_leaves 16 = .ok (.lsub, 1) := by decide +kernel
theorem dX4_leaves_17 : decode cX4_leaves 17 = .ok (.lastore, 1) := by decide +kernel
theorem dX4_leaves_18 : decode cX4_leaves 18 = .ok (.aload_n 0, 1) := by decide +kernel
theorem dX4_leaves_19 : decode cX4_leaves 19 = .ok (.dup, 1) := by decide +kernel
theorem dX4_leaves_20 : decode cX4_leaves 20 = .ok (.getfield 84, 3) := by decide +kernel
theorem dX4_leaves_23 : decode cX4_leaves 23 = .ok (.lload_n 3, 1) := by decide +kernel
theorem dX4_leaves_24 : decode cX4_leaves 24 = .ok (.iload 5, 2) := by decide +kernel
theorem dX4_leaves_26 : decode cX4_leaves 26 = .ok (.i2l, 1) := by decide +kernel
theorem dX4_leaves_27 : decode cX4_leaves 27 = .ok (.lsub, 1) := by decide +kernel
theorem dX4_leaves_28 : decode cX4_leaves 28 = .ok (.ladd, 1) := by decide +kernel
theorem dX4_leaves_29 : decode cX4_leaves 29 = .ok (.putfield 84, 3) := by decide +kernel
theorem dX4_leaves_32 : decode cX4_leaves 32 = .ok (.aload_n 0, 1) := by decide +kernel
theorem dX4_leaves_33 : decode cX4_leaves 33 = .ok (.dup, 1) := by decide +kernel
theorem dX4_leaves_34 : decode cX4_leaves 34 = .ok (.getfield 88, 3) := by decide +kernel
theorem dX4_leaves_37 : decode cX4_leaves 37 = .ok (.iload 5, 2) := by decide +kernel
theorem dX4_leaves_39 : decode cX4_leaves 39 = .ok (.i2l, 1) := by decide +kernel
theorem dX4_leaves_40 : decode cX4_leaves 40 = .ok (.lsub, 1) := by decide +kernel
theorem dX4_leaves_41 : decode cX4_leaves 41 = .ok (.putfield 88, 3) := by decide +kernel
theorem dX4_leaves_44 : decode cX4_leaves 44 = .ok (.aload_n 0, 1) := by decide +kernel
theorem dX4_leaves_45 : decode cX4_leaves 45 = .ok (.getfield 38, 3) := by decide +kernel
theorem dX4_leaves_48 : decode cX4_leaves 48 = .ok (.iload_n 1, 1) := by decide +kernel
theorem dX4_leaves_49 : decode cX4_leaves 49 = .ok (.iload_n 2, 1) := by decide +kernel
theorem dX4_leaves_50 : decode cX4_leaves 50 = .ok (.iastore, 1) := by decide +kernel
theorem dX4_leaves_51 : decode cX4_leaves 51 = .ok (.aload_n 0, 1) := by decide +kernel
theorem dX4_leaves_52 : decode cX4_leaves 52 = .ok (.getfield 44, 3) := by decide +kernel
theorem dX4_leaves_55 : decode cX4_leaves 55 = .ok (.iload_n 1, 1) := by decide +kernel
theorem dX4_leaves_56 : decode cX4_leaves 56 = .ok (.iload 5, 2) := by decide +kernel
theorem dX4_leaves_58 : decode cX4_leaves 58 = .ok (.iastore, 1) := by decide +kernel
theorem dX4_leaves_59 : decode cX4_leaves 59 = .ok (.aload_n 0, 1) := by decide +kernel
theorem dX4_leaves_60 : decode cX4_leaves 60 = .ok (.aload_n 0, 1) := by decide +kernel
theorem dX4_leaves_61 : decode cX4_leaves 61 = .ok (.getfield 25, 3) := by decide +kernel
theorem dX4_leaves_64 : decode cX4_leaves 64 = .ok (.iload_n 1, 1) := by decide +kernel
theorem dX4_leaves_65 : decode cX4_leaves 65 = .ok (.iaload, 1) := by decide +kernel
theorem dX4_leaves_66 : decode cX4_leaves 66 = .ok (.aload_n 0, 1) := by decide +kernel
theorem dX4_leaves_67 : decode cX4_leaves 67 = .ok (.getfield 29, 3) := by decide +kernel
theorem dX4_leaves_70 : decode cX4_leaves 70 = .ok (.iload_n 1, 1) := by decide +kernel
theorem dX4_leaves_71 : decode cX4_leaves 71 = .ok (.iaload, 1) := by decide +kernel
theorem dX4_leaves_72 : decode cX4_leaves 72 = .ok (.invokevirtual 80, 3) := by decide +kernel
theorem dX4_leaves_75 : decode cX4_leaves 75 = .ok (.lconst 0, 1) := by decide +kernel
theorem dX4_leaves_76 : decode cX4_leaves 76 = .ok (.lcmp, 1) := by decide +kernel
theorem dX4_leaves_77 : decode cX4_leaves 77 = .ok (.ifCond .ne 27, 3) := by decide +kernel
theorem dX4_leaves_80 : decode cX4_leaves 80 = .ok (.aload_n 0, 1) := by decide +kernel
theorem dX4_leaves_81 : decode cX4_leaves 81 = .ok (.dup, 1) := by decide +kernel
theorem dX4_leaves_82 : decode cX4_leaves 82 = .ok (.getfield 84, 3) := by decide +kernel
theorem dX4_leaves_85 : decode cX4_leaves 85 = .ok (.aload_n 0, 1) := by decide +kernel
theorem dX4_leaves_86 : decode cX4_leaves 86 = .ok (.getfield 51, 3) := by decide +kernel
theorem dX4_leaves_89 : decode cX4_leaves 89 = .ok (.iload 6, 2) := by decide +kernel
theorem dX4_leaves_91 : decode cX4_leaves 91 = .ok (.laload, 1) := by decide +kernel
theorem dX4_leaves_92 : decode cX4_leaves 92 = .ok (.ladd, 1) := by decide +kernel
theorem dX4_leaves_93 : decode cX4_leaves 93 = .ok (.putfield 84, 3) := by decide +kernel
theorem dX4_leaves_96 : decode cX4_leaves 96 = .ok (.aload_n 0, 1) := by decide +kernel
theorem dX4_leaves_97 : decode cX4_leaves 97 = .ok (.getfield 51, 3) := by decide +kernel
theorem dX4_leaves_100 : decode cX4_leaves 100 = .ok (.iload 6, 2) := by decide +kernel
theorem dX4_leaves_102 : decode cX4_leaves 102 = .ok (.lconst 0, 1) := by decide +kernel
theorem dX4_leaves_103 : decode cX4_leaves 103 = .ok (.lastore, 1) := by decide +kernel
theorem dX4_leaves_104 : decode cX4_leaves 104 = .ok (.return_, 1) := by decide +kernel
theorem dX4_begin_0 : decode cX4_begin 0 = .ok (.aload_n 0, 1) := by decide +kernel
theorem dX4_begin_1 : decode cX4_begin 1 = .ok (.iload_n 1, 1) := by decide +kernel
theorem dX4_begin_2 : decode cX4_begin 2 = .ok (.iconst 2, 1) := by decide +kernel
theorem dX4_begin_3 : decode cX4_begin 3 = .ok (.bipush 20, 2) := by decide +kernel
theorem dX4_begin_5 : decode cX4_begin 5 = .ok (.invokestatic 66, 3) := by decide +kernel
theorem dX4_begin_8 : decode cX4_begin 8 = .ok (.ifCond .eq 24, 3) := by decide +kernel
theorem dX4_begin_11 : decode cX4_begin 11 = .ok (.iload_n 2, 1) := by decide +kernel
theorem dX4_begin_12 : decode cX4_begin 12 = .ok (.iconst 1, 1) := by decide +kernel
theorem dX4_begin_13 : decode cX4_begin 13 = .ok (.sipush 1000, 3) := by decide +kernel
theorem dX4_begin_16 : decode cX4_begin 16 = .ok (.invokestatic 66, 3) := by decide +kernel
theorem dX4_begin_19 : decode cX4_begin 19 = .ok (.ifCond .eq 13, 3) := by decide +kernel
theorem dX4_begin_22 : decode cX4_begin 22 = .ok (.iload_n 3, 1) := by decide +kernel
theorem dX4_begin_23 : decode cX4_begin 23 = .ok (.iconst 0, 1) := by decide +kernel
theorem dX4_begin_24 : decode cX4_begin 24 = .ok (.ldc 91, 2) := by decide +kernel
theorem dX4_begin_26 : decode cX4_begin 26 = .ok (.invokestatic 66, 3) := by decide +kernel
theorem dX4_begin_29 : decode cX4_begin 29 = .ok (.ifCond .ne 7, 3) := by decide +kernel
theorem dX4_begin_32 : decode cX4_begin 32 = .ok (.iconst 1, 1) := by decide +kernel
theorem dX4_begin_33 : decode cX4_begin 33 = .ok (.goto 17, 3) := by decide +kernel
theorem dX4_begin_36 : decode cX4_begin 36 = .ok (.aload_n 0, 1) := by decide +kernel
theorem dX4_begin_37 : decode cX4_begin 37 = .ok (.getfield 63, 3) := by decide +kernel
theorem dX4_begin_40 : decode cX4_begin 40 = .ok (.bipush 30, 2) := by decide +kernel
theorem dX4_begin_42 : decode cX4_begin 42 = .ok (.if_icmp .ne 7, 3) := by decide +kernel
theorem dX4_begin_45 : decode cX4_begin 45 = .ok (.iconst 2, 1) := by decide +kernel
theorem dX4_begin_46 : decode cX4_begin 46 = .ok (.goto 4, 3) := by decide +kernel
theorem dX4_begin_49 : decode cX4_begin 49 = .ok (.iconst 0, 1) := by decide +kernel
theorem dX4_begin_50 : decode cX4_begin 50 = .ok (.putfield 60, 3) := by decide +kernel
theorem dX4_begin_53 : decode cX4_begin 53 = .ok (.aload_n 0, 1) := by decide +kernel
theorem dX4_begin_54 : decode cX4_begin 54 = .ok (.getfield 60, 3) := by decide +kernel
theorem dX4_begin_57 : decode cX4_begin 57 = .ok (.ifCond .le 5, 3) := by decide +kernel
theorem dX4_begin_60 : decode cX4_begin 60 = .ok (.iconst 0, 1) := by decide +kernel
theorem dX4_begin_61 : decode cX4_begin 61 = .ok (.ireturn, 1) := by decide +kernel
theorem dX4_begin_62 : decode cX4_begin 62 = .ok (.aload_n 0, 1) := by decide +kernel
theorem dX4_begin_63 : decode cX4_begin 63 = .ok (.getfield 25, 3) := by decide +kernel
theorem dX4_begin_66 : decode cX4_begin 66 = .ok (.aload_n 0, 1) := by decide +kernel
theorem dX4_begin_67 : decode cX4_begin 67 = .ok (.getfield 63, 3) := by decide +kernel
theorem dX4_begin_70 : decode cX4_begin 70 = .ok (.aload_n 0, 1) := by decide +kernel
theorem dX4_begin_71 : decode cX4_begin 71 = .ok (.getfield 92, 3) := by decide +kernel
theorem dX4_begin_74 : decode cX4_begin 74 = .ok (.iastore, 1) := by decide +kernel
theorem dX4_begin_75 : decode cX4_begin 75 = .ok (.aload_n 0, 1) := by decide +kernel
theorem dX4_begin_76 : decode cX4_begin 76 = .ok (.getfield 29, 3) := by decide +kernel
theorem dX4_begin_79 : decode cX4_begin 79 = .ok (.aload_n 0, 1) := by decide +kernel
theorem dX4_begin_80 : decode cX4_begin 80 = .ok (.getfield 63, 3) := by decide +kernel
theorem dX4_begin_83 : decode cX4_begin 83 = .ok (.iload_n 1, 1) := by decide +kernel
theorem dX4_begin_84 : decode cX4_begin 84 = .ok (.iastore, 1) := by decide +kernel
theorem dX4_begin_85 : decode cX4_begin 85 = .ok (.aload_n 0, 1) := by decide +kernel
theorem dX4_begin_86 : decode cX4_begin 86 = .ok (.getfield 32, 3) := by decide +kernel
theorem dX4_begin_89 : decode cX4_begin 89 = .ok (.aload_n 0, 1) := by decide +kernel
theorem dX4_begin_90 : decode cX4_begin 90 = .ok (.getfield 63, 3) := by decide +kernel
theorem dX4_begin_93 : decode cX4_begin 93 = .ok (.iload_n 2, 1) := by decide +kernel
theorem dX4_begin_94 : decode cX4_begin 94 = .ok (.iastore, 1) := by decide +kernel
theorem dX4_begin_95 : decode cX4_begin 95 = .ok (.aload_n 0, 1) := by decide +kernel
theorem dX4_begin_96 : decode cX4_begin 96 = .ok (.getfield 35, 3) := by decide +kernel
theorem dX4_begin_99 : decode cX4_begin 99 = .ok (.aload_n 0, 1) := by decide +kernel
theorem dX4_begin_100 : decode cX4_begin 100 = .ok (.getfield 63, 3) := by decide +kernel
theorem dX4_begin_103 : decode cX4_begin 103 = .ok (.iload_n 3, 1) := by decide +kernel
theorem dX4_begin_104 : decode cX4_begin 104 = .ok (.iastore, 1) := by decide +kernel
theorem dX4_begin_105 : decode cX4_begin 105 = .ok (.aload_n 0, 1) := by decide +kernel
theorem dX4_begin_106 : decode cX4_begin 106 = .ok (.dup, 1) := by decide +kernel
theorem dX4_begin_107 : decode cX4_begin 107 = .ok (.getfield 63, 3) := by decide +kernel
theorem dX4_begin_110 : decode cX4_begin 110 = .ok (.iconst 1, 1) := by decide +kernel
theorem dX4_begin_111 : decode cX4_begin 111 = .ok (.iadd, 1) := by decide +kernel
theorem dX4_begin_112 : decode cX4_begin 112 = .ok (.putfield 63, 3) := by decide +kernel
theorem dX4_begin_115 : decode cX4_begin 115 = .ok (.aload_n 0, 1) := by decide +kernel
theorem dX4_begin_116 : decode cX4_begin 116 = .ok (.getfield 63, 3) := by decide +kernel
theorem dX4_begin_119 : decode cX4_begin 119 = .ok (.iconst 1, 1) := by decide +kernel
theorem dX4_begin_120 : decode cX4_begin 120 = .ok (.isub, 1) := by decide +kernel
theorem dX4_begin_121 : decode cX4_begin 121 = .ok (.ireturn, 1) := by decide +kernel
theorem dX4_worthOf_0 : decode cX4_worthOf 0 = .ok (.aload_n 0, 1) := by decide +kernel
theorem dX4_worthOf_1 : decode cX4_worthOf 1 = .ok (.getfield 92, 3) := by decide +kernel
theorem dX4_worthOf_4 : decode cX4_worthOf 4 = .ok (.aload_n 0, 1) := by decide +kernel
theorem dX4_worthOf_5 : decode cX4_worthOf 5 = .ok (.getfield 25, 3) := by decide +kernel
theorem dX4_worthOf_8 : decode cX4_worthOf 8 = .ok (.iload_n 1, 1) := by decide +kernel
theorem dX4_worthOf_9 : decode cX4_worthOf 9 = .ok (.iaload, 1) := by decide +kernel
theorem dX4_worthOf_10 : decode cX4_worthOf 10 = .ok (.isub, 1) := by decide +kernel
theorem dX4_worthOf_11 : decode cX4_worthOf 11 = .ok (.istore_n 2, 1) := by decide +kernel
theorem dX4_worthOf_12 : decode cX4_worthOf 12 = .ok (.aload_n 0, 1) := by decide +kernel
theorem dX4_worthOf_13 : decode cX4_worthOf 13 = .ok (.iload_n 1, 1) := by decide +kernel
theorem dX4_worthOf_14 : decode cX4_worthOf 14 = .ok (.invokevirtual 95, 3) := by decide +kernel
theorem dX4_worthOf_17 : decode cX4_worthOf 17 = .ok (.ldc2_w 99, 3) := by decide +kernel
theorem dX4_worthOf_20 : decode cX4_worthOf 20 = .ok (.ldc2_w 101, 3) := by decide +kernel
theorem dX4_worthOf_23 : decode cX4_worthOf 23 = .ok (.iload_n 2, 1) := by decide +kernel
theorem dX4_worthOf_24 : decode cX4_worthOf 24 = .ok (.i2l, 1) := by decide +kernel
theorem dX4_worthOf_25 : decode cX4_worthOf 25 = .ok (.lmul, 1) := by decide +kernel
theorem dX4_worthOf_26 : decode cX4_worthOf 26 = .ok (.aload_n 0, 1) := by decide +kernel
theorem dX4_worthOf_27 : decode cX4_worthOf 27 = .ok (.getfield 29, 3) := by decide +kernel
theorem dX4_worthOf_30 : decode cX4_worthOf 30 = .ok (.iload_n 1, 1) := by decide +kernel
theorem dX4_worthOf_31 : decode cX4_worthOf 31 = .ok (.iaload, 1) := by decide +kernel
theorem dX4_worthOf_32 : decode cX4_worthOf 32 = .ok (.i2l, 1) := by decide +kernel
theorem dX4_worthOf_33 : decode cX4_worthOf 33 = .ok (.ldiv, 1) := by decide +kernel
theorem dX4_worthOf_34 : decode cX4_worthOf 34 = .ok (.ladd, 1) := by decide +kernel
theorem dX4_worthOf_35 : decode cX4_worthOf 35 = .ok (.invokestatic 103, 3) := by decide +kernel
theorem dX4_worthOf_38 : decode cX4_worthOf 38 = .ok (.lstore_n 3, 1) := by decide +kernel
theorem dX4_worthOf_39 : decode cX4_worthOf 39 = .ok (.iload_n 2, 1) := by decide +kernel
theorem dX4_worthOf_40 : decode cX4_worthOf 40 = .ok (.i2l, 1) := by decide +kernel
theorem dX4_worthOf_41 : decode cX4_worthOf 41 = .ok (.aload_n 0, 1) := by decide +kernel
theorem dX4_worthOf_42 : decode cX4_worthOf 42 = .ok (.getfield 32, 3) := by decide +kernel
theorem dX4_worthOf_45 : decode cX4_worthOf 45 = .ok (.iload_n 1, 1) := by decide +kernel
theorem dX4_worthOf_46 : decode cX4_worthOf 46 = .ok (.iaload, 1) := by decide +kernel
theorem dX4_worthOf_47 : decode cX4_worthOf 47 = .ok (.i2l, 1) := by decide +kernel
theorem dX4_worthOf_48 : decode cX4_worthOf 48 = .ok (.lmul, 1) := by decide +kernel
theorem dX4_worthOf_49 : decode cX4_worthOf 49 = .ok (.aload_n 0, 1) := by decide +kernel
theorem dX4_worthOf_50 : decode cX4_worthOf 50 = .ok (.getfield 22, 3) := by decide +kernel
theorem dX4_worthOf_53 : decode cX4_worthOf 53 = .ok (.i2l, 1) := by decide +kernel
theorem dX4_worthOf_54 : decode cX4_worthOf 54 = .ok (.invokestatic 103, 3) := by decide +kernel
theorem dX4_worthOf_57 : decode cX4_worthOf 57 = .ok (.lstore 5, 2) := by decide +kernel
theorem dX4_worthOf_59 : decode cX4_worthOf 59 = .ok (.lload_n 3, 1) := by decide +kernel
theorem dX4_worthOf_60 : decode cX4_worthOf 60 = .ok (.lload 5, 2) := by decide +kernel
theorem dX4_worthOf_62 : decode cX4_worthOf 62 = .ok (.lcmp, 1) := by decide +kernel
theorem dX4_worthOf_63 : decode cX4_worthOf 63 = .ok (.ifCond .le 7, 3) := by decide +kernel
theorem dX4_worthOf_66 : decode cX4_worthOf 66 = .ok (.lload_n 3, 1) := by decide +kernel
theorem dX4_worthOf_67 : decode cX4_worthOf 67 = .ok (.goto 5, 3) := by decide +kernel
theorem dX4_worthOf_70 : decode cX4_worthOf 70 = .ok (.lload 5, 2) := by decide +kernel
theorem dX4_worthOf_72 : decode cX4_worthOf 72 = .ok (.lreturn, 1) := by decide +kernel
theorem dX4_canLeave_0 : decode cX4_canLeave 0 = .ok (.aload_n 0, 1) := by decide +kernel
theorem dX4_canLeave_1 : decode cX4_canLeave 1 = .ok (.iload_n 1, 1) := by decide +kernel
theorem dX4_canLeave_2 : decode cX4_canLeave 2 = .ok (.invokevirtual 107, 3) := by decide +kernel
theorem dX4_canLeave_5 : decode cX4_canLeave 5 = .ok (.ifCond .eq 34, 3) := by decide +kernel
theorem dX4_canLeave_8 : decode cX4_canLeave 8 = .ok (.aload_n 0, 1) := by decide +kernel
theorem dX4_canLeave_9 : decode cX4_canLeave 9 = .ok (.aload_n 0, 1) := by decide +kernel
theorem dX4_canLeave_10 : decode cX4_canLeave 10 = .ok (.getfield 38, 3) := by decide +kernel
theorem dX4_canLeave_13 : decode cX4_canLeave 13 = .ok (.iload_n 1, 1) := by decide +kernel
theorem dX4_canLeave_14 : decode cX4_canLeave 14 = .ok (.iaload, 1) := by decide +kernel
theorem dX4_canLeave_15 : decode cX4_canLeave 15 = .ok (.ifCond .ne 20, 3) := by decide +kernel
theorem dX4_canLeave_18 : decode cX4_canLeave 18 = .ok (.aload_n 0, 1) := by decide +kernel
theorem dX4_canLeave_19 : decode cX4_canLeave 19 = .ok (.getfield 92, 3) := by decide +kernel
theorem dX4_canLeave_22 : decode cX4_canLeave 22 = .ok (.aload_n 0, 1) := by decide +kernel
theorem dX4_canLeave_23 : decode cX4_canLeave 23 = .ok (.getfield 25, 3) := by decide +kernel
theorem dX4_canLeave_26 : decode cX4_canLeave 26 = .ok (.iload_n 1, 1) := by decide +kernel
theorem dX4_canLeave_27 : decode cX4_canLeave 27 = .ok (.iaload, 1) := by decide +kernel
theorem dX4_canLeave_28 : decode cX4_canLeave 28 = .ok (.if_icmp .le 7, 3) := by decide +kernel
theorem dX4_canLeave_31 : decode cX4_canLeave 31 = .ok (.iconst 0, 1) := by decide +kernel
theorem dX4_canLeave_32 : decode cX4_canLeave 32 = .ok (.goto 4, 3) := by decide +kernel
theorem dX4_canLeave_35 : decode cX4_canLeave 35 = .ok (.iconst 2, 1) := by decide +kernel
theorem dX4_canLeave_36 : decode cX4_canLeave 36 = .ok (.putfield 60, 3) := by decide +kernel
theorem dX4_canLeave_39 : decode cX4_canLeave 39 = .ok (.aload_n 0, 1) := by decide +kernel
theorem dX4_canLeave_40 : decode cX4_canLeave 40 = .ok (.getfield 60, 3) := by decide +kernel
theorem dX4_canLeave_43 : decode cX4_canLeave 43 = .ok (.ifCond .ne 7, 3) := by decide +kernel
theorem dX4_canLeave_46 : decode cX4_canLeave 46 = .ok (.iconst 1, 1) := by decide +kernel
theorem dX4_canLeave_47 : decode cX4_canLeave 47 = .ok (.goto 4, 3) := by decide +kernel
theorem dX4_canLeave_50 : decode cX4_canLeave 50 = .ok (.iconst 0, 1) := by decide +kernel
theorem dX4_canLeave_51 : decode cX4_canLeave 51 = .ok (.ireturn, 1) := by decide +kernel
theorem dX4_surrender_0 : decode cX4_surrender 0 = .ok (.aload_n 0, 1) := by decide +kernel
theorem dX4_surrender_1 : decode cX4_surrender 1 = .ok (.iload_n 1, 1) := by decide +kernel
theorem dX4_surrender_2 : decode cX4_surrender 2 = .ok (.invokevirtual 111, 3) := by decide +kernel
theorem dX4_surrender_5 : decode cX4_surrender 5 = .ok (.ifCond .ne 5, 3) := by decide +kernel
theorem dX4_surrender_8 : decode cX4_surrender 8 = .ok (.iconst 0, 1) := by decide +kernel
theorem dX4_surrender_9 : decode cX4_surrender 9 = .ok (.ireturn, 1) := by decide +kernel
theorem dX4_surrender_10 : decode cX4_surrender 10 = .ok (.aload_n 0, 1) := by decide +kernel
theorem dX4_surrender_11 : decode cX4_surrender 11 = .ok (.iload_n 1, 1) := by decide +kernel
theorem dX4_surrender_12 : decode cX4_surrender 12 = .ok (.invokevirtual 114, 3) := by decide +kernel
theorem dX4_surrender_15 : decode cX4_surrender 15 = .ok (.l2i, 1) := by decide +kernel
theorem dX4_surrender_16 : decode cX4_surrender 16 = .ok (.istore_n 2, 1) := by decide +kernel
theorem dX4_surrender_17 : decode cX4_surrender 17 = .ok (.aload_n 0, 1) := by decide +kernel
theorem dX4_surrender_18 : decode cX4_surrender 18 = .ok (.iload_n 1, 1) := by decide +kernel
theorem dX4_surrender_19 : decode cX4_surrender 19 = .ok (.iconst 2, 1) := by decide +kernel
theorem dX4_surrender_20 : decode cX4_surrender 20 = .ok (.aload_n 0, 1) := by decide +kernel
theorem dX4_surrender_21 : decode cX4_surrender 21 = .ok (.iload_n 1, 1) := by decide +kernel
theorem dX4_surrender_22 : decode cX4_surrender 22 = .ok (.invokevirtual 95, 3) := by decide +kernel
theorem dX4_surrender_25 : decode cX4_surrender 25 = .ok (.iload_n 2, 1) := by decide +kernel
theorem dX4_surrender_26 : decode cX4_surrender 26 = .ok (.invokevirtual 117, 3) := by decide +kernel
theorem dX4_surrender_29 : decode cX4_surrender 29 = .ok (.iload_n 2, 1) := by decide +kernel
theorem dX4_surrender_30 : decode cX4_surrender 30 = .ok (.ireturn, 1) := by decide +kernel
theorem dX4_setRates_0 : decode cX4_setRates 0 = .ok (.aload_n 0, 1) := by decide +kernel
theorem dX4_setRates_1 : decode cX4_setRates 1 = .ok (.iload_n 1, 1) := by decide +kernel
theorem dX4_setRates_2 : decode cX4_setRates 2 = .ok (.iconst 0, 1) := by decide +kernel
theorem dX4_setRates_3 : decode cX4_setRates 3 = .ok (.sipush 200, 3) := by decide +kernel
theorem dX4_setRates_6 : decode cX4_setRates 6 = .ok (.invokestatic 66, 3) := by decide +kernel
theorem dX4_setRates_9 : decode cX4_setRates 9 = .ok (.ifCond .eq 17, 3) := by decide +kernel
theorem dX4_setRates_12 : decode cX4_setRates 12 = .ok (.iload_n 2, 1) := by decide +kernel
theorem dX4_setRates_13 : decode cX4_setRates 13 = .ok (.iconst 0, 1) := by decide +kernel
theorem dX4_setRates_14 : decode cX4_setRates 14 = .ok (.bipush 100, 2) := by decide +kernel
theorem dX4_setRates_16 : decode cX4_setRates 16 = .ok (.invokestatic 66, 3) := by decide +kernel
theorem dX4_setRates_19 : decode cX4_setRates 19 = .ok (.ifCond .eq 7, 3) := by decide +kernel
theorem dX4_setRates_22 : decode cX4_setRates 22 = .ok (.iconst 0, 1) := by decide +kernel
theorem dX4_setRates_23 : decode cX4_setRates 23 = .ok (.goto 4, 3) := by decide +kernel
theorem dX4_setRates_26 : decode cX4_setRates 26 = .ok (.iconst 1, 1) := by decide +kernel
theorem dX4_setRates_27 : decode cX4_setRates 27 = .ok (.putfield 60, 3) := by decide +kernel
theorem dX4_setRates_30 : decode cX4_setRates 30 = .ok (.aload_n 0, 1) := by decide +kernel
theorem dX4_setRates_31 : decode cX4_setRates 31 = .ok (.getfield 60, 3) := by decide +kernel
theorem dX4_setRates_34 : decode cX4_setRates 34 = .ok (.ifCond .le 5, 3) := by decide +kernel
theorem dX4_setRates_37 : decode cX4_setRates 37 = .ok (.iconst 0, 1) := by decide +kernel
theorem dX4_setRates_38 : decode cX4_setRates 38 = .ok (.ireturn, 1) := by decide +kernel
theorem dX4_setRates_39 : decode cX4_setRates 39 = .ok (.aload_n 0, 1) := by decide +kernel
theorem dX4_setRates_40 : decode cX4_setRates 40 = .ok (.getfield 7, 3) := by decide +kernel
theorem dX4_setRates_43 : decode cX4_setRates 43 = .ok (.istore_n 3, 1) := by decide +kernel
theorem dX4_setRates_44 : decode cX4_setRates 44 = .ok (.aload_n 0, 1) := by decide +kernel
theorem dX4_setRates_45 : decode cX4_setRates 45 = .ok (.iload_n 1, 1) := by decide +kernel
theorem dX4_setRates_46 : decode cX4_setRates 46 = .ok (.putfield 7, 3) := by decide +kernel
theorem dX4_setRates_49 : decode cX4_setRates 49 = .ok (.aload_n 0, 1) := by decide +kernel
theorem dX4_setRates_50 : decode cX4_setRates 50 = .ok (.iload_n 2, 1) := by decide +kernel
theorem dX4_setRates_51 : decode cX4_setRates 51 = .ok (.putfield 13, 3) := by decide +kernel
theorem dX4_setRates_54 : decode cX4_setRates 54 = .ok (.iload_n 3, 1) := by decide +kernel
theorem dX4_setRates_55 : decode cX4_setRates 55 = .ok (.ireturn, 1) := by decide +kernel
theorem dX4_setScale_0 : decode cX4_setScale 0 = .ok (.aload_n 0, 1) := by decide +kernel
theorem dX4_setScale_1 : decode cX4_setScale 1 = .ok (.iload_n 1, 1) := by decide +kernel
theorem dX4_setScale_2 : decode cX4_setScale 2 = .ok (.sipush 500, 3) := by decide +kernel
theorem dX4_setScale_5 : decode cX4_setScale 5 = .ok (.sipush 1500, 3) := by decide +kernel
theorem dX4_setScale_8 : decode cX4_setScale 8 = .ok (.invokestatic 66, 3) := by decide +kernel
theorem dX4_setScale_11 : decode cX4_setScale 11 = .ok (.ifCond .eq 29, 3) := by decide +kernel
theorem dX4_setScale_14 : decode cX4_setScale 14 = .ok (.iload_n 2, 1) := by decide +kernel
theorem dX4_setScale_15 : decode cX4_setScale 15 = .ok (.iconst 0, 1) := by decide +kernel
theorem dX4_setScale_16 : decode cX4_setScale 16 = .ok (.sipush 1000, 3) := by decide +kernel
theorem dX4_setScale_19 : decode cX4_setScale 19 = .ok (.invokestatic 66, 3) := by decide +kernel
theorem dX4_setScale_22 : decode cX4_setScale 22 = .ok (.ifCond .eq 18, 3) := by decide +kernel
theorem dX4_setScale_25 : decode cX4_setScale 25 = .ok (.iload_n 3, 1) := by decide +kernel
theorem dX4_setScale_26 : decode cX4_setScale 26 = .ok (.iconst 0, 1) := by decide +kernel
theorem dX4_setScale_27 : decode cX4_setScale 27 = .ok (.sipush 1000, 3) := by decide +kernel
theorem dX4_setScale_30 : decode cX4_setScale 30 = .ok (.invokestatic 66, 3) := by decide +kernel
theorem dX4_setScale_33 : decode cX4_setScale 33 = .ok (.ifCond .eq 7, 3) := by decide +kernel
theorem dX4_setScale_36 : decode cX4_setScale 36 = .ok (.iconst 0, 1) := by decide +kernel
theorem dX4_setScale_37 : decode cX4_setScale 37 = .ok (.goto 4, 3) := by decide +kernel
theorem dX4_setScale_40 : decode cX4_setScale 40 = .ok (.iconst 1, 1) := by decide +kernel
theorem dX4_setScale_41 : decode cX4_setScale 41 = .ok (.putfield 60, 3) := by decide +kernel
theorem dX4_setScale_44 : decode cX4_setScale 44 = .ok (.aload_n 0, 1) := by decide +kernel
theorem dX4_setScale_45 : decode cX4_setScale 45 = .ok (.getfield 60, 3) := by decide +kernel
theorem dX4_setScale_48 : decode cX4_setScale 48 = .ok (.ifCond .le 5, 3) := by decide +kernel
theorem dX4_setScale_51 : decode cX4_setScale 51 = .ok (.iconst 0, 1) := by decide +kernel
theorem dX4_setScale_52 : decode cX4_setScale 52 = .ok (.ireturn, 1) := by decide +kernel
theorem dX4_setScale_53 : decode cX4_setScale 53 = .ok (.aload_n 0, 1) := by decide +kernel
theorem dX4_setScale_54 : decode cX4_setScale 54 = .ok (.getfield 16, 3) := by decide +kernel
theorem dX4_setScale_57 : decode cX4_setScale 57 = .ok (.istore 4, 2) := by decide +kernel
theorem dX4_setScale_59 : decode cX4_setScale 59 = .ok (.aload_n 0, 1) := by decide +kernel
theorem dX4_setScale_60 : decode cX4_setScale 60 = .ok (.iload_n 1, 1) := by decide +kernel
theorem dX4_setScale_61 : decode cX4_setScale 61 = .ok (.putfield 16, 3) := by decide +kernel
theorem dX4_setScale_64 : decode cX4_setScale 64 = .ok (.aload_n 0, 1) := by decide +kernel
theorem dX4_setScale_65 : decode cX4_setScale 65 = .ok (.iload_n 2, 1) := by decide +kernel
theorem dX4_setScale_66 : decode cX4_setScale 66 = .ok (.putfield 19, 3) := by decide +kernel
theorem dX4_setScale_69 : decode cX4_setScale 69 = .ok (.aload_n 0, 1) := by decide +kernel
theorem dX4_setScale_70 : decode cX4_setScale 70 = .ok (.iload_n 3, 1) := by decide +kernel
theorem dX4_setScale_71 : decode cX4_setScale 71 = .ok (.putfield 22, 3) := by decide +kernel
theorem dX4_setScale_74 : decode cX4_setScale 74 = .ok (.iload 4, 2) := by decide +kernel
theorem dX4_setScale_76 : decode cX4_setScale 76 = .ok (.ireturn, 1) := by decide +kernel
theorem dX4_endow_0 : decode cX4_endow 0 = .ok (.aload_n 0, 1) := by decide +kernel
theorem dX4_endow_1 : decode cX4_endow 1 = .ok (.iload_n 1, 1) := by decide +kernel
theorem dX4_endow_2 : decode cX4_endow 2 = .ok (.ldc 121, 2) := by decide +kernel
theorem dX4_endow_4 : decode cX4_endow 4 = .ok (.ldc 122, 2) := by decide +kernel
theorem dX4_endow_6 : decode cX4_endow 6 = .ok (.invokestatic 66, 3) := by decide +kernel
theorem dX4_endow_9 : decode cX4_endow 9 = .ok (.ifCond .eq 7, 3) := by decide +kernel
theorem dX4_endow_12 : decode cX4_endow 12 = .ok (.iconst 0, 1) := by decide +kernel
theorem dX4_endow_13 : decode cX4_endow 13 = .ok (.goto 4, 3) := by decide +kernel
theorem dX4_endow_16 : decode cX4_endow 16 = .ok (.iconst 1, 1) := by decide +kernel
theorem dX4_endow_17 : decode cX4_endow 17 = .ok (.putfield 60, 3) := by decide +kernel
theorem dX4_endow_20 : decode cX4_endow 20 = .ok (.aload_n 0, 1) := by decide +kernel
theorem dX4_endow_21 : decode cX4_endow 21 = .ok (.getfield 60, 3) := by decide +kernel
theorem dX4_endow_24 : decode cX4_endow 24 = .ok (.ifCond .le 5, 3) := by decide +kernel
theorem dX4_endow_27 : decode cX4_endow 27 = .ok (.lconst 0, 1) := by decide +kernel
theorem dX4_endow_28 : decode cX4_endow 28 = .ok (.lreturn, 1) := by decide +kernel
theorem dX4_endow_29 : decode cX4_endow 29 = .ok (.aload_n 0, 1) := by decide +kernel
theorem dX4_endow_30 : decode cX4_endow 30 = .ok (.dup, 1) := by decide +kernel
theorem dX4_endow_31 : decode cX4_endow 31 = .ok (.getfield 84, 3) := by decide +kernel
theorem dX4_endow_34 : decode cX4_endow 34 = .ok (.iload_n 1, 1) := by decide +kernel
theorem dX4_endow_35 : decode cX4_endow 35 = .ok (.i2l, 1) := by decide +kernel
theorem dX4_endow_36 : decode cX4_endow 36 = .ok (.ladd, 1) := by decide +kernel
theorem dX4_endow_37 : decode cX4_endow 37 = .ok (.putfield 84, 3) := by decide +kernel
theorem dX4_endow_40 : decode cX4_endow 40 = .ok (.aload_n 0, 1) := by decide +kernel
theorem dX4_endow_41 : decode cX4_endow 41 = .ok (.dup, 1) := by decide +kernel
theorem dX4_endow_42 : decode cX4_endow 42 = .ok (.getfield 88, 3) := by decide +kernel
theorem dX4_endow_45 : decode cX4_endow 45 = .ok (.iload_n 1, 1) := by decide +kernel
theorem dX4_endow_46 : decode cX4_endow 46 = .ok (.i2l, 1) := by decide +kernel
theorem dX4_endow_47 : decode cX4_endow 47 = .ok (.ladd, 1) := by decide +kernel
theorem dX4_endow_48 : decode cX4_endow 48 = .ok (.putfield 88, 3) := by decide +kernel
theorem dX4_endow_51 : decode cX4_endow 51 = .ok (.aload_n 0, 1) := by decide +kernel
theorem dX4_endow_52 : decode cX4_endow 52 = .ok (.getfield 84, 3) := by decide +kernel
theorem dX4_endow_55 : decode cX4_endow 55 = .ok (.lreturn, 1) := by decide +kernel
theorem dX4_grows_0 : decode cX4_grows 0 = .ok (.aload_n 0, 1) := by decide +kernel
theorem dX4_grows_1 : decode cX4_grows 1 = .ok (.getfield 84, 3) := by decide +kernel
theorem dX4_grows_4 : decode cX4_grows 4 = .ok (.lstore_n 2, 1) := by decide +kernel
theorem dX4_grows_5 : decode cX4_grows 5 = .ok (.iconst 0, 1) := by decide +kernel
theorem dX4_grows_6 : decode cX4_grows 6 = .ok (.istore 4, 2) := by decide +kernel
theorem dX4_grows_8 : decode cX4_grows 8 = .ok (.iload 4, 2) := by decide +kernel
theorem dX4_grows_10 : decode cX4_grows 10 = .ok (.aload_n 0, 1) := by decide +kernel
theorem dX4_grows_11 : decode cX4_grows 11 = .ok (.getfield 63, 3) := by decide +kernel
theorem dX4_grows_14 : decode cX4_grows 14 = .ok (.if_icmp .ge 133, 3) := by decide +kernel
theorem dX4_grows_17 : decode cX4_grows 17 = .ok (.aload_n 0, 1) := by decide +kernel
theorem dX4_grows_18 : decode cX4_grows 18 = .ok (.aload_n 0, 1) := by decide +kernel
theorem dX4_grows_19 : decode cX4_grows 19 = .ok (.getfield 25, 3) := by decide +kernel
theorem dX4_grows_22 : decode cX4_grows 22 = .ok (.iload 4, 2) := by decide +kernel
theorem dX4_grows_24 : decode cX4_grows 24 = .ok (.iaload, 1) := by decide +kernel
theorem dX4_grows_25 : decode cX4_grows 25 = .ok (.aload_n 0, 1) := by decide +kernel
theorem dX4_grows_26 : decode cX4_grows 26 = .ok (.getfield 29, 3) := by decide +kernel
theorem dX4_grows_29 : decode cX4_grows 29 = .ok (.iload 4, 2) := by decide +kernel
theorem dX4_grows_31 : decode cX4_grows 31 = .ok (.iaload, 1) := by decide +kernel
theorem dX4_grows_32 : decode cX4_grows 32 = .ok (.invokevirtual 80, 3) := by decide +kernel
theorem dX4_grows_35 : decode cX4_grows 35 = .ok (.lstore 5, 2) := by decide +kernel
theorem dX4_grows_37 : decode cX4_grows 37 = .ok (.aload_n 0, 1) := by decide +kernel
theorem dX4_grows_38 : decode cX4_grows 38 = .ok (.iload 4, 2) := by decide +kernel
theorem dX4_grows_40 : decode cX4_grows 40 = .ok (.invokevirtual 76, 3) := by decide +kernel
theorem dX4_grows_43 : decode cX4_grows 43 = .ok (.iload 4, 2) := by decide +kernel
theorem dX4_grows_45 : decode cX4_grows 45 = .ok (.if_icmp .ne 96, 3) := by decide +kernel
theorem dX4_grows_48 : decode cX4_grows 48 = .ok (.lload 5, 2) := by decide +kernel
theorem dX4_grows_50 : decode cX4_grows 50 = .ok (.lconst 0, 1) := by decide +kernel
theorem dX4_grows_51 : decode cX4_grows 51 = .ok (.lcmp, 1) := by decide +kernel
theorem dX4_grows_52 : decode cX4_grows 52 = .ok (.ifCond .le 89, 3) := by decide +kernel
theorem dX4_grows_55 : decode cX4_grows 55 = .ok (.aload_n 0, 1) := by decide +kernel
theorem dX4_grows_56 : decode cX4_grows 56 = .ok (.getfield 51, 3) := by decide +kernel
theorem dX4_grows_59 : decode cX4_grows 59 = .ok (.iload 4, 2) := by decide +kernel
theorem dX4_grows_61 : decode cX4_grows 61 = .ok (.laload, 1) := by decide +kernel
theorem dX4_grows_62 : decode cX4_grows 62 = .ok (.lload 5, 2) := by decide +kernel
theorem dX4_grows_64 : decode cX4_grows 64 = .ok (.ladd, 1) := by decide +kernel
theorem dX4_grows_65 : decode cX4_grows 65 = .ok (.iload_n 1, 1) := by decide +kernel
theorem dX4_grows_66 : decode cX4_grows 66 = .ok (.i2l, 1) := by decide +kernel
theorem dX4_grows_67 : decode cX4_grows 67 = .ok (.invokestatic 103, 3) := by decide +kernel
theorem dX4_grows_70 : decode cX4_grows 70 = .ok (.lstore 7, 2) := by decide +kernel
theorem dX4_grows_72 : decode cX4_grows 72 = .ok (.aload_n 0, 1) := by decide +kernel
theorem dX4_grows_73 : decode cX4_grows 73 = .ok (.getfield 51, 3) := by decide +kernel
theorem dX4_grows_76 : decode cX4_grows 76 = .ok (.iload 4, 2) := by decide +kernel
theorem dX4_grows_78 : decode cX4_grows 78 = .ok (.dup2, 1) := by decide +kernel
theorem dX4_grows_79 : decode cX4_grows 79 = .ok (.laload, 1) := by decide +kernel
theorem dX4_grows_80 : decode cX4_grows 80 = .ok (.lload 5, 2) := by decide +kernel
theorem dX4_grows_82 : decode cX4_grows 82 = .ok (.lload 7, 2) := by decide +kernel
theorem dX4_grows_84 : decode cX4_grows 84 = .ok (.ladd, 1) := by decide +kernel
theorem dX4_grows_85 : decode cX4_grows 85 = .ok (.ladd, 1) := by decide +kernel
theorem dX4_grows_86 : decode cX4_grows 86 = .ok (.lastore, 1) := by decide +kernel
theorem dX4_grows_87 : decode cX4_grows 87 = .ok (.aload_n 0, 1) := by decide +kernel
theorem dX4_grows_88 : decode cX4_grows 88 = .ok (.dup, 1) := by decide +kernel
theorem dX4_grows_89 : decode cX4_grows 89 = .ok (.getfield 88, 3) := by decide +kernel
theorem dX4_grows_92 : decode cX4_grows 92 = .ok (.lload 5, 2) := by decide +kernel
theorem dX4_grows_94 : decode cX4_grows 94 = .ok (.lload 7, 2) := by decide +kernel
theorem dX4_grows_96 : decode cX4_grows 96 = .ok (.ladd, 1) := by decide +kernel
theorem dX4_grows_97 : decode cX4_grows 97 = .ok (.ladd, 1) := by decide +kernel
theorem dX4_grows_98 : decode cX4_grows 98 = .ok (.putfield 88, 3) := by decide +kernel
theorem dX4_grows_101 : decode cX4_grows 101 = .ok (.aload_n 0, 1) := by decide +kernel
theorem dX4_grows_102 : decode cX4_grows 102 = .ok (.getfield 51, 3) := by decide +kernel
theorem dX4_grows_105 : decode cX4_grows 105 = .ok (.iload 4, 2) := by decide +kernel
theorem dX4_grows_107 : decode cX4_grows 107 = .ok (.laload, 1) := by decide +kernel
theorem dX4_grows_108 : decode cX4_grows 108 = .ok (.aload_n 0, 1) := by decide +kernel
theorem dX4_grows_109 : decode cX4_grows 109 = .ok (.getfield 13, 3) := by decide +kernel
theorem dX4_grows_112 : decode cX4_grows 112 = .ok (.i2l, 1) := by decide +kernel
theorem dX4_grows_113 : decode cX4_grows 113 = .ok (.invokestatic 103, 3) := by decide +kernel
theorem dX4_grows_116 : decode cX4_grows 116 = .ok (.lstore 9, 2) := by decide +kernel
theorem dX4_grows_118 : decode cX4_grows 118 = .ok (.aload_n 0, 1) := by decide +kernel
theorem dX4_grows_119 : decode cX4_grows 119 = .ok (.getfield 51, 3) := by decide +kernel
theorem dX4_grows_122 : decode cX4_grows 122 = .ok (.iload 4, 2) := by decide +kernel
theorem dX4_grows_124 : decode cX4_grows 124 = .ok (.dup2, 1) := by decide +kernel
theorem dX4_grows_125 : decode cX4_grows 125 = .ok (.laload, 1) := by decide +kernel
theorem dX4_grows_126 : decode cX4_grows 126 = .ok (.lload 9, 2) := by decide +kernel
theorem dX4_grows_128 : decode cX4_grows 128 = .ok (.lsub, 1) := by decide +kernel
theorem dX4_grows_129 : decode cX4_grows 129 = .ok (.lastore, 1) := by decide +kernel
theorem dX4_grows_130 : decode cX4_grows 130 = .ok (.aload_n 0, 1) := by decide +kernel
theorem dX4_grows_131 : decode cX4_grows 131 = .ok (.dup, 1) := by decide +kernel
theorem dX4_grows_132 : decode cX4_grows 132 = .ok (.getfield 84, 3) := by decide +kernel
theorem dX4_grows_135 : decode cX4_grows 135 = .ok (.lload 9, 2) := by decide +kernel
theorem dX4_grows_137 : decode cX4_grows 137 = .ok (.ladd, 1) := by decide +kernel
theorem dX4_grows_138 : decode cX4_grows 138 = .ok (.putfield 84, 3) := by decide +kernel
theorem dX4_grows_141 : decode cX4_grows 141 = .ok (.iinc 4 1, 3) := by decide +kernel
theorem dX4_grows_144 : decode cX4_grows 144 = .ok (.goto (-136), 3) := by decide +kernel
theorem dX4_grows_147 : decode cX4_grows 147 = .ok (.aload_n 0, 1) := by decide +kernel
theorem dX4_grows_148 : decode cX4_grows 148 = .ok (.dup, 1) := by decide +kernel
theorem dX4_grows_149 : decode cX4_grows 149 = .ok (.getfield 84, 3) := by decide +kernel
theorem dX4_grows_152 : decode cX4_grows 152 = .ok (.lload_n 2, 1) := by decide +kernel
theorem dX4_grows_153 : decode cX4_grows 153 = .ok (.iload_n 1, 1) := by decide +kernel
theorem dX4_grows_154 : decode cX4_grows 154 = .ok (.i2l, 1) := by decide +kernel
theorem dX4_grows_155 : decode cX4_grows 155 = .ok (.invokestatic 103, 3) := by decide +kernel
theorem dX4_grows_158 : decode cX4_grows 158 = .ok (.ladd, 1) := by decide +kernel
theorem dX4_grows_159 : decode cX4_grows 159 = .ok (.putfield 84, 3) := by decide +kernel
theorem dX4_grows_162 : decode cX4_grows 162 = .ok (.aload_n 0, 1) := by decide +kernel
theorem dX4_grows_163 : decode cX4_grows 163 = .ok (.dup, 1) := by decide +kernel
theorem dX4_grows_164 : decode cX4_grows 164 = .ok (.getfield 88, 3) := by decide +kernel
theorem dX4_grows_167 : decode cX4_grows 167 = .ok (.lload_n 2, 1) := by decide +kernel
theorem dX4_grows_168 : decode cX4_grows 168 = .ok (.iload_n 1, 1) := by decide +kernel
theorem dX4_grows_169 : decode cX4_grows 169 = .ok (.i2l, 1) := by decide +kernel
theorem dX4_grows_170 : decode cX4_grows 170 = .ok (.invokestatic 103, 3) := by decide +kernel
theorem dX4_grows_173 : decode cX4_grows 173 = .ok (.ladd, 1) := by decide +kernel
theorem dX4_grows_174 : decode cX4_grows 174 = .ok (.putfield 88, 3) := by decide +kernel
theorem dX4_grows_177 : decode cX4_grows 177 = .ok (.return_, 1) := by decide +kernel
theorem dX4_grants_0 : decode cX4_grants 0 = .ok (.iconst 0, 1) := by decide +kernel
theorem dX4_grants_1 : decode cX4_grants 1 = .ok (.istore_n 2, 1) := by decide +kernel
theorem dX4_grants_2 : decode cX4_grants 2 = .ok (.iload_n 2, 1) := by decide +kernel
theorem dX4_grants_3 : decode cX4_grants 3 = .ok (.aload_n 0, 1) := by decide +kernel
theorem dX4_grants_4 : decode cX4_grants 4 = .ok (.getfield 63, 3) := by decide +kernel
theorem dX4_grants_7 : decode cX4_grants 7 = .ok (.if_icmp .ge 91, 3) := by decide +kernel
theorem dX4_grants_10 : decode cX4_grants 10 = .ok (.aload_n 0, 1) := by decide +kernel
theorem dX4_grants_11 : decode cX4_grants 11 = .ok (.getfield 38, 3) := by decide +kernel
theorem dX4_grants_14 : decode cX4_grants 14 = .ok (.iload_n 2, 1) := by decide +kernel
theorem dX4_grants_15 : decode cX4_grants 15 = .ok (.iaload, 1) := by decide +kernel
theorem dX4_grants_16 : decode cX4_grants 16 = .ok (.ifCond .ne 76, 3) := by decide +kernel
theorem dX4_grants_19 : decode cX4_grants 19 = .ok (.aload_n 0, 1) := by decide +kernel
theorem dX4_grants_20 : decode cX4_grants 20 = .ok (.getfield 47, 3) := by decide +kernel
theorem dX4_grants_23 : decode cX4_grants 23 = .ok (.iload_n 2, 1) := by decide +kernel
theorem dX4_grants_24 : decode cX4_grants 24 = .ok (.laload, 1) := by decide +kernel
theorem dX4_grants_25 : decode cX4_grants 25 = .ok (.aload_n 0, 1) := by decide +kernel
theorem dX4_grants_26 : decode cX4_grants 26 = .ok (.getfield 32, 3) := by decide +kernel
theorem dX4_grants_29 : decode cX4_grants 29 = .ok (.iload_n 2, 1) := by decide +kernel
theorem dX4_grants_30 : decode cX4_grants 30 = .ok (.iaload, 1) := by decide +kernel
theorem dX4_grants_31 : decode cX4_grants 31 = .ok (.i2l, 1) := by decide +kernel
theorem dX4_grants_32 : decode cX4_grants 32 = .ok (.ladd, 1) := by decide +kernel
theorem dX4_grants_33 : decode cX4_grants 33 = .ok (.lstore_n 3, 1) := by decide +kernel
theorem dX4_grants_34 : decode cX4_grants 34 = .ok (.lload_n 3, 1) := by decide +kernel
theorem dX4_grants_35 : decode cX4_grants 35 = .ok (.lload_n 3, 1) := by decide +kernel
theorem dX4_grants_36 : decode cX4_grants 36 = .ok (.iload_n 1, 1) := by decide +kernel
theorem dX4_grants_37 : decode cX4_grants 37 = .ok (.i2l, 1) := by decide +kernel
theorem dX4_grants_38 : decode cX4_grants 38 = .ok (.invokestatic 103, 3) := by decide +kernel
theorem dX4_grants_41 : decode cX4_grants 41 = .ok (.ladd, 1) := by decide +kernel
theorem dX4_grants_42 : decode cX4_grants 42 = .ok (.lstore_n 3, 1) := by decide +kernel
theorem dX4_grants_43 : decode cX4_grants 43 = .ok (.aload_n 0, 1) := by decide +kernel
theorem dX4_grants_44 : decode cX4_grants 44 = .ok (.getfield 47, 3) := by decide +kernel
theorem dX4_grants_47 : decode cX4_grants 47 = .ok (.iload_n 2, 1) := by decide +kernel
theorem dX4_grants_48 : decode cX4_grants 48 = .ok (.lload_n 3, 1) := by decide +kernel
theorem dX4_grants_49 : decode cX4_grants 49 = .ok (.lload_n 3, 1) := by decide +kernel
theorem dX4_grants_50 : decode cX4_grants 50 = .ok (.aload_n 0, 1) := by decide +kernel
theorem dX4_grants_51 : decode cX4_grants 51 = .ok (.getfield 13, 3) := by decide +kernel
theorem dX4_grants_54 : decode cX4_grants 54 = .ok (.i2l, 1) := by decide +kernel
theorem dX4_grants_55 : decode cX4_grants 55 = .ok (.invokestatic 103, 3) := by decide +kernel
theorem dX4_grants_58 : decode cX4_grants 58 = .ok (.lsub, 1) := by decide +kernel
theorem dX4_grants_59 : decode cX4_grants 59 = .ok (.lastore, 1) := by decide +kernel
theorem dX4_grants_60 : decode cX4_grants 60 = .ok (.aload_n 0, 1) := by decide +kernel
theorem dX4_grants_61 : decode cX4_grants 61 = .ok (.getfield 41, 3) := by decide +kernel
theorem dX4_grants_64 : decode cX4_grants 64 = .ok (.iload_n 2, 1) := by decide +kernel
theorem dX4_grants_65 : decode cX4_grants 65 = .ok (.dup2, 1) := by decide +kernel
theorem dX4_grants_66 : decode cX4_grants 66 = .ok (.iaload, 1) := by decide +kernel
theorem dX4_grants_67 : decode cX4_grants 67 = .ok (.aload_n 0, 1) := by decide +kernel
theorem dX4_grants_68 : decode cX4_grants 68 = .ok (.getfield 35, 3) := by decide +kernel
theorem dX4_grants_71 : decode cX4_grants 71 = .ok (.iload_n 2, 1) := by decide +kernel
theorem dX4_grants_72 : decode cX4_grants 72 = .ok (.iaload, 1) := by decide +kernel
theorem dX4_grants_73 : decode cX4_grants 73 = .ok (.aload_n 0, 1) := by decide +kernel
theorem dX4_grants_74 : decode cX4_grants 74 = .ok (.getfield 41, 3) := by decide +kernel
theorem dX4_grants_77 : decode cX4_grants 77 = .ok (.iload_n 2, 1) := by decide +kernel
theorem dX4_grants_78 : decode cX4_grants 78 = .ok (.iaload, 1) := by decide +kernel
theorem dX4_grants_79 : decode cX4_grants 79 = .ok (.iadd, 1) := by decide +kernel
theorem dX4_grants_80 : decode cX4_grants 80 = .ok (.i2l, 1) := by decide +kernel
theorem dX4_grants_81 : decode cX4_grants 81 = .ok (.aload_n 0, 1) := by decide +kernel
theorem dX4_grants_82 : decode cX4_grants 82 = .ok (.getfield 7, 3) := by decide +kernel
theorem dX4_grants_85 : decode cX4_grants 85 = .ok (.i2l, 1) := by decide +kernel
theorem dX4_grants_86 : decode cX4_grants 86 = .ok (.invokestatic 103, 3) := by decide +kernel
theorem dX4_grants_89 : decode cX4_grants 89 = .ok (.l2i, 1) := by decide +kernel
theorem dX4_grants_90 : decode cX4_grants 90 = .ok (.iadd, 1) := by decide +kernel
theorem dX4_grants_91 : decode cX4_grants 91 = .ok (.iastore, 1) := by decide +kernel
theorem dX4_grants_92 : decode cX4_grants 92 = .ok (.iinc 2 1, 3) := by decide +kernel
theorem dX4_grants_95 : decode cX4_grants 95 = .ok (.goto (-93), 3) := by decide +kernel
theorem dX4_grants_98 : decode cX4_grants 98 = .ok (.return_, 1) := by decide +kernel
theorem dX4_matures_0 : decode cX4_matures 0 = .ok (.aload_n 0, 1) := by decide +kernel
theorem dX4_matures_1 : decode cX4_matures 1 = .ok (.iload_n 1, 1) := by decide +kernel
theorem dX4_matures_2 : decode cX4_matures 2 = .ok (.invokevirtual 95, 3) := by decide +kernel
theorem dX4_matures_5 : decode cX4_matures 5 = .ok (.lstore_n 2, 1) := by decide +kernel
theorem dX4_matures_6 : decode cX4_matures 6 = .ok (.aload_n 0, 1) := by decide +kernel
theorem dX4_matures_7 : decode cX4_matures 7 = .ok (.getfield 29, 3) := by decide +kernel
theorem dX4_matures_10 : decode cX4_matures 10 = .ok (.iload_n 1, 1) := by decide +kernel
theorem dX4_matures_11 : decode cX4_matures 11 = .ok (.iaload, 1) := by decide +kernel
theorem dX4_matures_12 : decode cX4_matures 12 = .ok (.i2l, 1) := by decide +kernel
theorem dX4_matures_13 : decode cX4_matures 13 = .ok (.aload_n 0, 1) := by decide +kernel
theorem dX4_matures_14 : decode cX4_matures 14 = .ok (.getfield 32, 3) := by decide +kernel
theorem dX4_matures_17 : decode cX4_matures 17 = .ok (.iload_n 1, 1) := by decide +kernel
theorem dX4_matures_18 : decode cX4_matures 18 = .ok (.iaload, 1) := by decide +kernel
theorem dX4_matures_19 : decode cX4_matures 19 = .ok (.i2l, 1) := by decide +kernel
theorem dX4_matures_20 : decode cX4_matures 20 = .ok (.lmul, 1) := by decide +kernel
theorem dX4_matures_21 : decode cX4_matures 21 = .ok (.lstore 4, 2) := by decide +kernel
theorem dX4_matures_23 : decode cX4_matures 23 = .ok (.lload_n 2, 1) := by decide +kernel
theorem dX4_matures_24 : decode cX4_matures 24 = .ok (.aload_n 0, 1) := by decide +kernel
theorem dX4_matures_25 : decode cX4_matures 25 = .ok (.getfield 16, 3) := by decide +kernel
theorem dX4_matures_28 : decode cX4_matures 28 = .ok (.i2l, 1) := by decide +kernel
theorem dX4_matures_29 : decode cX4_matures 29 = .ok (.invokestatic 103, 3) := by decide +kernel
theorem dX4_matures_32 : decode cX4_matures 32 = .ok (.ldc2_w 70, 3) := by decide +kernel
theorem dX4_matures_35 : decode cX4_matures 35 = .ok (.lmul, 1) := by decide +kernel
theorem dX4_matures_36 : decode cX4_matures 36 = .ok (.lload 4, 2) := by decide +kernel
theorem dX4_matures_38 : decode cX4_matures 38 = .ok (.ldiv, 1) := by decide +kernel
theorem dX4_matures_39 : decode cX4_matures 39 = .ok (.lstore 6, 2) := by decide +kernel
theorem dX4_matures_41 : decode cX4_matures 41 = .ok (.aload_n 0, 1) := by decide +kernel
theorem dX4_matures_42 : decode cX4_matures 42 = .ok (.getfield 29, 3) := by decide +kernel
theorem dX4_matures_45 : decode cX4_matures 45 = .ok (.iload_n 1, 1) := by decide +kernel
theorem dX4_matures_46 : decode cX4_matures 46 = .ok (.iaload, 1) := by decide +kernel
theorem dX4_matures_47 : decode cX4_matures 47 = .ok (.istore 8, 2) := by decide +kernel
theorem dX4_matures_49 : decode cX4_matures 49 = .ok (.aload_n 0, 1) := by decide +kernel
theorem dX4_matures_50 : decode cX4_matures 50 = .ok (.getfield 54, 3) := by decide +kernel
theorem dX4_matures_53 : decode cX4_matures 53 = .ok (.iload 8, 2) := by decide +kernel
theorem dX4_matures_55 : decode cX4_matures 55 = .ok (.iaload, 1) := by decide +kernel
theorem dX4_matures_56 : decode cX4_matures 56 = .ok (.ifCond .le 69, 3) := by decide +kernel
theorem dX4_matures_59 : decode cX4_matures 59 = .ok (.aload_n 0, 1) := by decide +kernel
theorem dX4_matures_60 : decode cX4_matures 60 = .ok (.getfield 54, 3) := by decide +kernel
theorem dX4_matures_63 : decode cX4_matures 63 = .ok (.iload 8, 2) := by decide +kernel
theorem dX4_matures_65 : decode cX4_matures 65 = .ok (.iaload, 1) := by decide +kernel
theorem dX4_matures_66 : decode cX4_matures 66 = .ok (.i2l, 1) := by decide +kernel
theorem dX4_matures_67 : decode cX4_matures 67 = .ok (.lconst 1, 1) := by decide +kernel
theorem dX4_matures_68 : decode cX4_matures 68 = .ok (.lsub, 1) := by decide +kernel
theorem dX4_matures_69 : decode cX4_matures 69 = .ok (.lstore 9, 2) := by decide +kernel
theorem dX4_matures_71 : decode cX4_matures 71 = .ok (.lload 9, 2) := by decide +kernel
theorem dX4_matures_73 : decode cX4_matures 73 = .ok (.aload_n 0, 1) := by decide +kernel
theorem dX4_matures_74 : decode cX4_matures 74 = .ok (.getfield 19, 3) := by decide +kernel
theorem dX4_matures_77 : decode cX4_matures 77 = .ok (.i2l, 1) := by decide +kernel
theorem dX4_matures_78 : decode cX4_matures 78 = .ok (.invokestatic 103, 3) := by decide +kernel
theorem dX4_matures_81 : decode cX4_matures 81 = .ok (.lstore 11, 2) := by decide +kernel
theorem dX4_matures_83 : decode cX4_matures 83 = .ok (.lload 6, 2) := by decide +kernel
theorem dX4_matures_85 : decode cX4_matures 85 = .ok (.lload 9, 2) := by decide +kernel
theorem dX4_matures_87 : decode cX4_matures 87 = .ok (.lload 11, 2) := by decide +kernel
theorem dX4_matures_89 : decode cX4_matures 89 = .ok (.lsub, 1) := by decide +kernel
theorem dX4_matures_90 : decode cX4_matures 90 = .ok (.lcmp, 1) := by decide +kernel
theorem dX4_matures_91 : decode cX4_matures 91 = .ok (.ifCond .ge 11, 3) := by decide +kernel
theorem dX4_matures_94 : decode cX4_matures 94 = .ok (.lload 9, 2) := by decide +kernel
theorem dX4_matures_96 : decode cX4_matures 96 = .ok (.lload 11, 2) := by decide +kernel
theorem dX4_matures_98 : decode cX4_matures 98 = .ok (.lsub, 1) := by decide +kernel
theorem dX4_matures_99 : decode cX4_matures 99 = .ok (.goto 24, 3) := by decide +kernel
theorem dX4_matures_102 : decode cX4_matures 102 = .ok (.lload 6, 2) := by decide +kernel
theorem dX4_matures_104 : decode cX4_matures 104 = .ok (.lload 9, 2) := by decide +kernel
theorem dX4_matures_106 : decode cX4_matures 106 = .ok (.lload 11, 2) := by decide +kernel
theorem dX4_matures_108 : decode cX4_matures 108 = .ok (.ladd, 1) := by decide +kernel
theorem dX4_matures_109 : decode cX4_matures 109 = .ok (.lcmp, 1) := by decide +kernel
theorem dX4_matures_110 : decode cX4_matures 110 = .ok (.ifCond .le 11, 3) := by decide +kernel
theorem dX4_matures_113 : decode cX4_matures 113 = .ok (.lload 9, 2) := by decide +kernel
theorem dX4_matures_115 : decode cX4_matures 115 = .ok (.lload 11, 2) := by decide +kernel
theorem dX4_matures_117 : decode cX4_matures 117 = .ok (.ladd, 1) := by decide +kernel
theorem dX4_matures_118 : decode cX4_matures 118 = .ok (.goto 5, 3) := by decide +kernel
theorem dX4_matures_121 : decode cX4_matures 121 = .ok (.lload 6, 2) := by decide +kernel
theorem dX4_matures_123 : decode cX4_matures 123 = .ok (.lstore 6, 2) := by decide +kernel
theorem dX4_matures_125 : decode cX4_matures 125 = .ok (.aload_n 0, 1) := by decide +kernel
theorem dX4_matures_126 : decode cX4_matures 126 = .ok (.getfield 57, 3) := by decide +kernel
theorem dX4_matures_129 : decode cX4_matures 129 = .ok (.iload 8, 2) := by decide +kernel
theorem dX4_matures_131 : decode cX4_matures 131 = .ok (.lload 6, 2) := by decide +kernel
theorem dX4_matures_133 : decode cX4_matures 133 = .ok (.l2i, 1) := by decide +kernel
theorem dX4_matures_134 : decode cX4_matures 134 = .ok (.iconst 1, 1) := by decide +kernel
theorem dX4_matures_135 : decode cX4_matures 135 = .ok (.iadd, 1) := by decide +kernel
theorem dX4_matures_136 : decode cX4_matures 136 = .ok (.iastore, 1) := by decide +kernel
theorem dX4_matures_137 : decode cX4_matures 137 = .ok (.lload 4, 2) := by decide +kernel
theorem dX4_matures_139 : decode cX4_matures 139 = .ok (.lload 6, 2) := by decide +kernel
theorem dX4_matures_141 : decode cX4_matures 141 = .ok (.invokestatic 103, 3) := by decide +kernel
theorem dX4_matures_144 : decode cX4_matures 144 = .ok (.lstore 9, 2) := by decide +kernel
theorem dX4_matures_146 : decode cX4_matures 146 = .ok (.aload_n 0, 1) := by decide +kernel
theorem dX4_matures_147 : decode cX4_matures 147 = .ok (.getfield 35, 3) := by decide +kernel
theorem dX4_matures_150 : decode cX4_matures 150 = .ok (.iload_n 1, 1) := by decide +kernel
theorem dX4_matures_151 : decode cX4_matures 151 = .ok (.iaload, 1) := by decide +kernel
theorem dX4_matures_152 : decode cX4_matures 152 = .ok (.i2l, 1) := by decide +kernel
theorem dX4_matures_153 : decode cX4_matures 153 = .ok (.aload_n 0, 1) := by decide +kernel
theorem dX4_matures_154 : decode cX4_matures 154 = .ok (.getfield 41, 3) := by decide +kernel
theorem dX4_matures_157 : decode cX4_matures 157 = .ok (.iload_n 1, 1) := by decide +kernel
theorem dX4_matures_158 : decode cX4_matures 158 = .ok (.iaload, 1) := by decide +kernel
theorem dX4_matures_159 : decode cX4_matures 159 = .ok (.i2l, 1) := by decide +kernel
theorem dX4_matures_160 : decode cX4_matures 160 = .ok (.ladd, 1) := by decide +kernel
theorem dX4_matures_161 : decode cX4_matures 161 = .ok (.lstore 11, 2) := by decide +kernel
theorem dX4_matures_163 : decode cX4_matures 163 = .ok (.aload_n 0, 1) := by decide +kernel
theorem dX4_matures_164 : decode cX4_matures 164 = .ok (.iload_n 1, 1) := by decide +kernel
theorem dX4_matures_165 : decode cX4_matures 165 = .ok (.iconst 1, 1) := by decide +kernel
theorem dX4_matures_166 : decode cX4_matures 166 = .ok (.lload_n 2, 1) := by decide +kernel
theorem dX4_matures_167 : decode cX4_matures 167 = .ok (.lload 9, 2) := by decide +kernel
theorem dX4_matures_169 : decode cX4_matures 169 = .ok (.lload 11, 2) := by decide +kernel
theorem dX4_matures_171 : decode cX4_matures 171 = .ok (.lcmp, 1) := by decide +kernel
theorem dX4_matures_172 : decode cX4_matures 172 = .ok (.ifCond .le 8, 3) := by decide +kernel
theorem dX4_matures_175 : decode cX4_matures 175 = .ok (.lload 9, 2) := by decide +kernel
theorem dX4_matures_177 : decode cX4_matures 177 = .ok (.goto 5, 3) := by decide +kernel
theorem dX4_matures_180 : decode cX4_matures 180 = .ok (.lload 11, 2) := by decide +kernel
theorem dX4_matures_182 : decode cX4_matures 182 = .ok (.l2i, 1) := by decide +kernel
theorem dX4_matures_183 : decode cX4_matures 183 = .ok (.invokevirtual 117, 3) := by decide +kernel
theorem dX4_matures_186 : decode cX4_matures 186 = .ok (.return_, 1) := by decide +kernel
theorem dX4_run_0 : decode cX4_run 0 = .ok (.aload_n 0, 1) := by decide +kernel
theorem dX4_run_1 : decode cX4_run 1 = .ok (.iload_n 1, 1) := by decide +kernel
theorem dX4_run_2 : decode cX4_run 2 = .ok (.sipush (-200), 3) := by decide +kernel
theorem dX4_run_5 : decode cX4_run 5 = .ok (.sipush 200, 3) := by decide +kernel
theorem dX4_run_8 : decode cX4_run 8 = .ok (.invokestatic 66, 3) := by decide +kernel
theorem dX4_run_11 : decode cX4_run 11 = .ok (.ifCond .ne 7, 3) := by decide +kernel
theorem dX4_run_14 : decode cX4_run 14 = .ok (.iconst 1, 1) := by decide +kernel
theorem dX4_run_15 : decode cX4_run 15 = .ok (.goto 17, 3) := by decide +kernel
theorem dX4_run_18 : decode cX4_run 18 = .ok (.aload_n 0, 1) := by decide +kernel
theorem dX4_run_19 : decode cX4_run 19 = .ok (.getfield 92, 3) := by decide +kernel
theorem dX4_run_22 : decode cX4_run 22 = .ok (.bipush 40, 2) := by decide +kernel
theorem dX4_run_24 : decode cX4_run 24 = .ok (.if_icmp .ne 7, 3) := by decide +kernel
theorem dX4_run_27 : decode cX4_run 27 = .ok (.iconst 2, 1) := by decide +kernel
theorem dX4_run_28 : decode cX4_run 28 = .ok (.goto 4, 3) := by decide +kernel
theorem dX4_run_31 : decode cX4_run 31 = .ok (.iconst 0, 1) := by decide +kernel
theorem dX4_run_32 : decode cX4_run 32 = .ok (.putfield 60, 3) := by decide +kernel
theorem dX4_run_35 : decode cX4_run 35 = .ok (.aload_n 0, 1) := by decide +kernel
theorem dX4_run_36 : decode cX4_run 36 = .ok (.getfield 60, 3) := by decide +kernel
theorem dX4_run_39 : decode cX4_run 39 = .ok (.ifCond .le 5, 3) := by decide +kernel
theorem dX4_run_42 : decode cX4_run 42 = .ok (.iconst 0, 1) := by decide +kernel
theorem dX4_run_43 : decode cX4_run 43 = .ok (.ireturn, 1) := by decide +kernel
theorem dX4_run_44 : decode cX4_run 44 = .ok (.aload_n 0, 1) := by decide +kernel
theorem dX4_run_45 : decode cX4_run 45 = .ok (.iload_n 1, 1) := by decide +kernel
theorem dX4_run_46 : decode cX4_run 46 = .ok (.invokevirtual 123, 3) := by decide +kernel
theorem dX4_run_49 : decode cX4_run 49 = .ok (.aload_n 0, 1) := by decide +kernel
theorem dX4_run_50 : decode cX4_run 50 = .ok (.iload_n 1, 1) := by decide +kernel
theorem dX4_run_51 : decode cX4_run 51 = .ok (.invokevirtual 127, 3) := by decide +kernel
theorem dX4_run_54 : decode cX4_run 54 = .ok (.iconst 0, 1) := by decide +kernel
theorem dX4_run_55 : decode cX4_run 55 = .ok (.istore_n 2, 1) := by decide +kernel
theorem dX4_run_56 : decode cX4_run 56 = .ok (.iload_n 2, 1) := by decide +kernel
theorem dX4_run_57 : decode cX4_run 57 = .ok (.bipush 21, 2) := by decide +kernel
theorem dX4_run_59 : decode cX4_run 59 = .ok (.if_icmp .ge 21, 3) := by decide +kernel
theorem dX4_run_62 : decode cX4_run 62 = .ok (.aload_n 0, 1) := by decide +kernel
theorem dX4_run_63 : decode cX4_run 63 = .ok (.getfield 57, 3) := by decide +kernel
theorem dX4_run_66 : decode cX4_run 66 = .ok (.iload_n 2, 1) := by decide +kernel
theorem dX4_run_67 : decode cX4_run 67 = .ok (.aload_n 0, 1) := by decide +kernel
theorem dX4_run_68 : decode cX4_run 68 = .ok (.getfield 54, 3) := by decide +kernel
theorem dX4_run_71 : decode cX4_run 71 = .ok (.iload_n 2, 1) := by decide +kernel
theorem dX4_run_72 : decode cX4_run 72 = .ok (.iaload, 1) := by decide +kernel
theorem dX4_run_73 : decode cX4_run 73 = .ok (.iastore, 1) := by decide +kernel
theorem dX4_run_74 : decode cX4_run 74 = .ok (.iinc 2 1, 3) := by decide +kernel
theorem dX4_run_77 : decode cX4_run 77 = .ok (.goto (-21), 3) := by decide +kernel
theorem dX4_run_80 : decode cX4_run 80 = .ok (.iconst 0, 1) := by decide +kernel
theorem dX4_run_81 : decode cX4_run 81 = .ok (.istore_n 2, 1) := by decide +kernel
theorem dX4_run_82 : decode cX4_run 82 = .ok (.iconst 0, 1) := by decide +kernel
theorem dX4_run_83 : decode cX4_run 83 = .ok (.istore_n 3, 1) := by decide +kernel
theorem dX4_run_84 : decode cX4_run 84 = .ok (.iload_n 3, 1) := by decide +kernel
theorem dX4_run_85 : decode cX4_run 85 = .ok (.aload_n 0, 1) := by decide +kernel
theorem dX4_run_86 : decode cX4_run 86 = .ok (.getfield 63, 3) := by decide +kernel
theorem dX4_run_89 : decode cX4_run 89 = .ok (.if_icmp .ge 48, 3) := by decide +kernel
theorem dX4_run_92 : decode cX4_run 92 = .ok (.aload_n 0, 1) := by decide +kernel
theorem dX4_run_93 : decode cX4_run 93 = .ok (.getfield 38, 3) := by decide +kernel
theorem dX4_run_96 : decode cX4_run 96 = .ok (.iload_n 3, 1) := by decide +kernel
theorem dX4_run_97 : decode cX4_run 97 = .ok (.iaload, 1) := by decide +kernel
theorem dX4_run_98 : decode cX4_run 98 = .ok (.ifCond .ne 33, 3) := by decide +kernel
theorem dX4_run_101 : decode cX4_run 101 = .ok (.aload_n 0, 1) := by decide +kernel
theorem dX4_run_102 : decode cX4_run 102 = .ok (.getfield 92, 3) := by decide +kernel
theorem dX4_run_105 : decode cX4_run 105 = .ok (.aload_n 0, 1) := by decide +kernel
theorem dX4_run_106 : decode cX4_run 106 = .ok (.getfield 25, 3) := by decide +kernel
theorem dX4_run_109 : decode cX4_run 109 = .ok (.iload_n 3, 1) := by decide +kernel
theorem dX4_run_110 : decode cX4_run 110 = .ok (.iaload, 1) := by decide +kernel
theorem dX4_run_111 : decode cX4_run 111 = .ok (.isub, 1) := by decide +kernel
theorem dX4_run_112 : decode cX4_run 112 = .ok (.iconst 1, 1) := by decide +kernel
theorem dX4_run_113 : decode cX4_run 113 = .ok (.iadd, 1) := by decide +kernel
theorem dX4_run_114 : decode cX4_run 114 = .ok (.aload_n 0, 1) := by decide +kernel
theorem dX4_run_115 : decode cX4_run 115 = .ok (.getfield 29, 3) := by decide +kernel
theorem dX4_run_118 : decode cX4_run 118 = .ok (.iload_n 3, 1) := by decide +kernel
theorem dX4_run_119 : decode cX4_run 119 = .ok (.iaload, 1) := by decide +kernel
theorem dX4_run_120 : decode cX4_run 120 = .ok (.if_icmp .ne 11, 3) := by decide +kernel
theorem dX4_run_123 : decode cX4_run 123 = .ok (.aload_n 0, 1) := by decide +kernel
theorem dX4_run_124 : decode cX4_run 124 = .ok (.iload_n 3, 1) := by decide +kernel
theorem dX4_run_125 : decode cX4_run 125 = .ok (.invokevirtual 130, 3) := by decide +kernel
theorem dX4_run_128 : decode cX4_run 128 = .ok (.iinc 2 1, 3) := by decide +kernel
theorem dX4_run_131 : decode cX4_run 131 = .ok (.iinc 3 1, 3) := by decide +kernel
theorem dX4_run_134 : decode cX4_run 134 = .ok (.goto (-50), 3) := by decide +kernel
theorem dX4_run_137 : decode cX4_run 137 = .ok (.iconst 0, 1) := by decide +kernel
theorem dX4_run_138 : decode cX4_run 138 = .ok (.istore_n 3, 1) := by decide +kernel
theorem dX4_run_139 : decode cX4_run 139 = .ok (.iload_n 3, 1) := by decide +kernel
theorem dX4_run_140 : decode cX4_run 140 = .ok (.bipush 21, 2) := by decide +kernel
theorem dX4_run_142 : decode cX4_run 142 = .ok (.if_icmp .ge 21, 3) := by decide +kernel
theorem dX4_run_145 : decode cX4_run 145 = .ok (.aload_n 0, 1) := by decide +kernel
theorem dX4_run_146 : decode cX4_run 146 = .ok (.getfield 54, 3) := by decide +kernel
theorem dX4_run_149 : decode cX4_run 149 = .ok (.iload_n 3, 1) := by decide +kernel
theorem dX4_run_150 : decode cX4_run 150 = .ok (.aload_n 0, 1) := by decide +kernel
theorem dX4_run_151 : decode cX4_run 151 = .ok (.getfield 57, 3) := by decide +kernel
theorem dX4_run_154 : decode cX4_run 154 = .ok (.iload_n 3, 1) := by decide +kernel
theorem dX4_run_155 : decode cX4_run 155 = .ok (.iaload, 1) := by decide +kernel
theorem dX4_run_156 : decode cX4_run 156 = .ok (.iastore, 1) := by decide +kernel
theorem dX4_run_157 : decode cX4_run 157 = .ok (.iinc 3 1, 3) := by decide +kernel
theorem dX4_run_160 : decode cX4_run 160 = .ok (.goto (-21), 3) := by decide +kernel
theorem dX4_run_163 : decode cX4_run 163 = .ok (.aload_n 0, 1) := by decide +kernel
theorem dX4_run_164 : decode cX4_run 164 = .ok (.dup, 1) := by decide +kernel
theorem dX4_run_165 : decode cX4_run 165 = .ok (.getfield 92, 3) := by decide +kernel
theorem dX4_run_168 : decode cX4_run 168 = .ok (.iconst 1, 1) := by decide +kernel
theorem dX4_run_169 : decode cX4_run 169 = .ok (.iadd, 1) := by decide +kernel
theorem dX4_run_170 : decode cX4_run 170 = .ok (.putfield 92, 3) := by decide +kernel
theorem dX4_run_173 : decode cX4_run 173 = .ok (.iload_n 2, 1) := by decide +kernel
theorem dX4_run_174 : decode cX4_run 174 = .ok (.ireturn, 1) := by decide +kernel
theorem dX4_year_0 : decode cX4_year 0 = .ok (.aload_n 0, 1) := by decide +kernel
theorem dX4_year_1 : decode cX4_year 1 = .ok (.iconst 0, 1) := by decide +kernel
theorem dX4_year_2 : decode cX4_year 2 = .ok (.putfield 60, 3) := by decide +kernel
theorem dX4_year_5 : decode cX4_year 5 = .ok (.aload_n 0, 1) := by decide +kernel
theorem dX4_year_6 : decode cX4_year 6 = .ok (.getfield 92, 3) := by decide +kernel
theorem dX4_year_9 : decode cX4_year 9 = .ok (.ireturn, 1) := by decide +kernel
theorem dX4_policies_0 : decode cX4_policies 0 = .ok (.aload_n 0, 1) := by decide +kernel
theorem dX4_policies_1 : decode cX4_policies 1 = .ok (.iconst 0, 1) := by decide +kernel
theorem dX4_policies_2 : decode cX4_policies 2 = .ok (.putfield 60, 3) := by decide +kernel
theorem dX4_policies_5 : decode cX4_policies 5 = .ok (.aload_n 0, 1) := by decide +kernel
theorem dX4_policies_6 : decode cX4_policies 6 = .ok (.getfield 63, 3) := by decide +kernel
theorem dX4_policies_9 : decode cX4_policies 9 = .ok (.ireturn, 1) := by decide +kernel
theorem dX4_stateOf_0 : decode cX4_stateOf 0 = .ok (.aload_n 0, 1) := by decide +kernel
theorem dX4_stateOf_1 : decode cX4_stateOf 1 = .ok (.iload_n 1, 1) := by decide +kernel
theorem dX4_stateOf_2 : decode cX4_stateOf 2 = .ok (.invokevirtual 107, 3) := by decide +kernel
theorem dX4_stateOf_5 : decode cX4_stateOf 5 = .ok (.ifCond .eq 12, 3) := by decide +kernel
theorem dX4_stateOf_8 : decode cX4_stateOf 8 = .ok (.aload_n 0, 1) := by decide +kernel
theorem dX4_stateOf_9 : decode cX4_stateOf 9 = .ok (.getfield 38, 3) := by decide +kernel
theorem dX4_stateOf_12 : decode cX4_stateOf 12 = .ok (.iload_n 1, 1) := by decide +kernel
theorem dX4_stateOf_13 : decode cX4_stateOf 13 = .ok (.iaload, 1) := by decide +kernel
theorem dX4_stateOf_14 : decode cX4_stateOf 14 = .ok (.goto 4, 3) := by decide +kernel
theorem dX4_stateOf_17 : decode cX4_stateOf 17 = .ok (.iconst 0, 1) := by decide +kernel
theorem dX4_stateOf_18 : decode cX4_stateOf 18 = .ok (.ireturn, 1) := by decide +kernel
theorem dX4_bonuses_0 : decode cX4_bonuses 0 = .ok (.aload_n 0, 1) := by decide +kernel
theorem dX4_bonuses_1 : decode cX4_bonuses 1 = .ok (.iload_n 1, 1) := by decide +kernel
theorem dX4_bonuses_2 : decode cX4_bonuses 2 = .ok (.invokevirtual 107, 3) := by decide +kernel
theorem dX4_bonuses_5 : decode cX4_bonuses 5 = .ok (.ifCond .eq 12, 3) := by decide +kernel
theorem dX4_bonuses_8 : decode cX4_bonuses 8 = .ok (.aload_n 0, 1) := by decide +kernel
theorem dX4_bonuses_9 : decode cX4_bonuses 9 = .ok (.getfield 41, 3) := by decide +kernel
theorem dX4_bonuses_12 : decode cX4_bonuses 12 = .ok (.iload_n 1, 1) := by decide +kernel
theorem dX4_bonuses_13 : decode cX4_bonuses 13 = .ok (.iaload, 1) := by decide +kernel
theorem dX4_bonuses_14 : decode cX4_bonuses 14 = .ok (.goto 4, 3) := by decide +kernel
theorem dX4_bonuses_17 : decode cX4_bonuses 17 = .ok (.iconst 0, 1) := by decide +kernel
theorem dX4_bonuses_18 : decode cX4_bonuses 18 = .ok (.ireturn, 1) := by decide +kernel
theorem dX4_shareOf_0 : decode cX4_shareOf 0 = .ok (.aload_n 0, 1) := by decide +kernel
theorem dX4_shareOf_1 : decode cX4_shareOf 1 = .ok (.iload_n 1, 1) := by decide +kernel
theorem dX4_shareOf_2 : decode cX4_shareOf 2 = .ok (.invokevirtual 107, 3) := by decide +kernel
theorem dX4_shareOf_5 : decode cX4_shareOf 5 = .ok (.ifCond .eq 12, 3) := by decide +kernel
theorem dX4_shareOf_8 : decode cX4_shareOf 8 = .ok (.aload_n 0, 1) := by decide +kernel
theorem dX4_shareOf_9 : decode cX4_shareOf 9 = .ok (.iload_n 1, 1) := by decide +kernel
theorem dX4_shareOf_10 : decode cX4_shareOf 10 = .ok (.invokevirtual 95, 3) := by decide +kernel
theorem dX4_shareOf_13 : decode cX4_shareOf 13 = .ok (.l2i, 1) := by decide +kernel
theorem dX4_shareOf_14 : decode cX4_shareOf 14 = .ok (.goto 4, 3) := by decide +kernel
theorem dX4_shareOf_17 : decode cX4_shareOf 17 = .ok (.iconst 0, 1) := by decide +kernel
theorem dX4_shareOf_18 : decode cX4_shareOf 18 = .ok (.ireturn, 1) := by decide +kernel
theorem dX4_shareAlone_0 : decode cX4_shareAlone 0 = .ok (.aload_n 0, 1) := by decide +kernel
theorem dX4_shareAlone_1 : decode cX4_shareAlone 1 = .ok (.iload_n 1, 1) := by decide +kernel
theorem dX4_shareAlone_2 : decode cX4_shareAlone 2 = .ok (.invokevirtual 107, 3) := by decide +kernel
theorem dX4_shareAlone_5 : decode cX4_shareAlone 5 = .ok (.ifCond .eq 22, 3) := by decide +kernel
theorem dX4_shareAlone_8 : decode cX4_shareAlone 8 = .ok (.aload_n 0, 1) := by decide +kernel
theorem dX4_shareAlone_9 : decode cX4_shareAlone 9 = .ok (.getfield 38, 3) := by decide +kernel
theorem dX4_shareAlone_12 : decode cX4_shareAlone 12 = .ok (.iload_n 1, 1) := by decide +kernel
theorem dX4_shareAlone_13 : decode cX4_shareAlone 13 = .ok (.iaload, 1) := by decide +kernel
theorem dX4_shareAlone_14 : decode cX4_shareAlone 14 = .ok (.ifCond .ne 13, 3) := by decide +kernel
theorem dX4_shareAlone_17 : decode cX4_shareAlone 17 = .ok (.aload_n 0, 1) := by decide +kernel
theorem dX4_shareAlone_18 : decode cX4_shareAlone 18 = .ok (.getfield 47, 3) := by decide +kernel
theorem dX4_shareAlone_21 : decode cX4_shareAlone 21 = .ok (.iload_n 1, 1) := by decide +kernel
theorem dX4_shareAlone_22 : decode cX4_shareAlone 22 = .ok (.laload, 1) := by decide +kernel
theorem dX4_shareAlone_23 : decode cX4_shareAlone 23 = .ok (.l2i, 1) := by decide +kernel
theorem dX4_shareAlone_24 : decode cX4_shareAlone 24 = .ok (.goto 4, 3) := by decide +kernel
theorem dX4_shareAlone_27 : decode cX4_shareAlone 27 = .ok (.iconst 0, 1) := by decide +kernel
theorem dX4_shareAlone_28 : decode cX4_shareAlone 28 = .ok (.ireturn, 1) := by decide +kernel
theorem dX4_generation_0 : decode cX4_generation 0 = .ok (.aload_n 0, 1) := by decide +kernel
theorem dX4_generation_1 : decode cX4_generation 1 = .ok (.iload_n 1, 1) := by decide +kernel
theorem dX4_generation_2 : decode cX4_generation 2 = .ok (.iconst 0, 1) := by decide +kernel
theorem dX4_generation_3 : decode cX4_generation 3 = .ok (.bipush 40, 2) := by decide +kernel
theorem dX4_generation_5 : decode cX4_generation 5 = .ok (.invokestatic 66, 3) := by decide +kernel
theorem dX4_generation_8 : decode cX4_generation 8 = .ok (.ifCond .eq 17, 3) := by decide +kernel
theorem dX4_generation_11 : decode cX4_generation 11 = .ok (.iload_n 2, 1) := by decide +kernel
theorem dX4_generation_12 : decode cX4_generation 12 = .ok (.iconst 2, 1) := by decide +kernel
theorem dX4_generation_13 : decode cX4_generation 13 = .ok (.bipush 20, 2) := by decide +kernel
theorem dX4_generation_15 : decode cX4_generation 15 = .ok (.invokestatic 66, 3) := by decide +kernel
theorem dX4_generation_18 : decode cX4_generation 18 = .ok (.ifCond .eq 7, 3) := by decide +kernel
theorem dX4_generation_21 : decode cX4_generation 21 = .ok (.iconst 0, 1) := by decide +kernel
theorem dX4_generation_22 : decode cX4_generation 22 = .ok (.goto 4, 3) := by decide +kernel
theorem dX4_generation_25 : decode cX4_generation 25 = .ok (.iconst 1, 1) := by decide +kernel
theorem dX4_generation_26 : decode cX4_generation 26 = .ok (.putfield 60, 3) := by decide +kernel
theorem dX4_generation_29 : decode cX4_generation 29 = .ok (.aload_n 0, 1) := by decide +kernel
theorem dX4_generation_30 : decode cX4_generation 30 = .ok (.iload_n 1, 1) := by decide +kernel
theorem dX4_generation_31 : decode cX4_generation 31 = .ok (.iload_n 2, 1) := by decide +kernel
theorem dX4_generation_32 : decode cX4_generation 32 = .ok (.invokevirtual 72, 3) := by decide +kernel
theorem dX4_generation_35 : decode cX4_generation 35 = .ok (.istore_n 3, 1) := by decide +kernel
theorem dX4_generation_36 : decode cX4_generation 36 = .ok (.aload_n 0, 1) := by decide +kernel
theorem dX4_generation_37 : decode cX4_generation 37 = .ok (.getfield 60, 3) := by decide +kernel
theorem dX4_generation_40 : decode cX4_generation 40 = .ok (.ifCond .ne 18, 3) := by decide +kernel
theorem dX4_generation_43 : decode cX4_generation 43 = .ok (.iload_n 3, 1) := by decide +kernel
theorem dX4_generation_44 : decode cX4_generation 44 = .ok (.iconst (-1), 1) := by decide +kernel
theorem dX4_generation_45 : decode cX4_generation 45 = .ok (.if_icmp .eq 13, 3) := by decide +kernel
theorem dX4_generation_48 : decode cX4_generation 48 = .ok (.aload_n 0, 1) := by decide +kernel
theorem dX4_generation_49 : decode cX4_generation 49 = .ok (.getfield 51, 3) := by decide +kernel
theorem dX4_generation_52 : decode cX4_generation 52 = .ok (.iload_n 3, 1) := by decide +kernel
theorem dX4_generation_53 : decode cX4_generation 53 = .ok (.laload, 1) := by decide +kernel
theorem dX4_generation_54 : decode cX4_generation 54 = .ok (.l2i, 1) := by decide +kernel
theorem dX4_generation_55 : decode cX4_generation 55 = .ok (.goto 4, 3) := by decide +kernel
theorem dX4_generation_58 : decode cX4_generation 58 = .ok (.iconst 0, 1) := by decide +kernel
theorem dX4_generation_59 : decode cX4_generation 59 = .ok (.ireturn, 1) := by decide +kernel
theorem dX4_paid_0 : decode cX4_paid 0 = .ok (.aload_n 0, 1) := by decide +kernel
theorem dX4_paid_1 : decode cX4_paid 1 = .ok (.iload_n 1, 1) := by decide +kernel
theorem dX4_paid_2 : decode cX4_paid 2 = .ok (.invokevirtual 107, 3) := by decide +kernel
theorem dX4_paid_5 : decode cX4_paid 5 = .ok (.ifCond .ne 7, 3) := by decide +kernel
theorem dX4_paid_8 : decode cX4_paid 8 = .ok (.iconst 0, 1) := by decide +kernel
theorem dX4_paid_9 : decode cX4_paid 9 = .ok (.goto 22, 3) := by decide +kernel
theorem dX4_paid_12 : decode cX4_paid 12 = .ok (.aload_n 0, 1) := by decide +kernel
theorem dX4_paid_13 : decode cX4_paid 13 = .ok (.getfield 38, 3) := by decide +kernel
theorem dX4_paid_16 : decode cX4_paid 16 = .ok (.iload_n 1, 1) := by decide +kernel
theorem dX4_paid_17 : decode cX4_paid 17 = .ok (.iaload, 1) := by decide +kernel
theorem dX4_paid_18 : decode cX4_paid 18 = .ok (.ifCond .ne 7, 3) := by decide +kernel
theorem dX4_paid_21 : decode cX4_paid 21 = .ok (.iconst (-1), 1) := by decide +kernel
theorem dX4_paid_22 : decode cX4_paid 22 = .ok (.goto 9, 3) := by decide +kernel
theorem dX4_paid_25 : decode cX4_paid 25 = .ok (.aload_n 0, 1) := by decide +kernel
theorem dX4_paid_26 : decode cX4_paid 26 = .ok (.getfield 44, 3) := by decide +kernel
theorem dX4_paid_29 : decode cX4_paid 29 = .ok (.iload_n 1, 1) := by decide +kernel
theorem dX4_paid_30 : decode cX4_paid 30 = .ok (.iaload, 1) := by decide +kernel
theorem dX4_paid_31 : decode cX4_paid 31 = .ok (.ireturn, 1) := by decide +kernel
theorem dX4_worth_0 : decode cX4_worth 0 = .ok (.aload_n 0, 1) := by decide +kernel
theorem dX4_worth_1 : decode cX4_worth 1 = .ok (.iload_n 1, 1) := by decide +kernel
theorem dX4_worth_2 : decode cX4_worth 2 = .ok (.invokevirtual 111, 3) := by decide +kernel
theorem dX4_worth_5 : decode cX4_worth 5 = .ok (.ifCond .eq 12, 3) := by decide +kernel
theorem dX4_worth_8 : decode cX4_worth 8 = .ok (.aload_n 0, 1) := by decide +kernel
theorem dX4_worth_9 : decode cX4_worth 9 = .ok (.iload_n 1, 1) := by decide +kernel
theorem dX4_worth_10 : decode cX4_worth 10 = .ok (.invokevirtual 114, 3) := by decide +kernel
theorem dX4_worth_13 : decode cX4_worth 13 = .ok (.l2i, 1) := by decide +kernel
theorem dX4_worth_14 : decode cX4_worth 14 = .ok (.goto 4, 3) := by decide +kernel
theorem dX4_worth_17 : decode cX4_worth 17 = .ok (.iconst 0, 1) := by decide +kernel
theorem dX4_worth_18 : decode cX4_worth 18 = .ok (.ireturn, 1) := by decide +kernel
theorem dX4_lastRatio_0 : decode cX4_lastRatio 0 = .ok (.aload_n 0, 1) := by decide +kernel
theorem dX4_lastRatio_1 : decode cX4_lastRatio 1 = .ok (.iload_n 1, 1) := by decide +kernel
theorem dX4_lastRatio_2 : decode cX4_lastRatio 2 = .ok (.iconst 2, 1) := by decide +kernel
theorem dX4_lastRatio_3 : decode cX4_lastRatio 3 = .ok (.bipush 20, 2) := by decide +kernel
theorem dX4_lastRatio_5 : decode cX4_lastRatio 5 = .ok (.invokestatic 66, 3) := by decide +kernel
theorem dX4_lastRatio_8 : decode cX4_lastRatio 8 = .ok (.ifCond .eq 7, 3) := by decide +kernel
theorem dX4_lastRatio_11 : decode cX4_lastRatio 11 = .ok (.iconst 0, 1) := by decide +kernel
theorem dX4_lastRatio_12 : decode cX4_lastRatio 12 = .ok (.goto 4, 3) := by decide +kernel
theorem dX4_lastRatio_15 : decode cX4_lastRatio 15 = .ok (.iconst 1, 1) := by decide +kernel
theorem dX4_lastRatio_16 : decode cX4_lastRatio 16 = .ok (.putfield 60, 3) := by decide +kernel
theorem dX4_lastRatio_19 : decode cX4_lastRatio 19 = .ok (.aload_n 0, 1) := by decide +kernel
theorem dX4_lastRatio_20 : decode cX4_lastRatio 20 = .ok (.getfield 60, 3) := by decide +kernel
theorem dX4_lastRatio_23 : decode cX4_lastRatio 23 = .ok (.ifCond .ne 14, 3) := by decide +kernel
theorem dX4_lastRatio_26 : decode cX4_lastRatio 26 = .ok (.aload_n 0, 1) := by decide +kernel
theorem dX4_lastRatio_27 : decode cX4_lastRatio 27 = .ok (.getfield 54, 3) := by decide +kernel
theorem dX4_lastRatio_30 : decode cX4_lastRatio 30 = .ok (.iload_n 1, 1) := by decide +kernel
theorem dX4_lastRatio_31 : decode cX4_lastRatio 31 = .ok (.iaload, 1) := by decide +kernel
theorem dX4_lastRatio_32 : decode cX4_lastRatio 32 = .ok (.iconst 1, 1) := by decide +kernel
theorem dX4_lastRatio_33 : decode cX4_lastRatio 33 = .ok (.isub, 1) := by decide +kernel
theorem dX4_lastRatio_34 : decode cX4_lastRatio 34 = .ok (.goto 4, 3) := by decide +kernel
theorem dX4_lastRatio_37 : decode cX4_lastRatio 37 = .ok (.iconst 0, 1) := by decide +kernel
theorem dX4_lastRatio_38 : decode cX4_lastRatio 38 = .ok (.ireturn, 1) := by decide +kernel
theorem dX4_estate_0 : decode cX4_estate 0 = .ok (.aload_n 0, 1) := by decide +kernel
theorem dX4_estate_1 : decode cX4_estate 1 = .ok (.iconst 0, 1) := by decide +kernel
theorem dX4_estate_2 : decode cX4_estate 2 = .ok (.putfield 60, 3) := by decide +kernel
theorem dX4_estate_5 : decode cX4_estate 5 = .ok (.aload_n 0, 1) := by decide +kernel
theorem dX4_estate_6 : decode cX4_estate 6 = .ok (.getfield 84, 3) := by decide +kernel
theorem dX4_estate_9 : decode cX4_estate 9 = .ok (.lreturn, 1) := by decide +kernel
theorem dX4_sharesAndEstate_0 : decode cX4_sharesAndEstate 0 = .ok (.aload_n 0, 1) := by decide +kernel
theorem dX4_sharesAndEstate_1 : decode cX4_sharesAndEstate 1 = .ok (.iconst 0, 1) := by decide +kernel
theorem dX4_sharesAndEstate_2 : decode cX4_sharesAndEstate 2 = .ok (.putfield 60, 3) := by decide +kernel
theorem dX4_sharesAndEstate_5 : decode cX4_sharesAndEstate 5 = .ok (.aload_n 0, 1) := by decide +kernel
theorem dX4_sharesAndEstate_6 : decode cX4_sharesAndEstate 6 = .ok (.getfield 84, 3) := by decide +kernel
theorem dX4_sharesAndEstate_9 : decode cX4_sharesAndEstate 9 = .ok (.lstore_n 1, 1) := by decide +kernel
theorem dX4_sharesAndEstate_10 : decode cX4_sharesAndEstate 10 = .ok (.iconst 0, 1) := by decide +kernel
theorem dX4_sharesAndEstate_11 : decode cX4_sharesAndEstate 11 = .ok (.istore_n 3, 1) := by decide +kernel
theorem dX4_sharesAndEstate_12 : decode cX4_sharesAndEstate 12 = .ok (.iload_n 3, 1) := by decide +kernel
theorem dX4_sharesAndEstate_13 : decode cX4_sharesAndEstate 13 = .ok (.aload_n 0, 1) := by decide +kernel
theorem dX4_sharesAndEstate_14 : decode cX4_sharesAndEstate 14 = .ok (.getfield 63, 3) := by decide +kernel
theorem dX4_sharesAndEstate_17 : decode cX4_sharesAndEstate 17 = .ok (.if_icmp .ge 18, 3) := by decide +kernel
theorem dX4_sharesAndEstate_20 : decode cX4_sharesAndEstate 20 = .ok (.lload_n 1, 1) := by decide +kernel
theorem dX4_sharesAndEstate_21 : decode cX4_sharesAndEstate 21 = .ok (.aload_n 0, 1) := by decide +kernel
theorem dX4_sharesAndEstate_22 : decode cX4_sharesAndEstate 22 = .ok (.getfield 51, 3) := by decide +kernel
theorem dX4_sharesAndEstate_25 : decode cX4_sharesAndEstate 25 = .ok (.iload_n 3, 1) := by decide +kernel
theorem dX4_sharesAndEstate_26 : decode cX4_sharesAndEstate 26 = .ok (.laload, 1) := by decide +kernel
theorem dX4_sharesAndEstate_27 : decode cX4_sharesAndEstate 27 = .ok (.ladd, 1) := by decide +kernel
theorem dX4_sharesAndEstate_28 : decode cX4_sharesAndEstate 28 = .ok (.lstore_n 1, 1) := by decide +kernel
theorem dX4_sharesAndEstate_29 : decode cX4_sharesAndEstate 29 = .ok (.iinc 3 1, 3) := by decide +kernel
theorem dX4_sharesAndEstate_32 : decode cX4_sharesAndEstate 32 = .ok (.goto (-20), 3) := by decide +kernel
theorem dX4_sharesAndEstate_35 : decode cX4_sharesAndEstate 35 = .ok (.lload_n 1, 1) := by decide +kernel
theorem dX4_sharesAndEstate_36 : decode cX4_sharesAndEstate 36 = .ok (.lreturn, 1) := by decide +kernel
theorem dX4_assets_0 : decode cX4_assets 0 = .ok (.aload_n 0, 1) := by decide +kernel
theorem dX4_assets_1 : decode cX4_assets 1 = .ok (.iconst 0, 1) := by decide +kernel
theorem dX4_assets_2 : decode cX4_assets 2 = .ok (.putfield 60, 3) := by decide +kernel
theorem dX4_assets_5 : decode cX4_assets 5 = .ok (.aload_n 0, 1) := by decide +kernel
theorem dX4_assets_6 : decode cX4_assets 6 = .ok (.getfield 88, 3) := by decide +kernel
theorem dX4_assets_9 : decode cX4_assets 9 = .ok (.lreturn, 1) := by decide +kernel
theorem dX4_shortfall_0 : decode cX4_shortfall 0 = .ok (.aload_n 0, 1) := by decide +kernel
theorem dX4_shortfall_1 : decode cX4_shortfall 1 = .ok (.iconst 0, 1) := by decide +kernel
theorem dX4_shortfall_2 : decode cX4_shortfall 2 = .ok (.putfield 60, 3) := by decide +kernel
theorem dX4_shortfall_5 : decode cX4_shortfall 5 = .ok (.lconst 0, 1) := by decide +kernel
theorem dX4_shortfall_6 : decode cX4_shortfall 6 = .ok (.lstore_n 1, 1) := by decide +kernel
theorem dX4_shortfall_7 : decode cX4_shortfall 7 = .ok (.iconst 0, 1) := by decide +kernel
theorem dX4_shortfall_8 : decode cX4_shortfall 8 = .ok (.istore_n 3, 1) := by decide +kernel
theorem dX4_shortfall_9 : decode cX4_shortfall 9 = .ok (.iload_n 3, 1) := by decide +kernel
theorem dX4_shortfall_10 : decode cX4_shortfall 10 = .ok (.aload_n 0, 1) := by decide +kernel
theorem dX4_shortfall_11 : decode cX4_shortfall 11 = .ok (.getfield 63, 3) := by decide +kernel
theorem dX4_shortfall_14 : decode cX4_shortfall 14 = .ok (.if_icmp .ge 60, 3) := by decide +kernel
theorem dX4_shortfall_17 : decode cX4_shortfall 17 = .ok (.aload_n 0, 1) := by decide +kernel
theorem dX4_shortfall_18 : decode cX4_shortfall 18 = .ok (.getfield 38, 3) := by decide +kernel
theorem dX4_shortfall_21 : decode cX4_shortfall 21 = .ok (.iload_n 3, 1) := by decide +kernel
theorem dX4_shortfall_22 : decode cX4_shortfall 22 = .ok (.iaload, 1) := by decide +kernel
theorem dX4_shortfall_23 : decode cX4_shortfall 23 = .ok (.ifCond .ne 26, 3) := by decide +kernel
theorem dX4_shortfall_26 : decode cX4_shortfall 26 = .ok (.aload_n 0, 1) := by decide +kernel
theorem dX4_shortfall_27 : decode cX4_shortfall 27 = .ok (.getfield 35, 3) := by decide +kernel
theorem dX4_shortfall_30 : decode cX4_shortfall 30 = .ok (.iload_n 3, 1) := by decide +kernel
theorem dX4_shortfall_31 : decode cX4_shortfall 31 = .ok (.iaload, 1) := by decide +kernel
theorem dX4_shortfall_32 : decode cX4_shortfall 32 = .ok (.aload_n 0, 1) := by decide +kernel
theorem dX4_shortfall_33 : decode cX4_shortfall 33 = .ok (.getfield 41, 3) := by decide +kernel
theorem dX4_shortfall_36 : decode cX4_shortfall 36 = .ok (.iload_n 3, 1) := by decide +kernel
theorem dX4_shortfall_37 : decode cX4_shortfall 37 = .ok (.iaload, 1) := by decide +kernel
theorem dX4_shortfall_38 : decode cX4_shortfall 38 = .ok (.iadd, 1) := by decide +kernel
theorem dX4_shortfall_39 : decode cX4_shortfall 39 = .ok (.i2l, 1) := by decide +kernel
theorem dX4_shortfall_40 : decode cX4_shortfall 40 = .ok (.aload_n 0, 1) := by decide +kernel
theorem dX4_shortfall_41 : decode cX4_shortfall 41 = .ok (.iload_n 3, 1) := by decide +kernel
theorem dX4_shortfall_42 : decode cX4_shortfall 42 = .ok (.invokevirtual 95, 3) := by decide +kernel
theorem dX4_shortfall_45 : decode cX4_shortfall 45 = .ok (.lsub, 1) := by decide +kernel
theorem dX4_shortfall_46 : decode cX4_shortfall 46 = .ok (.goto 4, 3) := by decide +kernel
theorem dX4_shortfall_49 : decode cX4_shortfall 49 = .ok (.lconst 0, 1) := by decide +kernel
theorem dX4_shortfall_50 : decode cX4_shortfall 50 = .ok (.lstore 4, 2) := by decide +kernel
theorem dX4_shortfall_52 : decode cX4_shortfall 52 = .ok (.lload_n 1, 1) := by decide +kernel
theorem dX4_shortfall_53 : decode cX4_shortfall 53 = .ok (.lload 4, 2) := by decide +kernel
theorem dX4_shortfall_55 : decode cX4_shortfall 55 = .ok (.lconst 0, 1) := by decide +kernel
theorem dX4_shortfall_56 : decode cX4_shortfall 56 = .ok (.lcmp, 1) := by decide +kernel
theorem dX4_shortfall_57 : decode cX4_shortfall 57 = .ok (.ifCond .le 8, 3) := by decide +kernel
theorem dX4_shortfall_60 : decode cX4_shortfall 60 = .ok (.lload 4, 2) := by decide +kernel
theorem dX4_shortfall_62 : decode cX4_shortfall 62 = .ok (.goto 4, 3) := by decide +kernel
theorem dX4_shortfall_65 : decode cX4_shortfall 65 = .ok (.lconst 0, 1) := by decide +kernel
theorem dX4_shortfall_66 : decode cX4_shortfall 66 = .ok (.ladd, 1) := by decide +kernel
theorem dX4_shortfall_67 : decode cX4_shortfall 67 = .ok (.lstore_n 1, 1) := by decide +kernel
theorem dX4_shortfall_68 : decode cX4_shortfall 68 = .ok (.iinc 3 1, 3) := by decide +kernel
theorem dX4_shortfall_71 : decode cX4_shortfall 71 = .ok (.goto (-62), 3) := by decide +kernel
theorem dX4_shortfall_74 : decode cX4_shortfall 74 = .ok (.lload_n 1, 1) := by decide +kernel
theorem dX4_shortfall_75 : decode cX4_shortfall 75 = .ok (.l2i, 1) := by decide +kernel
theorem dX4_shortfall_76 : decode cX4_shortfall 76 = .ok (.ireturn, 1) := by decide +kernel
