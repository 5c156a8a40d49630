theorem dX0_init_0 : decode cX0_init 0 = .ok (.aload_n 0, 1) := by decide +kernel
theorem dX0_init_1 : decode cX0_init 1 = .ok (.invokespecial 1, 3) := by decide +kernel
theorem dX0_init_4 : decode cX0_init 4 = .ok (.return_, 1) := by decide +kernel
theorem dX0_earn_0 : decode cX0_earn 0 = .ok (.aload_n 0, 1) := by decide +kernel
theorem dX0_earn_1 : decode cX0_earn 1 = .ok (.getfield 7, 3) := by decide +kernel
theorem dX0_earn_4 : decode cX0_earn 4 = .ok (.iload_n 1, 1) := by decide +kernel
theorem dX0_earn_5 : decode cX0_earn 5 = .ok (.i2l, 1) := by decide +kernel
theorem dX0_earn_6 : decode cX0_earn 6 = .ok (.invokestatic 13, 3) := by decide +kernel
theorem dX0_earn_9 : decode cX0_earn 9 = .ok (.lstore_n 2, 1) := by decide +kernel
theorem dX0_earn_10 : decode cX0_earn 10 = .ok (.aload_n 0, 1) := by decide +kernel
theorem dX0_earn_11 : decode cX0_earn 11 = .ok (.dup, 1) := by decide +kernel
theorem dX0_earn_12 : decode cX0_earn 12 = .ok (.getfield 7, 3) := by decide +kernel
theorem dX0_earn_15 : decode cX0_earn 15 = .ok (.lload_n 2, 1) := by decide +kernel
theorem dX0_earn_16 : decode cX0_earn 16 = .ok (.ladd, 1) := by decide +kernel
theorem dX0_earn_17 : decode cX0_earn 17 = .ok (.putfield 7, 3) := by decide +kernel
theorem dX0_earn_20 : decode cX0_earn 20 = .ok (.lload_n 2, 1) := by decide +kernel
theorem dX0_earn_21 : decode cX0_earn 21 = .ok (.lreturn, 1) := by decide +kernel
theorem dX0_takeCharge_0 : decode cX0_takeCharge 0 = .ok (.aload_n 0, 1) := by decide +kernel
theorem dX0_takeCharge_1 : decode cX0_takeCharge 1 = .ok (.getfield 7, 3) := by decide +kernel
theorem dX0_takeCharge_4 : decode cX0_takeCharge 4 = .ok (.lconst 0, 1) := by decide +kernel
theorem dX0_takeCharge_5 : decode cX0_takeCharge 5 = .ok (.lcmp, 1) := by decide +kernel
theorem dX0_takeCharge_6 : decode cX0_takeCharge 6 = .ok (.ifCond .le 15, 3) := by decide +kernel
theorem dX0_takeCharge_9 : decode cX0_takeCharge 9 = .ok (.aload_n 0, 1) := by decide +kernel
theorem dX0_takeCharge_10 : decode cX0_takeCharge 10 = .ok (.getfield 7, 3) := by decide +kernel
theorem dX0_takeCharge_13 : decode cX0_takeCharge 13 = .ok (.iload_n 1, 1) := by decide +kernel
theorem dX0_takeCharge_14 : decode cX0_takeCharge 14 = .ok (.i2l, 1) := by decide +kernel
theorem dX0_takeCharge_15 : decode cX0_takeCharge 15 = .ok (.invokestatic 13, 3) := by decide +kernel
theorem dX0_takeCharge_18 : decode cX0_takeCharge 18 = .ok (.goto 4, 3) := by decide +kernel
theorem dX0_takeCharge_21 : decode cX0_takeCharge 21 = .ok (.lconst 0, 1) := by decide +kernel
theorem dX0_takeCharge_22 : decode cX0_takeCharge 22 = .ok (.lstore_n 2, 1) := by decide +kernel
theorem dX0_takeCharge_23 : decode cX0_takeCharge 23 = .ok (.aload_n 0, 1) := by decide +kernel
theorem dX0_takeCharge_24 : decode cX0_takeCharge 24 = .ok (.dup, 1) := by decide +kernel
theorem dX0_takeCharge_25 : decode cX0_takeCharge 25 = .ok (.getfield 7, 3) := by decide +kernel
theorem dX0_takeCharge_28 : decode cX0_takeCharge 28 = .ok (.lload_n 2, 1) := by decide +kernel
theorem dX0_takeCharge_29 : decode cX0_takeCharge 29 = .ok (.lsub, 1) := by decide +kernel
theorem dX0_takeCharge_30 : decode cX0_takeCharge 30 = .ok (.putfield 7, 3) := by decide +kernel
theorem dX0_takeCharge_33 : decode cX0_takeCharge 33 = .ok (.lload_n 2, 1) := by decide +kernel
theorem dX0_takeCharge_34 : decode cX0_takeCharge 34 = .ok (.lreturn, 1) := by decide +kernel
theorem dX1_init_0 : decode cX1_init 0 = .ok (.aload_n 0, 1) := by decide +kernel
theorem dX1_init_1 : decode cX1_init 1 = .ok (.invokespecial 1, 3) := by decide +kernel
theorem dX1_init_4 : decode cX1_init 4 = .ok (.aload_n 0, 1) := by decide +kernel
theorem dX1_init_5 : decode cX1_init 5 = .ok (.iload_n 1, 1) := by decide +kernel
theorem dX1_init_6 : decode cX1_init 6 = .ok (.putfield 7, 3) := by decide +kernel
theorem dX1_init_9 : decode cX1_init 9 = .ok (.aload_n 0, 1) := by decide +kernel
theorem dX1_init_10 : decode cX1_init 10 = .ok (.iload_n 2, 1) := by decide +kernel
theorem dX1_init_11 : decode cX1_init 11 = .ok (.putfield 13, 3) := by decide +kernel
theorem dX1_init_14 : decode cX1_init 14 = .ok (.aload_n 0, 1) := by decide +kernel
theorem dX1_init_15 : decode cX1_init 15 = .ok (.new 16, 3) := by decide +kernel
theorem dX1_init_18 : decode cX1_init 18 = .ok (.dup, 1) := by decide +kernel
theorem dX1_init_19 : decode cX1_init 19 = .ok (.invokespecial 18, 3) := by decide +kernel
theorem dX1_init_22 : decode cX1_init 22 = .ok (.putfield 19, 3) := by decide +kernel
theorem dX1_init_25 : decode cX1_init 25 = .ok (.return_, 1) := by decide +kernel
theorem dX1_shareFor_0 : decode cX1_shareFor 0 = .ok (.aload_n 0, 1) := by decide +kernel
theorem dX1_shareFor_1 : decode cX1_shareFor 1 = .ok (.getfield 19, 3) := by decide +kernel
theorem dX1_shareFor_4 : decode cX1_shareFor 4 = .ok (.getfield 23, 3) := by decide +kernel
theorem dX1_shareFor_7 : decode cX1_shareFor 7 = .ok (.iload_n 1, 1) := by decide +kernel
theorem dX1_shareFor_8 : decode cX1_shareFor 8 = .ok (.i2l, 1) := by decide +kernel
theorem dX1_shareFor_9 : decode cX1_shareFor 9 = .ok (.lmul, 1) := by decide +kernel
theorem dX1_shareFor_10 : decode cX1_shareFor 10 = .ok (.aload_n 0, 1) := by decide +kernel
theorem dX1_shareFor_11 : decode cX1_shareFor 11 = .ok (.getfield 27, 3) := by decide +kernel
theorem dX1_shareFor_14 : decode cX1_shareFor 14 = .ok (.invokestatic 30, 3) := by decide +kernel
theorem dX1_shareFor_17 : decode cX1_shareFor 17 = .ok (.lreturn, 1) := by decide +kernel
theorem dX1_release_0 : decode cX1_release 0 = .ok (.aload_n 0, 1) := by decide +kernel
theorem dX1_release_1 : decode cX1_release 1 = .ok (.iload_n 1, 1) := by decide +kernel
theorem dX1_release_2 : decode cX1_release 2 = .ok (.invokevirtual 36, 3) := by decide +kernel
theorem dX1_release_5 : decode cX1_release 5 = .ok (.lstore_n 2, 1) := by decide +kernel
theorem dX1_release_6 : decode cX1_release 6 = .ok (.aload_n 0, 1) := by decide +kernel
theorem dX1_release_7 : decode cX1_release 7 = .ok (.dup, 1) := by decide +kernel
theorem dX1_release_8 : decode cX1_release 8 = .ok (.getfield 27, 3) := by decide +kernel
theorem dX1_release_11 : decode cX1_release 11 = .ok (.iload_n 1, 1) := by decide +kernel
theorem dX1_release_12 : decode cX1_release 12 = .ok (.i2l, 1) := by decide +kernel
theorem dX1_release_13 : decode cX1_release 13 = .ok (.lsub, 1) := by decide +kernel
theorem dX1_release_14 : decode cX1_release 14 = .ok (.putfield 27, 3) := by decide +kernel
theorem dX1_release_17 : decode cX1_release 17 = .ok (.aload_n 0, 1) := by decide +kernel
theorem dX1_release_18 : decode cX1_release 18 = .ok (.getfield 27, 3) := by decide +kernel
theorem dX1_release_21 : decode cX1_release 21 = .ok (.lconst 0, 1) := by decide +kernel
theorem dX1_release_22 : decode cX1_release 22 = .ok (.lcmp, 1) := by decide +kernel
theorem dX1_release_23 : decode cX1_release 23 = .ok (.ifCond .gt 11, 3) := by decide +kernel
theorem dX1_release_26 : decode cX1_release 26 = .ok (.aload_n 0, 1) := by decide +kernel
theorem dX1_release_27 : decode cX1_release 27 = .ok (.getfield 19, 3) := by decide +kernel
theorem dX1_release_30 : decode cX1_release 30 = .ok (.getfield 23, 3) := by decide +kernel
theorem dX1_release_33 : decode cX1_release 33 = .ok (.lstore_n 2, 1) := by decide +kernel
theorem dX1_release_34 : decode cX1_release 34 = .ok (.aload_n 0, 1) := by decide +kernel
theorem dX1_release_35 : decode cX1_release 35 = .ok (.getfield 19, 3) := by decide +kernel
theorem dX1_release_38 : decode cX1_release 38 = .ok (.dup, 1) := by decide +kernel
theorem dX1_release_39 : decode cX1_release 39 = .ok (.getfield 23, 3) := by decide +kernel
theorem dX1_release_42 : decode cX1_release 42 = .ok (.lload_n 2, 1) := by decide +kernel
theorem dX1_release_43 : decode cX1_release 43 = .ok (.lsub, 1) := by decide +kernel
theorem dX1_release_44 : decode cX1_release 44 = .ok (.putfield 23, 3) := by decide +kernel
theorem dX1_release_47 : decode cX1_release 47 = .ok (.lload_n 2, 1) := by decide +kernel
theorem dX1_release_48 : decode cX1_release 48 = .ok (.lreturn, 1) := by decide +kernel
theorem dX2_init_0 : decode cX2_init 0 = .ok (.aload_n 0, 1) := by decide +kernel
theorem dX2_init_1 : decode cX2_init 1 = .ok (.invokespecial 3, 3) := by decide +kernel
theorem dX2_init_4 : decode cX2_init 4 = .ok (.aload_n 0, 1) := by decide +kernel
theorem dX2_init_5 : decode cX2_init 5 = .ok (.aload_n 1, 1) := by decide +kernel
theorem dX2_init_6 : decode cX2_init 6 = .ok (.putfield 9, 3) := by decide +kernel
theorem dX2_init_9 : decode cX2_init 9 = .ok (.aload_n 0, 1) := by decide +kernel
theorem dX2_init_10 : decode cX2_init 10 = .ok (.iload_n 2, 1) := by decide +kernel
theorem dX2_init_11 : decode cX2_init 11 = .ok (.putfield 15, 3) := by decide +kernel
theorem dX2_init_14 : decode cX2_init 14 = .ok (.aload_n 0, 1) := by decide +kernel
theorem dX2_init_15 : decode cX2_init 15 = .ok (.iload_n 3, 1) := by decide +kernel
theorem dX2_init_16 : decode cX2_init 16 = .ok (.putfield 19, 3) := by decide +kernel
theorem dX2_init_19 : decode cX2_init 19 = .ok (.aload_n 0, 1) := by decide +kernel
theorem dX2_init_20 : decode cX2_init 20 = .ok (.new 22, 3) := by decide +kernel
theorem dX2_init_23 : decode cX2_init 23 = .ok (.dup, 1) := by decide +kernel
theorem dX2_init_24 : decode cX2_init 24 = .ok (.invokespecial 24, 3) := by decide +kernel
theorem dX2_init_27 : decode cX2_init 27 = .ok (.putfield 25, 3) := by decide +kernel
theorem dX2_init_30 : decode cX2_init 30 = .ok (.aload_n 0, 1) := by decide +kernel
theorem dX2_init_31 : decode cX2_init 31 = .ok (.iconst 0, 1) := by decide +kernel
theorem dX2_init_32 : decode cX2_init 32 = .ok (.putfield 29, 3) := by decide +kernel
theorem dX2_init_35 : decode cX2_init 35 = .ok (.aload_n 0, 1) := by decide +kernel
theorem dX2_init_36 : decode cX2_init 36 = .ok (.ldc2_w 32, 3) := by decide +kernel
theorem dX2_init_39 : decode cX2_init 39 = .ok (.putfield 34, 3) := by decide +kernel
theorem dX2_init_42 : decode cX2_init 42 = .ok (.return_, 1) := by decide +kernel
theorem dX2_isInForce_0 : decode cX2_isInForce 0 = .ok (.aload_n 0, 1) := by decide +kernel
theorem dX2_isInForce_1 : decode cX2_isInForce 1 = .ok (.getfield 29, 3) := by decide +kernel
theorem dX2_isInForce_4 : decode cX2_isInForce 4 = .ok (.ifCond .ne 7, 3) := by decide +kernel
theorem dX2_isInForce_7 : decode cX2_isInForce 7 = .ok (.iconst 1, 1) := by decide +kernel
theorem dX2_isInForce_8 : decode cX2_isInForce 8 = .ok (.goto 4, 3) := by decide +kernel
theorem dX2_isInForce_11 : decode cX2_isInForce 11 = .ok (.iconst 0, 1) := by decide +kernel
theorem dX2_isInForce_12 : decode cX2_isInForce 12 = .ok (.ireturn, 1) := by decide +kernel
theorem dX2_guaranteed_0 : decode cX2_guaranteed 0 = .ok (.aload_n 0, 1) := by decide +kernel
theorem dX2_guaranteed_1 : decode cX2_guaranteed 1 = .ok (.getfield 19, 3) := by decide +kernel
theorem dX2_guaranteed_4 : decode cX2_guaranteed 4 = .ok (.i2l, 1) := by decide +kernel
theorem dX2_guaranteed_5 : decode cX2_guaranteed 5 = .ok (.aload_n 0, 1) := by decide +kernel
theorem dX2_guaranteed_6 : decode cX2_guaranteed 6 = .ok (.getfield 38, 3) := by decide +kernel
theorem dX2_guaranteed_9 : decode cX2_guaranteed 9 = .ok (.ladd, 1) := by decide +kernel
theorem dX2_guaranteed_10 : decode cX2_guaranteed 10 = .ok (.lreturn, 1) := by decide +kernel
theorem dX2_assetShare_0 : decode cX2_assetShare 0 = .ok (.aload_n 0, 1) := by decide +kernel
theorem dX2_assetShare_1 : decode cX2_assetShare 1 = .ok (.invokevirtual 41, 3) := by decide +kernel
theorem dX2_assetShare_4 : decode cX2_assetShare 4 = .ok (.ifCond .eq 17, 3) := by decide +kernel
theorem dX2_assetShare_7 : decode cX2_assetShare 7 = .ok (.aload_n 0, 1) := by decide +kernel
theorem dX2_assetShare_8 : decode cX2_assetShare 8 = .ok (.getfield 9, 3) := by decide +kernel
theorem dX2_assetShare_11 : decode cX2_assetShare 11 = .ok (.aload_n 0, 1) := by decide +kernel
theorem dX2_assetShare_12 : decode cX2_assetShare 12 = .ok (.getfield 15, 3) := by decide +kernel
theorem dX2_assetShare_15 : decode cX2_assetShare 15 = .ok (.invokevirtual 45, 3) := by decide +kernel
theorem dX2_assetShare_18 : decode cX2_assetShare 18 = .ok (.goto 4, 3) := by decide +kernel
theorem dX2_assetShare_21 : decode cX2_assetShare 21 = .ok (.lconst 0, 1) := by decide +kernel
theorem dX2_assetShare_22 : decode cX2_assetShare 22 = .ok (.lreturn, 1) := by decide +kernel
theorem dX3_init_0 : decode cX3_init 0 = .ok (.aload_n 0, 1) := by decide +kernel
theorem dX3_init_1 : decode cX3_init 1 = .ok (.invokespecial 1, 3) := by decide +kernel
theorem dX3_init_4 : decode cX3_init 4 = .ok (.aload_n 0, 1) := by decide +kernel
theorem dX3_init_5 : decode cX3_init 5 = .ok (.bipush 30, 2) := by decide +kernel
theorem dX3_init_7 : decode cX3_init 7 = .ok (.anewarray 9, 3) := by decide +kernel
theorem dX3_init_10 : decode cX3_init 10 = .ok (.putfield 11, 3) := by decide +kernel
theorem dX3_init_13 : decode cX3_init 13 = .ok (.aload_n 0, 1) := by decide +kernel
theorem dX3_init_14 : decode cX3_init 14 = .ok (.bipush 30, 2) := by decide +kernel
theorem dX3_init_16 : decode cX3_init 16 = .ok (.anewarray 15, 3) := by decide +kernel
theorem dX3_init_19 : decode cX3_init 19 = .ok (.putfield 17, 3) := by decide +kernel
theorem dX3_init_22 : decode cX3_init 22 = .ok (.aload_n 0, 1) := by decide +kernel
theorem dX3_init_23 : decode cX3_init 23 = .ok (.bipush 21, 2) := by decide +kernel
theorem dX3_init_25 : decode cX3_init 25 = .ok (.newarray .long, 2) := by decide +kernel
theorem dX3_init_27 : decode cX3_init 27 = .ok (.putfield 21, 3) := by decide +kernel
theorem dX3_init_30 : decode cX3_init 30 = .ok (.aload_n 0, 1) := by decide +kernel
theorem dX3_init_31 : decode cX3_init 31 = .ok (.bipush 21, 2) := by decide +kernel
theorem dX3_init_33 : decode cX3_init 33 = .ok (.newarray .long, 2) := by decide +kernel
theorem dX3_init_35 : decode cX3_init 35 = .ok (.putfield 25, 3) := by decide +kernel
theorem dX3_init_38 : decode cX3_init 38 = .ok (.iconst 0, 1) := by decide +kernel
theorem dX3_init_39 : decode cX3_init 39 = .ok (.istore_n 1, 1) := by decide +kernel
theorem dX3_init_40 : decode cX3_init 40 = .ok (.iload_n 1, 1) := by decide +kernel
theorem dX3_init_41 : decode cX3_init 41 = .ok (.aload_n 0, 1) := by decide +kernel
theorem dX3_init_42 : decode cX3_init 42 = .ok (.getfield 21, 3) := by decide +kernel
theorem dX3_init_45 : decode cX3_init 45 = .ok (.arraylength, 1) := by decide +kernel
theorem dX3_init_46 : decode cX3_init 46 = .ok (.if_icmp .ge 18, 3) := by decide +kernel
theorem dX3_init_49 : decode cX3_init 49 = .ok (.aload_n 0, 1) := by decide +kernel
theorem dX3_init_50 : decode cX3_init 50 = .ok (.getfield 21, 3) := by decide +kernel
theorem dX3_init_53 : decode cX3_init 53 = .ok (.iload_n 1, 1) := by decide +kernel
theorem dX3_init_54 : decode cX3_init 54 = .ok (.ldc2_w 28, 3) := by decide +kernel
theorem dX3_init_57 : decode cX3_init 57 = .ok (.lastore, 1) := by decide +kernel
theorem dX3_init_58 : decode cX3_init 58 = .ok (.iinc 1 1, 3) := by decide +kernel
theorem dX3_init_61 : decode cX3_init 61 = .ok (.goto (-21), 3) := by decide +kernel
theorem dX3_init_64 : decode cX3_init 64 = .ok (.aload_n 0, 1) := by decide +kernel
theorem dX3_init_65 : decode cX3_init 65 = .ok (.bipush 20, 2) := by decide +kernel
theorem dX3_init_67 : decode cX3_init 67 = .ok (.putfield 30, 3) := by decide +kernel
theorem dX3_init_70 : decode cX3_init 70 = .ok (.aload_n 0, 1) := by decide +kernel
theorem dX3_init_71 : decode cX3_init 71 = .ok (.iconst 5, 1) := by decide +kernel
theorem dX3_init_72 : decode cX3_init 72 = .ok (.putfield 34, 3) := by decide +kernel
theorem dX3_init_75 : decode cX3_init 75 = .ok (.aload_n 0, 1) := by decide +kernel
theorem dX3_init_76 : decode cX3_init 76 = .ok (.sipush 1000, 3) := by decide +kernel
theorem dX3_init_79 : decode cX3_init 79 = .ok (.putfield 37, 3) := by decide +kernel
theorem dX3_init_82 : decode cX3_init 82 = .ok (.aload_n 0, 1) := by decide +kernel
theorem dX3_init_83 : decode cX3_init 83 = .ok (.bipush 100, 2) := by decide +kernel
theorem dX3_init_85 : decode cX3_init 85 = .ok (.putfield 40, 3) := by decide +kernel
theorem dX3_init_88 : decode cX3_init 88 = .ok (.aload_n 0, 1) := by decide +kernel
theorem dX3_init_89 : decode cX3_init 89 = .ok (.sipush 500, 3) := by decide +kernel
theorem dX3_init_92 : decode cX3_init 92 = .ok (.putfield 43, 3) := by decide +kernel
theorem dX3_init_95 : decode cX3_init 95 = .ok (.return_, 1) := by decide +kernel
theorem dX3_begin_0 : decode cX3_begin 0 = .ok (.iload_n 1, 1) := by decide +kernel
theorem dX3_begin_1 : decode cX3_begin 1 = .ok (.invokestatic 46, 3) := by decide +kernel
theorem dX3_begin_4 : decode cX3_begin 4 = .ok (.ifCond .eq 24, 3) := by decide +kernel
theorem dX3_begin_7 : decode cX3_begin 7 = .ok (.iload_n 2, 1) := by decide +kernel
theorem dX3_begin_8 : decode cX3_begin 8 = .ok (.iconst 1, 1) := by decide +kernel
theorem dX3_begin_9 : decode cX3_begin 9 = .ok (.sipush 1000, 3) := by decide +kernel
theorem dX3_begin_12 : decode cX3_begin 12 = .ok (.invokestatic 50, 3) := by decide +kernel
theorem dX3_begin_15 : decode cX3_begin 15 = .ok (.ifCond .eq 13, 3) := by decide +kernel
theorem dX3_begin_18 : decode cX3_begin 18 = .ok (.iload_n 3, 1) := by decide +kernel
theorem dX3_begin_19 : decode cX3_begin 19 = .ok (.iconst 0, 1) := by decide +kernel
theorem dX3_begin_20 : decode cX3_begin 20 = .ok (.ldc 54, 2) := by decide +kernel
theorem dX3_begin_22 : decode cX3_begin 22 = .ok (.invokestatic 50, 3) := by decide +kernel
theorem dX3_begin_25 : decode cX3_begin 25 = .ok (.ifCond .ne 13, 3) := by decide +kernel
theorem dX3_begin_28 : decode cX3_begin 28 = .ok (.new 55, 3) := by decide +kernel
theorem dX3_begin_31 : decode cX3_begin 31 = .ok (.dup, 1) := by decide +kernel
theorem dX3_begin_32 : decode cX3_begin 32 = .ok (.ldc 57, 2) := by decide +kernel
theorem dX3_begin_34 : decode cX3_begin 34 = .ok (.invokespecial 59, 3) := by decide +kernel
theorem dX3_begin_37 : decode cX3_begin 37 = .ok (.athrow, 1) := by decide +kernel
theorem dX3_begin_38 : decode cX3_begin 38 = .ok (.aload_n 0, 1) := by decide +kernel
theorem dX3_begin_39 : decode cX3_begin 39 = .ok (.getfield 62, 3) := by decide +kernel
theorem dX3_begin_42 : decode cX3_begin 42 = .ok (.istore 4, 2) := by decide +kernel
theorem dX3_begin_44 : decode cX3_begin 44 = .ok (.iload 4, 2) := by decide +kernel
theorem dX3_begin_46 : decode cX3_begin 46 = .ok (.ifCond .lt 13, 3) := by decide +kernel
theorem dX3_begin_49 : decode cX3_begin 49 = .ok (.iload 4, 2) := by decide +kernel
theorem dX3_begin_51 : decode cX3_begin 51 = .ok (.aload_n 0, 1) := by decide +kernel
theorem dX3_begin_52 : decode cX3_begin 52 = .ok (.getfield 11, 3) := by decide +kernel
theorem dX3_begin_55 : decode cX3_begin 55 = .ok (.arraylength, 1) := by decide +kernel
theorem dX3_begin_56 : decode cX3_begin 56 = .ok (.if_icmp .lt 13, 3) := by decide +kernel
theorem dX3_begin_59 : decode cX3_begin 59 = .ok (.new 65, 3) := by decide +kernel
theorem dX3_begin_62 : decode cX3_begin 62 = .ok (.dup, 1) := by decide +kernel
theorem dX3_begin_63 : decode cX3_begin 63 = .ok (.ldc 67, 2) := by decide +kernel
theorem dX3_begin_65 : decode cX3_begin 65 = .ok (.invokespecial 69, 3) := by decide +kernel
theorem dX3_begin_68 : decode cX3_begin 68 = .ok (.athrow, 1) := by decide +kernel
theorem dX3_begin_69 : decode cX3_begin 69 = .ok (.aload_n 0, 1) := by decide +kernel
theorem dX3_begin_70 : decode cX3_begin 70 = .ok (.getfield 11, 3) := by decide +kernel
theorem dX3_begin_73 : decode cX3_begin 73 = .ok (.iload 4, 2) := by decide +kernel
theorem dX3_begin_75 : decode cX3_begin 75 = .ok (.new 9, 3) := by decide +kernel
theorem dX3_begin_78 : decode cX3_begin 78 = .ok (.dup, 1) := by decide +kernel
theorem dX3_begin_79 : decode cX3_begin 79 = .ok (.aload_n 0, 1) := by decide +kernel
theorem dX3_begin_80 : decode cX3_begin 80 = .ok (.iload_n 1, 1) := by decide +kernel
theorem dX3_begin_81 : decode cX3_begin 81 = .ok (.iload_n 2, 1) := by decide +kernel
theorem dX3_begin_82 : decode cX3_begin 82 = .ok (.invokevirtual 70, 3) := by decide +kernel
theorem dX3_begin_85 : decode cX3_begin 85 = .ok (.iload_n 2, 1) := by decide +kernel
theorem dX3_begin_86 : decode cX3_begin 86 = .ok (.iload_n 3, 1) := by decide +kernel
theorem dX3_begin_87 : decode cX3_begin 87 = .ok (.invokespecial 74, 3) := by decide +kernel
theorem dX3_begin_90 : decode cX3_begin 90 = .ok (.aastore, 1) := by decide +kernel
theorem dX3_begin_91 : decode cX3_begin 91 = .ok (.aload_n 0, 1) := by decide +kernel
theorem dX3_begin_92 : decode cX3_begin 92 = .ok (.iload 4, 2) := by decide +kernel
theorem dX3_begin_94 : decode cX3_begin 94 = .ok (.iconst 1, 1) := by decide +kernel
theorem dX3_begin_95 : decode cX3_begin 95 = .ok (.iadd, 1) := by decide +kernel
theorem dX3_begin_96 : decode cX3_begin 96 = .ok (.putfield 62, 3) := by decide +kernel
theorem dX3_begin_99 : decode cX3_begin 99 = .ok (.iload 4, 2) := by decide +kernel
theorem dX3_begin_101 : decode cX3_begin 101 = .ok (.ireturn, 1) := by decide +kernel
theorem dX3_surrender_0 : decode cX3_surrender 0 = .ok (.aload_n 0, 1) := by decide +kernel
theorem dX3_surrender_1 : decode cX3_surrender 1 = .ok (.iload_n 1, 1) := by decide +kernel
theorem dX3_surrender_2 : decode cX3_surrender 2 = .ok (.invokevirtual 77, 3) := by decide +kernel
theorem dX3_surrender_5 : decode cX3_surrender 5 = .ok (.astore_n 2, 1) := by decide +kernel
theorem dX3_surrender_6 : decode cX3_surrender 6 = .ok (.aload_n 0, 1) := by decide +kernel
theorem dX3_surrender_7 : decode cX3_surrender 7 = .ok (.aload_n 2, 1) := by decide +kernel
theorem dX3_surrender_8 : decode cX3_surrender 8 = .ok (.invokevirtual 81, 3) := by decide +kernel
theorem dX3_surrender_11 : decode cX3_surrender 11 = .ok (.aload_n 0, 1) := by decide +kernel
theorem dX3_surrender_12 : decode cX3_surrender 12 = .ok (.aload_n 2, 1) := by decide +kernel
theorem dX3_surrender_13 : decode cX3_surrender 13 = .ok (.invokevirtual 85, 3) := by decide +kernel
theorem dX3_surrender_16 : decode cX3_surrender 16 = .ok (.lstore_n 3, 1) := by decide +kernel
theorem dX3_surrender_17 : decode cX3_surrender 17 = .ok (.aload_n 0, 1) := by decide +kernel
theorem dX3_surrender_18 : decode cX3_surrender 18 = .ok (.aload_n 2, 1) := by decide +kernel
theorem dX3_surrender_19 : decode cX3_surrender 19 = .ok (.iconst 2, 1) := by decide +kernel
theorem dX3_surrender_20 : decode cX3_surrender 20 = .ok (.lload_n 3, 1) := by decide +kernel
theorem dX3_surrender_21 : decode cX3_surrender 21 = .ok (.invokevirtual 89, 3) := by decide +kernel
theorem dX3_surrender_24 : decode cX3_surrender 24 = .ok (.lload_n 3, 1) := by decide +kernel
theorem dX3_surrender_25 : decode cX3_surrender 25 = .ok (.l2i, 1) := by decide +kernel
theorem dX3_surrender_26 : decode cX3_surrender 26 = .ok (.ireturn, 1) := by decide +kernel
theorem dX3_setRates_0 : decode cX3_setRates 0 = .ok (.iload_n 1, 1) := by decide +kernel
theorem dX3_setRates_1 : decode cX3_setRates 1 = .ok (.iconst 0, 1) := by decide +kernel
theorem dX3_setRates_2 : decode cX3_setRates 2 = .ok (.sipush 200, 3) := by decide +kernel
theorem dX3_setRates_5 : decode cX3_setRates 5 = .ok (.invokestatic 50, 3) := by decide +kernel
theorem dX3_setRates_8 : decode cX3_setRates 8 = .ok (.ifCond .eq 13, 3) := by decide +kernel
theorem dX3_setRates_11 : decode cX3_setRates 11 = .ok (.iload_n 2, 1) := by decide +kernel
theorem dX3_setRates_12 : decode cX3_setRates 12 = .ok (.iconst 0, 1) := by decide +kernel
theorem dX3_setRates_13 : decode cX3_setRates 13 = .ok (.bipush 100, 2) := by decide +kernel
theorem dX3_setRates_15 : decode cX3_setRates 15 = .ok (.invokestatic 50, 3) := by decide +kernel
theorem dX3_setRates_18 : decode cX3_setRates 18 = .ok (.ifCond .ne 13, 3) := by decide +kernel
theorem dX3_setRates_21 : decode cX3_setRates 21 = .ok (.new 55, 3) := by decide +kernel
theorem dX3_setRates_24 : decode cX3_setRates 24 = .ok (.dup, 1) := by decide +kernel
theorem dX3_setRates_25 : decode cX3_setRates 25 = .ok (.ldc 93, 2) := by decide +kernel
theorem dX3_setRates_27 : decode cX3_setRates 27 = .ok (.invokespecial 59, 3) := by decide +kernel
theorem dX3_setRates_30 : decode cX3_setRates 30 = .ok (.athrow, 1) := by decide +kernel
theorem dX3_setRates_31 : decode cX3_setRates 31 = .ok (.aload_n 0, 1) := by decide +kernel
theorem dX3_setRates_32 : decode cX3_setRates 32 = .ok (.getfield 30, 3) := by decide +kernel
theorem dX3_setRates_35 : decode cX3_setRates 35 = .ok (.istore_n 3, 1) := by decide +kernel
theorem dX3_setRates_36 : decode cX3_setRates 36 = .ok (.aload_n 0, 1) := by decide +kernel
theorem dX3_setRates_37 : decode cX3_setRates 37 = .ok (.iload_n 1, 1) := by decide +kernel
theorem dX3_setRates_38 : decode cX3_setRates 38 = .ok (.putfield 30, 3) := by decide +kernel
theorem dX3_setRates_41 : decode cX3_setRates 41 = .ok (.aload_n 0, 1) := by decide +kernel
theorem dX3_setRates_42 : decode cX3_setRates 42 = .ok (.iload_n 2, 1) := by decide +kernel
theorem dX3_setRates_43 : decode cX3_setRates 43 = .ok (.putfield 34, 3) := by decide +kernel
theorem dX3_setRates_46 : decode cX3_setRates 46 = .ok (.iload_n 3, 1) := by decide +kernel
theorem dX3_setRates_47 : decode cX3_setRates 47 = .ok (.ireturn, 1) := by decide +kernel
theorem dX3_setScale_0 : decode cX3_setScale 0 = .ok (.iload_n 1, 1) := by decide +kernel
theorem dX3_setScale_1 : decode cX3_setScale 1 = .ok (.sipush 500, 3) := by decide +kernel
theorem dX3_setScale_4 : decode cX3_setScale 4 = .ok (.sipush 1500, 3) := by decide +kernel
theorem dX3_setScale_7 : decode cX3_setScale 7 = .ok (.invokestatic 50, 3) := by decide +kernel
theorem dX3_setScale_10 : decode cX3_setScale 10 = .ok (.ifCond .eq 25, 3) := by decide +kernel
theorem dX3_setScale_13 : decode cX3_setScale 13 = .ok (.iload_n 2, 1) := by decide +kernel
theorem dX3_setScale_14 : decode cX3_setScale 14 = .ok (.iconst 0, 1) := by decide +kernel
theorem dX3_setScale_15 : decode cX3_setScale 15 = .ok (.sipush 1000, 3) := by decide +kernel
theorem dX3_setScale_18 : decode cX3_setScale 18 = .ok (.invokestatic 50, 3) := by decide +kernel
theorem dX3_setScale_21 : decode cX3_setScale 21 = .ok (.ifCond .eq 14, 3) := by decide +kernel
theorem dX3_setScale_24 : decode cX3_setScale 24 = .ok (.iload_n 3, 1) := by decide +kernel
theorem dX3_setScale_25 : decode cX3_setScale 25 = .ok (.iconst 0, 1) := by decide +kernel
theorem dX3_setScale_26 : decode cX3_setScale 26 = .ok (.sipush 1000, 3) := by decide +kernel
theorem dX3_setScale_29 : decode cX3_setScale 29 = .ok (.invokestatic 50, 3) := by decide +kernel
theorem dX3_setScale_32 : decode cX3_setScale 32 = .ok (.ifCond .ne 13, 3) := by decide +kernel
theorem dX3_setScale_35 : decode cX3_setScale 35 = .ok (.new 55, 3) := by decide +kernel
theorem dX3_setScale_38 : decode cX3_setScale 38 = .ok (.dup, 1) := by decide +kernel
theorem dX3_setScale_39 : decode cX3_setScale 39 = .ok (.ldc 95, 2) := by decide +kernel
theorem dX3_setScale_41 : decode cX3_setScale 41 = .ok (.invokespecial 59, 3) := by decide +kernel
theorem dX3_setScale_44 : decode cX3_setScale 44 = .ok (.athrow, 1) := by decide +kernel
theorem dX3_setScale_45 : decode cX3_setScale 45 = .ok (.aload_n 0, 1) := by decide +kernel
theorem dX3_setScale_46 : decode cX3_setScale 46 = .ok (.getfield 37, 3) := by decide +kernel
theorem dX3_setScale_49 : decode cX3_setScale 49 = .ok (.istore 4, 2) := by decide +kernel
theorem dX3_setScale_51 : decode cX3_setScale 51 = .ok (.aload_n 0, 1) := by decide +kernel
theorem dX3_setScale_52 : decode cX3_setScale 52 = .ok (.iload_n 1, 1) := by decide +kernel
theorem dX3_setScale_53 : decode cX3_setScale 53 = .ok (.putfield 37, 3) := by decide +kernel
theorem dX3_setScale_56 : decode cX3_setScale 56 = .ok (.aload_n 0, 1) := by decide +kernel
theorem dX3_setScale_57 : decode cX3_setScale 57 = .ok (.iload_n 2, 1) := by decide +kernel
theorem dX3_setScale_58 : decode cX3_setScale 58 = .ok (.putfield 40, 3) := by decide +kernel
theorem dX3_setScale_61 : decode cX3_setScale 61 = .ok (.aload_n 0, 1) := by decide +kernel
theorem dX3_setScale_62 : decode cX3_setScale 62 = .ok (.iload_n 3, 1) := by decide +kernel
theorem dX3_setScale_63 : decode cX3_setScale 63 = .ok (.putfield 43, 3) := by decide +kernel
theorem dX3_setScale_66 : decode cX3_setScale 66 = .ok (.iload 4, 2) := by decide +kernel
theorem dX3_setScale_68 : decode cX3_setScale 68 = .ok (.ireturn, 1) := by decide +kernel
theorem dX3_endow_0 : decode cX3_endow 0 = .ok (.iload_n 1, 1) := by decide +kernel
theorem dX3_endow_1 : decode cX3_endow 1 = .ok (.ldc 97, 2) := by decide +kernel
theorem dX3_endow_3 : decode cX3_endow 3 = .ok (.ldc 98, 2) := by decide +kernel
theorem dX3_endow_5 : decode cX3_endow 5 = .ok (.invokestatic 50, 3) := by decide +kernel
theorem dX3_endow_8 : decode cX3_endow 8 = .ok (.ifCond .ne 13, 3) := by decide +kernel
theorem dX3_endow_11 : decode cX3_endow 11 = .ok (.new 55, 3) := by decide +kernel
theorem dX3_endow_14 : decode cX3_endow 14 = .ok (.dup, 1) := by decide +kernel
theorem dX3_endow_15 : decode cX3_endow 15 = .ok (.ldc 99, 2) := by decide +kernel
theorem dX3_endow_17 : decode cX3_endow 17 = .ok (.invokespecial 59, 3) := by decide +kernel
theorem dX3_endow_20 : decode cX3_endow 20 = .ok (.athrow, 1) := by decide +kernel
theorem dX3_endow_21 : decode cX3_endow 21 = .ok (.aload_n 0, 1) := by decide +kernel
theorem dX3_endow_22 : decode cX3_endow 22 = .ok (.dup, 1) := by decide +kernel
theorem dX3_endow_23 : decode cX3_endow 23 = .ok (.getfield 101, 3) := by decide +kernel
theorem dX3_endow_26 : decode cX3_endow 26 = .ok (.iload_n 1, 1) := by decide +kernel
theorem dX3_endow_27 : decode cX3_endow 27 = .ok (.i2l, 1) := by decide +kernel
theorem dX3_endow_28 : decode cX3_endow 28 = .ok (.ladd, 1) := by decide +kernel
theorem dX3_endow_29 : decode cX3_endow 29 = .ok (.putfield 101, 3) := by decide +kernel
theorem dX3_endow_32 : decode cX3_endow 32 = .ok (.aload_n 0, 1) := by decide +kernel
theorem dX3_endow_33 : decode cX3_endow 33 = .ok (.dup, 1) := by decide +kernel
theorem dX3_endow_34 : decode cX3_endow 34 = .ok (.getfield 105, 3) := by decide +kernel
theorem dX3_endow_37 : decode cX3_endow 37 = .ok (.iload_n 1, 1) := by decide +kernel
theorem dX3_endow_38 : decode cX3_endow 38 = .ok (.i2l, 1) := by decide +kernel
theorem dX3_endow_39 : decode cX3_endow 39 = .ok (.ladd, 1) := by decide +kernel
theorem dX3_endow_40 : decode cX3_endow 40 = .ok (.putfield 105, 3) := by decide +kernel
theorem dX3_endow_43 : decode cX3_endow 43 = .ok (.aload_n 0, 1) := by decide +kernel
theorem dX3_endow_44 : decode cX3_endow 44 = .ok (.getfield 101, 3) := by decide +kernel
theorem dX3_endow_47 : decode cX3_endow 47 = .ok (.lreturn, 1) := by decide +kernel
theorem dX3_run_0 : decode cX3_run 0 = .ok (.iload_n 1, 1) := by decide +kernel
theorem dX3_run_1 : decode cX3_run 1 = .ok (.sipush (-200), 3) := by decide +kernel
theorem dX3_run_4 : decode cX3_run 4 = .ok (.sipush 200, 3) := by decide +kernel
theorem dX3_run_7 : decode cX3_run 7 = .ok (.invokestatic 50, 3) := by decide +kernel
theorem dX3_run_10 : decode cX3_run 10 = .ok (.ifCond .ne 13, 3) := by decide +kernel
theorem dX3_run_13 : decode cX3_run 13 = .ok (.new 55, 3) := by decide +kernel
theorem dX3_run_16 : decode cX3_run 16 = .ok (.dup, 1) := by decide +kernel
theorem dX3_run_17 : decode cX3_run 17 = .ok (.ldc 108, 2) := by decide +kernel
theorem dX3_run_19 : decode cX3_run 19 = .ok (.invokespecial 59, 3) := by decide +kernel
theorem dX3_run_22 : decode cX3_run 22 = .ok (.athrow, 1) := by decide +kernel
theorem dX3_run_23 : decode cX3_run 23 = .ok (.aload_n 0, 1) := by decide +kernel
theorem dX3_run_24 : decode cX3_run 24 = .ok (.getfield 110, 3) := by decide +kernel
theorem dX3_run_27 : decode cX3_run 27 = .ok (.bipush 40, 2) := by decide +kernel
theorem dX3_run_29 : decode cX3_run 29 = .ok (.if_icmp .lt 13, 3) := by decide +kernel
theorem dX3_run_32 : decode cX3_run 32 = .ok (.new 65, 3) := by decide +kernel
theorem dX3_run_35 : decode cX3_run 35 = .ok (.dup, 1) := by decide +kernel
theorem dX3_run_36 : decode cX3_run 36 = .ok (.ldc 113, 2) := by decide +kernel
theorem dX3_run_38 : decode cX3_run 38 = .ok (.invokespecial 69, 3) := by decide +kernel
theorem dX3_run_41 : decode cX3_run 41 = .ok (.athrow, 1) := by decide +kernel
theorem dX3_run_42 : decode cX3_run 42 = .ok (.aload_n 0, 1) := by decide +kernel
theorem dX3_run_43 : decode cX3_run 43 = .ok (.getfield 101, 3) := by decide +kernel
theorem dX3_run_46 : decode cX3_run 46 = .ok (.iload_n 1, 1) := by decide +kernel
theorem dX3_run_47 : decode cX3_run 47 = .ok (.i2l, 1) := by decide +kernel
theorem dX3_run_48 : decode cX3_run 48 = .ok (.invokestatic 115, 3) := by decide +kernel
theorem dX3_run_51 : decode cX3_run 51 = .ok (.lstore_n 2, 1) := by decide +kernel
theorem dX3_run_52 : decode cX3_run 52 = .ok (.aload_n 0, 1) := by decide +kernel
theorem dX3_run_53 : decode cX3_run 53 = .ok (.iload_n 1, 1) := by decide +kernel
theorem dX3_run_54 : decode cX3_run 54 = .ok (.invokevirtual 119, 3) := by decide +kernel
theorem dX3_run_57 : decode cX3_run 57 = .ok (.aload_n 0, 1) := by decide +kernel
theorem dX3_run_58 : decode cX3_run 58 = .ok (.dup, 1) := by decide +kernel
theorem dX3_run_59 : decode cX3_run 59 = .ok (.getfield 101, 3) := by decide +kernel
theorem dX3_run_62 : decode cX3_run 62 = .ok (.lload_n 2, 1) := by decide +kernel
theorem dX3_run_63 : decode cX3_run 63 = .ok (.ladd, 1) := by decide +kernel
theorem dX3_run_64 : decode cX3_run 64 = .ok (.putfield 101, 3) := by decide +kernel
theorem dX3_run_67 : decode cX3_run 67 = .ok (.aload_n 0, 1) := by decide +kernel
theorem dX3_run_68 : decode cX3_run 68 = .ok (.dup, 1) := by decide +kernel
theorem dX3_run_69 : decode cX3_run 69 = .ok (.getfield 105, 3) := by decide +kernel
theorem dX3_run_72 : decode cX3_run 72 = .ok (.lload_n 2, 1) := by decide +kernel
theorem dX3_run_73 : decode cX3_run 73 = .ok (.ladd, 1) := by decide +kernel
theorem dX3_run_74 : decode cX3_run 74 = .ok (.putfield 105, 3) := by decide +kernel
theorem dX3_run_77 : decode cX3_run 77 = .ok (.aload_n 0, 1) := by decide +kernel
theorem dX3_run_78 : decode cX3_run 78 = .ok (.iload_n 1, 1) := by decide +kernel
theorem dX3_run_79 : decode cX3_run 79 = .ok (.invokevirtual 123, 3) := by decide +kernel
theorem dX3_run_82 : decode cX3_run 82 = .ok (.aload_n 0, 1) := by decide +kernel
theorem dX3_run_83 : decode cX3_run 83 = .ok (.invokevirtual 126, 3) := by decide +kernel
theorem dX3_run_86 : decode cX3_run 86 = .ok (.aload_n 0, 1) := by decide +kernel
theorem dX3_run_87 : decode cX3_run 87 = .ok (.invokevirtual 129, 3) := by decide +kernel
theorem dX3_run_90 : decode cX3_run 90 = .ok (.istore 4, 2) := by decide +kernel
theorem dX3_run_92 : decode cX3_run 92 = .ok (.aload_n 0, 1) := by decide +kernel
theorem dX3_run_93 : decode cX3_run 93 = .ok (.dup, 1) := by decide +kernel
theorem dX3_run_94 : decode cX3_run 94 = .ok (.getfield 110, 3) := by decide +kernel
theorem dX3_run_97 : decode cX3_run 97 = .ok (.iconst 1, 1) := by decide +kernel
theorem dX3_run_98 : decode cX3_run 98 = .ok (.iadd, 1) := by decide +kernel
theorem dX3_run_99 : decode cX3_run 99 = .ok (.putfield 110, 3) := by decide +kernel
theorem dX3_run_102 : decode cX3_run 102 = .ok (.iload 4, 2) := by decide +kernel
theorem dX3_run_104 : decode cX3_run 104 = .ok (.ireturn, 1) := by decide +kernel
theorem dX3_year_0 : decode cX3_year 0 = .ok (.aload_n 0, 1) := by decide +kernel
theorem dX3_year_1 : decode cX3_year 1 = .ok (.getfield 110, 3) := by decide +kernel
theorem dX3_year_4 : decode cX3_year 4 = .ok (.ireturn, 1) := by decide +kernel
theorem dX3_policies_0 : decode cX3_policies 0 = .ok (.aload_n 0, 1) := by decide +kernel
theorem dX3_policies_1 : decode cX3_policies 1 = .ok (.getfield 62, 3) := by decide +kernel
theorem dX3_policies_4 : decode cX3_policies 4 = .ok (.ireturn, 1) := by decide +kernel
theorem dX3_stateOf_0 : decode cX3_stateOf 0 = .ok (.aload_n 0, 1) := by decide +kernel
theorem dX3_stateOf_1 : decode cX3_stateOf 1 = .ok (.iload_n 1, 1) := by decide +kernel
theorem dX3_stateOf_2 : decode cX3_stateOf 2 = .ok (.invokevirtual 77, 3) := by decide +kernel
theorem dX3_stateOf_5 : decode cX3_stateOf 5 = .ok (.getfield 133, 3) := by decide +kernel
theorem dX3_stateOf_8 : decode cX3_stateOf 8 = .ok (.ireturn, 1) := by decide +kernel
theorem dX3_bonuses_0 : decode cX3_bonuses 0 = .ok (.aload_n 0, 1) := by decide +kernel
theorem dX3_bonuses_1 : decode cX3_bonuses 1 = .ok (.iload_n 1, 1) := by decide +kernel
theorem dX3_bonuses_2 : decode cX3_bonuses 2 = .ok (.invokevirtual 77, 3) := by decide +kernel
theorem dX3_bonuses_5 : decode cX3_bonuses 5 = .ok (.getfield 136, 3) := by decide +kernel
theorem dX3_bonuses_8 : decode cX3_bonuses 8 = .ok (.l2i, 1) := by decide +kernel
theorem dX3_bonuses_9 : decode cX3_bonuses 9 = .ok (.ireturn, 1) := by decide +kernel
theorem dX3_shareOf_0 : decode cX3_shareOf 0 = .ok (.aload_n 0, 1) := by decide +kernel
theorem dX3_shareOf_1 : decode cX3_shareOf 1 = .ok (.iload_n 1, 1) := by decide +kernel
theorem dX3_shareOf_2 : decode cX3_shareOf 2 = .ok (.invokevirtual 77, 3) := by decide +kernel
theorem dX3_shareOf_5 : decode cX3_shareOf 5 = .ok (.invokevirtual 139, 3) := by decide +kernel
theorem dX3_shareOf_8 : decode cX3_shareOf 8 = .ok (.l2i, 1) := by decide +kernel
theorem dX3_shareOf_9 : decode cX3_shareOf 9 = .ok (.ireturn, 1) := by decide +kernel
theorem dX3_shareAlone_0 : decode cX3_shareAlone 0 = .ok (.aload_n 0, 1) := by decide +kernel
theorem dX3_shareAlone_1 : decode cX3_shareAlone 1 = .ok (.iload_n 1, 1) := by decide +kernel
theorem dX3_shareAlone_2 : decode cX3_shareAlone 2 = .ok (.invokevirtual 77, 3) := by decide +kernel
theorem dX3_shareAlone_5 : decode cX3_shareAlone 5 = .ok (.astore_n 2, 1) := by decide +kernel
theorem dX3_shareAlone_6 : decode cX3_shareAlone 6 = .ok (.aload_n 2, 1) := by decide +kernel
theorem dX3_shareAlone_7 : decode cX3_shareAlone 7 = .ok (.invokevirtual 143, 3) := by decide +kernel
theorem dX3_shareAlone_10 : decode cX3_shareAlone 10 = .ok (.ifCond .eq 14, 3) := by decide +kernel
theorem dX3_shareAlone_13 : decode cX3_shareAlone 13 = .ok (.aload_n 2, 1) := by decide +kernel
theorem dX3_shareAlone_14 : decode cX3_shareAlone 14 = .ok (.getfield 147, 3) := by decide +kernel
theorem dX3_shareAlone_17 : decode cX3_shareAlone 17 = .ok (.getfield 151, 3) := by decide +kernel
theorem dX3_shareAlone_20 : decode cX3_shareAlone 20 = .ok (.l2i, 1) := by decide +kernel
theorem dX3_shareAlone_21 : decode cX3_shareAlone 21 = .ok (.goto 4, 3) := by decide +kernel
theorem dX3_shareAlone_24 : decode cX3_shareAlone 24 = .ok (.iconst 0, 1) := by decide +kernel
theorem dX3_shareAlone_25 : decode cX3_shareAlone 25 = .ok (.ireturn, 1) := by decide +kernel
theorem dX3_generation_0 : decode cX3_generation 0 = .ok (.iload_n 1, 1) := by decide +kernel
theorem dX3_generation_1 : decode cX3_generation 1 = .ok (.iconst 0, 1) := by decide +kernel
theorem dX3_generation_2 : decode cX3_generation 2 = .ok (.bipush 40, 2) := by decide +kernel
theorem dX3_generation_4 : decode cX3_generation 4 = .ok (.invokestatic 50, 3) := by decide +kernel
theorem dX3_generation_7 : decode cX3_generation 7 = .ok (.ifCond .eq 10, 3) := by decide +kernel
theorem dX3_generation_10 : decode cX3_generation 10 = .ok (.iload_n 2, 1) := by decide +kernel
theorem dX3_generation_11 : decode cX3_generation 11 = .ok (.invokestatic 46, 3) := by decide +kernel
theorem dX3_generation_14 : decode cX3_generation 14 = .ok (.ifCond .ne 13, 3) := by decide +kernel
theorem dX3_generation_17 : decode cX3_generation 17 = .ok (.new 55, 3) := by decide +kernel
theorem dX3_generation_20 : decode cX3_generation 20 = .ok (.dup, 1) := by decide +kernel
theorem dX3_generation_21 : decode cX3_generation 21 = .ok (.ldc 156, 2) := by decide +kernel
theorem dX3_generation_23 : decode cX3_generation 23 = .ok (.invokespecial 59, 3) := by decide +kernel
theorem dX3_generation_26 : decode cX3_generation 26 = .ok (.athrow, 1) := by decide +kernel
theorem dX3_generation_27 : decode cX3_generation 27 = .ok (.aload_n 0, 1) := by decide +kernel
theorem dX3_generation_28 : decode cX3_generation 28 = .ok (.iload_n 1, 1) := by decide +kernel
theorem dX3_generation_29 : decode cX3_generation 29 = .ok (.iload_n 2, 1) := by decide +kernel
theorem dX3_generation_30 : decode cX3_generation 30 = .ok (.invokevirtual 158, 3) := by decide +kernel
theorem dX3_generation_33 : decode cX3_generation 33 = .ok (.astore_n 3, 1) := by decide +kernel
theorem dX3_generation_34 : decode cX3_generation 34 = .ok (.aload_n 3, 1) := by decide +kernel
theorem dX3_generation_35 : decode cX3_generation 35 = .ok (.ifnonnull 7, 3) := by decide +kernel
theorem dX3_generation_38 : decode cX3_generation 38 = .ok (.iconst 0, 1) := by decide +kernel
theorem dX3_generation_39 : decode cX3_generation 39 = .ok (.goto 11, 3) := by decide +kernel
theorem dX3_generation_42 : decode cX3_generation 42 = .ok (.aload_n 3, 1) := by decide +kernel
theorem dX3_generation_43 : decode cX3_generation 43 = .ok (.getfield 161, 3) := by decide +kernel
theorem dX3_generation_46 : decode cX3_generation 46 = .ok (.getfield 151, 3) := by decide +kernel
theorem dX3_generation_49 : decode cX3_generation 49 = .ok (.l2i, 1) := by decide +kernel
theorem dX3_generation_50 : decode cX3_generation 50 = .ok (.ireturn, 1) := by decide +kernel
theorem dX3_paid_0 : decode cX3_paid 0 = .ok (.aload_n 0, 1) := by decide +kernel
theorem dX3_paid_1 : decode cX3_paid 1 = .ok (.iload_n 1, 1) := by decide +kernel
theorem dX3_paid_2 : decode cX3_paid 2 = .ok (.invokevirtual 77, 3) := by decide +kernel
theorem dX3_paid_5 : decode cX3_paid 5 = .ok (.getfield 164, 3) := by decide +kernel
theorem dX3_paid_8 : decode cX3_paid 8 = .ok (.l2i, 1) := by decide +kernel
theorem dX3_paid_9 : decode cX3_paid 9 = .ok (.ireturn, 1) := by decide +kernel
theorem dX3_worth_0 : decode cX3_worth 0 = .ok (.aload_n 0, 1) := by decide +kernel
theorem dX3_worth_1 : decode cX3_worth 1 = .ok (.iload_n 1, 1) := by decide +kernel
theorem dX3_worth_2 : decode cX3_worth 2 = .ok (.invokevirtual 77, 3) := by decide +kernel
theorem dX3_worth_5 : decode cX3_worth 5 = .ok (.astore_n 2, 1) := by decide +kernel
theorem dX3_worth_6 : decode cX3_worth 6 = .ok (.aload_n 0, 1) := by decide +kernel
theorem dX3_worth_7 : decode cX3_worth 7 = .ok (.aload_n 2, 1) := by decide +kernel
theorem dX3_worth_8 : decode cX3_worth 8 = .ok (.invokevirtual 81, 3) := by decide +kernel
theorem dX3_worth_11 : decode cX3_worth 11 = .ok (.aload_n 0, 1) := by decide +kernel
theorem dX3_worth_12 : decode cX3_worth 12 = .ok (.aload_n 2, 1) := by decide +kernel
theorem dX3_worth_13 : decode cX3_worth 13 = .ok (.invokevirtual 85, 3) := by decide +kernel
theorem dX3_worth_16 : decode cX3_worth 16 = .ok (.l2i, 1) := by decide +kernel
theorem dX3_worth_17 : decode cX3_worth 17 = .ok (.ireturn, 1) := by decide +kernel
theorem dX3_lastRatio_0 : decode cX3_lastRatio 0 = .ok (.iload_n 1, 1) := by decide +kernel
theorem dX3_lastRatio_1 : decode cX3_lastRatio 1 = .ok (.invokestatic 46, 3) := by decide +kernel
theorem dX3_lastRatio_4 : decode cX3_lastRatio 4 = .ok (.ifCond .ne 13, 3) := by decide +kernel
theorem dX3_lastRatio_7 : decode cX3_lastRatio 7 = .ok (.new 55, 3) := by decide +kernel
theorem dX3_lastRatio_10 : decode cX3_lastRatio 10 = .ok (.dup, 1) := by decide +kernel
theorem dX3_lastRatio_11 : decode cX3_lastRatio 11 = .ok (.ldc 167, 2) := by decide +kernel
theorem dX3_lastRatio_13 : decode cX3_lastRatio 13 = .ok (.invokespecial 59, 3) := by decide +kernel
theorem dX3_lastRatio_16 : decode cX3_lastRatio 16 = .ok (.athrow, 1) := by decide +kernel
theorem dX3_lastRatio_17 : decode cX3_lastRatio 17 = .ok (.aload_n 0, 1) := by decide +kernel
theorem dX3_lastRatio_18 : decode cX3_lastRatio 18 = .ok (.getfield 21, 3) := by decide +kernel
theorem dX3_lastRatio_21 : decode cX3_lastRatio 21 = .ok (.iload_n 1, 1) := by decide +kernel
theorem dX3_lastRatio_22 : decode cX3_lastRatio 22 = .ok (.invokestatic 169, 3) := by decide +kernel
theorem dX3_lastRatio_25 : decode cX3_lastRatio 25 = .ok (.l2i, 1) := by decide +kernel
theorem dX3_lastRatio_26 : decode cX3_lastRatio 26 = .ok (.ireturn, 1) := by decide +kernel
theorem dX3_estate_0 : decode cX3_estate 0 = .ok (.aload_n 0, 1) := by decide +kernel
theorem dX3_estate_1 : decode cX3_estate 1 = .ok (.getfield 101, 3) := by decide +kernel
theorem dX3_estate_4 : decode cX3_estate 4 = .ok (.lreturn, 1) := by decide +kernel
theorem dX3_sharesAndEstate_0 : decode cX3_sharesAndEstate 0 = .ok (.aload_n 0, 1) := by decide +kernel
theorem dX3_sharesAndEstate_1 : decode cX3_sharesAndEstate 1 = .ok (.getfield 101, 3) := by decide +kernel
theorem dX3_sharesAndEstate_4 : decode cX3_sharesAndEstate 4 = .ok (.lstore_n 1, 1) := by decide +kernel
theorem dX3_sharesAndEstate_5 : decode cX3_sharesAndEstate 5 = .ok (.iconst 0, 1) := by decide +kernel
theorem dX3_sharesAndEstate_6 : decode cX3_sharesAndEstate 6 = .ok (.istore_n 3, 1) := by decide +kernel
theorem dX3_sharesAndEstate_7 : decode cX3_sharesAndEstate 7 = .ok (.iload_n 3, 1) := by decide +kernel
theorem dX3_sharesAndEstate_8 : decode cX3_sharesAndEstate 8 = .ok (.aload_n 0, 1) := by decide +kernel
theorem dX3_sharesAndEstate_9 : decode cX3_sharesAndEstate 9 = .ok (.getfield 17, 3) := by decide +kernel
theorem dX3_sharesAndEstate_12 : decode cX3_sharesAndEstate 12 = .ok (.arraylength, 1) := by decide +kernel
theorem dX3_sharesAndEstate_13 : decode cX3_sharesAndEstate 13 = .ok (.if_icmp .ge 33, 3) := by decide +kernel
theorem dX3_sharesAndEstate_16 : decode cX3_sharesAndEstate 16 = .ok (.aload_n 0, 1) := by decide +kernel
theorem dX3_sharesAndEstate_17 : decode cX3_sharesAndEstate 17 = .ok (.getfield 17, 3) := by decide +kernel
theorem dX3_sharesAndEstate_20 : decode cX3_sharesAndEstate 20 = .ok (.iload_n 3, 1) := by decide +kernel
theorem dX3_sharesAndEstate_21 : decode cX3_sharesAndEstate 21 = .ok (.aaload, 1) := by decide +kernel
theorem dX3_sharesAndEstate_22 : decode cX3_sharesAndEstate 22 = .ok (.astore 4, 2) := by decide +kernel
theorem dX3_sharesAndEstate_24 : decode cX3_sharesAndEstate 24 = .ok (.aload 4, 2) := by decide +kernel
theorem dX3_sharesAndEstate_26 : decode cX3_sharesAndEstate 26 = .ok (.ifnull 14, 3) := by decide +kernel
theorem dX3_sharesAndEstate_29 : decode cX3_sharesAndEstate 29 = .ok (.lload_n 1, 1) := by decide +kernel
theorem dX3_sharesAndEstate_30 : decode cX3_sharesAndEstate 30 = .ok (.aload 4, 2) := by decide +kernel
theorem dX3_sharesAndEstate_32 : decode cX3_sharesAndEstate 32 = .ok (.getfield 161, 3) := by decide +kernel
theorem dX3_sharesAndEstate_35 : decode cX3_sharesAndEstate 35 = .ok (.getfield 151, 3) := by decide +kernel
theorem dX3_sharesAndEstate_38 : decode cX3_sharesAndEstate 38 = .ok (.ladd, 1) := by decide +kernel
theorem dX3_sharesAndEstate_39 : decode cX3_sharesAndEstate 39 = .ok (.lstore_n 1, 1) := by decide +kernel
theorem dX3_sharesAndEstate_40 : decode cX3_sharesAndEstate 40 = .ok (.iinc 3 1, 3) := by decide +kernel
theorem dX3_sharesAndEstate_43 : decode cX3_sharesAndEstate 43 = .ok (.goto (-36), 3) := by decide +kernel
theorem dX3_sharesAndEstate_46 : decode cX3_sharesAndEstate 46 = .ok (.lload_n 1, 1) := by decide +kernel
theorem dX3_sharesAndEstate_47 : decode cX3_sharesAndEstate 47 = .ok (.lreturn, 1) := by decide +kernel
theorem dX3_assets_0 : decode cX3_assets 0 = .ok (.aload_n 0, 1) := by decide +kernel
theorem dX3_assets_1 : decode cX3_assets 1 = .ok (.getfield 105, 3) := by decide +kernel
theorem dX3_assets_4 : decode cX3_assets 4 = .ok (.lreturn, 1) := by decide +kernel
theorem dX3_shortfall_0 : decode cX3_shortfall 0 = .ok (.lconst 0, 1) := by decide +kernel
theorem dX3_shortfall_1 : decode cX3_shortfall 1 = .ok (.lstore_n 1, 1) := by decide +kernel
theorem dX3_shortfall_2 : decode cX3_shortfall 2 = .ok (.iconst 0, 1) := by decide +kernel
theorem dX3_shortfall_3 : decode cX3_shortfall 3 = .ok (.istore_n 3, 1) := by decide +kernel
theorem dX3_shortfall_4 : decode cX3_shortfall 4 = .ok (.iload_n 3, 1) := by decide +kernel
theorem dX3_shortfall_5 : decode cX3_shortfall 5 = .ok (.aload_n 0, 1) := by decide +kernel
theorem dX3_shortfall_6 : decode cX3_shortfall 6 = .ok (.getfield 11, 3) := by decide +kernel
theorem dX3_shortfall_9 : decode cX3_shortfall 9 = .ok (.arraylength, 1) := by decide +kernel
theorem dX3_shortfall_10 : decode cX3_shortfall 10 = .ok (.if_icmp .ge 48, 3) := by decide +kernel
theorem dX3_shortfall_13 : decode cX3_shortfall 13 = .ok (.aload_n 0, 1) := by decide +kernel
theorem dX3_shortfall_14 : decode cX3_shortfall 14 = .ok (.getfield 11, 3) := by decide +kernel
theorem dX3_shortfall_17 : decode cX3_shortfall 17 = .ok (.iload_n 3, 1) := by decide +kernel
theorem dX3_shortfall_18 : decode cX3_shortfall 18 = .ok (.aaload, 1) := by decide +kernel
theorem dX3_shortfall_19 : decode cX3_shortfall 19 = .ok (.astore 4, 2) := by decide +kernel
theorem dX3_shortfall_21 : decode cX3_shortfall 21 = .ok (.aload 4, 2) := by decide +kernel
theorem dX3_shortfall_23 : decode cX3_shortfall 23 = .ok (.ifnull 29, 3) := by decide +kernel
theorem dX3_shortfall_26 : decode cX3_shortfall 26 = .ok (.aload 4, 2) := by decide +kernel
theorem dX3_shortfall_28 : decode cX3_shortfall 28 = .ok (.invokevirtual 143, 3) := by decide +kernel
theorem dX3_shortfall_31 : decode cX3_shortfall 31 = .ok (.ifCond .eq 21, 3) := by decide +kernel
theorem dX3_shortfall_34 : decode cX3_shortfall 34 = .ok (.lload_n 1, 1) := by decide +kernel
theorem dX3_shortfall_35 : decode cX3_shortfall 35 = .ok (.lconst 0, 1) := by decide +kernel
theorem dX3_shortfall_36 : decode cX3_shortfall 36 = .ok (.aload 4, 2) := by decide +kernel
theorem dX3_shortfall_38 : decode cX3_shortfall 38 = .ok (.invokevirtual 173, 3) := by decide +kernel
theorem dX3_shortfall_41 : decode cX3_shortfall 41 = .ok (.aload 4, 2) := by decide +kernel
theorem dX3_shortfall_43 : decode cX3_shortfall 43 = .ok (.invokevirtual 139, 3) := by decide +kernel
theorem dX3_shortfall_46 : decode cX3_shortfall 46 = .ok (.lsub, 1) := by decide +kernel
theorem dX3_shortfall_47 : decode cX3_shortfall 47 = .ok (.invokestatic 176, 3) := by decide +kernel
theorem dX3_shortfall_50 : decode cX3_shortfall 50 = .ok (.ladd, 1) := by decide +kernel
theorem dX3_shortfall_51 : decode cX3_shortfall 51 = .ok (.lstore_n 1, 1) := by decide +kernel
theorem dX3_shortfall_52 : decode cX3_shortfall 52 = .ok (.iinc 3 1, 3) := by decide +kernel
theorem dX3_shortfall_55 : decode cX3_shortfall 55 = .ok (.goto (-51), 3) := by decide +kernel
theorem dX3_shortfall_58 : decode cX3_shortfall 58 = .ok (.lload_n 1, 1) := by decide +kernel
theorem dX3_shortfall_59 : decode cX3_shortfall 59 = .ok (.l2i, 1) := by decide +kernel
theorem dX3_shortfall_60 : decode cX3_shortfall 60 = .ok (.ireturn, 1) := by decide +kernel
theorem dX3_isWithin_0 : decode cX3_isWithin 0 = .ok (.iload_n 0, 1) := by decide +kernel
theorem dX3_isWithin_1 : decode cX3_isWithin 1 = .ok (.iload_n 1, 1) := by decide +kernel
theorem dX3_isWithin_2 : decode cX3_isWithin 2 = .ok (.if_icmp .lt 12, 3) := by decide +kernel
theorem dX3_isWithin_5 : decode cX3_isWithin 5 = .ok (.iload_n 0, 1) := by decide +kernel
theorem dX3_isWithin_6 : decode cX3_isWithin 6 = .ok (.iload_n 2, 1) := by decide +kernel
theorem dX3_isWithin_7 : decode cX3_isWithin 7 = .ok (.if_icmp .gt 7, 3) := by decide +kernel
theorem dX3_isWithin_10 : decode cX3_isWithin 10 = .ok (.iconst 1, 1) := by decide +kernel
theorem dX3_isWithin_11 : decode cX3_isWithin 11 = .ok (.goto 4, 3) := by decide +kernel
theorem dX3_isWithin_14 : decode cX3_isWithin 14 = .ok (.iconst 0, 1) := by decide +kernel
theorem dX3_isWithin_15 : decode cX3_isWithin 15 = .ok (.ireturn, 1) := by decide +kernel
theorem dX3_isTerm_0 : decode cX3_isTerm 0 = .ok (.iload_n 0, 1) := by decide +kernel
theorem dX3_isTerm_1 : decode cX3_isTerm 1 = .ok (.iconst 2, 1) := by decide +kernel
theorem dX3_isTerm_2 : decode cX3_isTerm 2 = .ok (.bipush 20, 2) := by decide +kernel
theorem dX3_isTerm_4 : decode cX3_isTerm 4 = .ok (.invokestatic 50, 3) := by decide +kernel
theorem dX3_isTerm_7 : decode cX3_isTerm 7 = .ok (.ireturn, 1) := by decide +kernel
theorem dX3_knownPolicy_0 : decode cX3_knownPolicy 0 = .ok (.iload_n 1, 1) := by decide +kernel
theorem dX3_knownPolicy_1 : decode cX3_knownPolicy 1 = .ok (.ifCond .lt 12, 3) := by decide +kernel
theorem dX3_knownPolicy_4 : decode cX3_knownPolicy 4 = .ok (.iload_n 1, 1) := by decide +kernel
theorem dX3_knownPolicy_5 : decode cX3_knownPolicy 5 = .ok (.aload_n 0, 1) := by decide +kernel
theorem dX3_knownPolicy_6 : decode cX3_knownPolicy 6 = .ok (.getfield 11, 3) := by decide +kernel
theorem dX3_knownPolicy_9 : decode cX3_knownPolicy 9 = .ok (.arraylength, 1) := by decide +kernel
theorem dX3_knownPolicy_10 : decode cX3_knownPolicy 10 = .ok (.if_icmp .lt 13, 3) := by decide +kernel
theorem dX3_knownPolicy_13 : decode cX3_knownPolicy 13 = .ok (.new 181, 3) := by decide +kernel
theorem dX3_knownPolicy_16 : decode cX3_knownPolicy 16 = .ok (.dup, 1) := by decide +kernel
theorem dX3_knownPolicy_17 : decode cX3_knownPolicy 17 = .ok (.ldc 183, 2) := by decide +kernel
theorem dX3_knownPolicy_19 : decode cX3_knownPolicy 19 = .ok (.invokespecial 185, 3) := by decide +kernel
theorem dX3_knownPolicy_22 : decode cX3_knownPolicy 22 = .ok (.athrow, 1) := by decide +kernel
theorem dX3_knownPolicy_23 : decode cX3_knownPolicy 23 = .ok (.aload_n 0, 1) := by decide +kernel
theorem dX3_knownPolicy_24 : decode cX3_knownPolicy 24 = .ok (.getfield 11, 3) := by decide +kernel
theorem dX3_knownPolicy_27 : decode cX3_knownPolicy 27 = .ok (.iload_n 1, 1) := by decide +kernel
theorem dX3_knownPolicy_28 : decode cX3_knownPolicy 28 = .ok (.aaload, 1) := by decide +kernel
theorem dX3_knownPolicy_29 : decode cX3_knownPolicy 29 = .ok (.astore_n 2, 1) := by decide +kernel
theorem dX3_knownPolicy_30 : decode cX3_knownPolicy 30 = .ok (.aload_n 2, 1) := by decide +kernel
theorem dX3_knownPolicy_31 : decode cX3_knownPolicy 31 = .ok (.ifnonnull 13, 3) := by decide +kernel
theorem dX3_knownPolicy_34 : decode cX3_knownPolicy 34 = .ok (.new 181, 3) := by decide +kernel
theorem dX3_knownPolicy_37 : decode cX3_knownPolicy 37 = .ok (.dup, 1) := by decide +kernel
theorem dX3_knownPolicy_38 : decode cX3_knownPolicy 38 = .ok (.ldc 183, 2) := by decide +kernel
theorem dX3_knownPolicy_40 : decode cX3_knownPolicy 40 = .ok (.invokespecial 185, 3) := by decide +kernel
theorem dX3_knownPolicy_43 : decode cX3_knownPolicy 43 = .ok (.athrow, 1) := by decide +kernel
theorem dX3_knownPolicy_44 : decode cX3_knownPolicy 44 = .ok (.aload_n 2, 1) := by decide +kernel
theorem dX3_knownPolicy_45 : decode cX3_knownPolicy 45 = .ok (.areturn, 1) := by decide +kernel
theorem dX3_checkSurrenderable_0 : decode cX3_checkSurrenderable 0 = .ok (.aload_n 1, 1) := by decide +kernel
theorem dX3_checkSurrenderable_1 : decode cX3_checkSurrenderable 1 = .ok (.invokevirtual 143, 3) := by decide +kernel
theorem dX3_checkSurrenderable_4 : decode cX3_checkSurrenderable 4 = .ok (.ifCond .eq 12, 3) := by decide +kernel
theorem dX3_checkSurrenderable_7 : decode cX3_checkSurrenderable 7 = .ok (.aload_n 0, 1) := by decide +kernel
theorem dX3_checkSurrenderable_8 : decode cX3_checkSurrenderable 8 = .ok (.aload_n 1, 1) := by decide +kernel
theorem dX3_checkSurrenderable_9 : decode cX3_checkSurrenderable 9 = .ok (.invokevirtual 186, 3) := by decide +kernel
theorem dX3_checkSurrenderable_12 : decode cX3_checkSurrenderable 12 = .ok (.iconst 1, 1) := by decide +kernel
theorem dX3_checkSurrenderable_13 : decode cX3_checkSurrenderable 13 = .ok (.if_icmp .ge 13, 3) := by decide +kernel
theorem dX3_checkSurrenderable_16 : decode cX3_checkSurrenderable 16 = .ok (.new 65, 3) := by decide +kernel
theorem dX3_checkSurrenderable_19 : decode cX3_checkSurrenderable 19 = .ok (.dup, 1) := by decide +kernel
theorem dX3_checkSurrenderable_20 : decode cX3_checkSurrenderable 20 = .ok (.ldc 190, 2) := by decide +kernel
theorem dX3_checkSurrenderable_22 : decode cX3_checkSurrenderable 22 = .ok (.invokespecial 69, 3) := by decide +kernel
theorem dX3_checkSurrenderable_25 : decode cX3_checkSurrenderable 25 = .ok (.athrow, 1) := by decide +kernel
theorem dX3_checkSurrenderable_26 : decode cX3_checkSurrenderable 26 = .ok (.return_, 1) := by decide +kernel
theorem dX3_yearsRun_0 : decode cX3_yearsRun 0 = .ok (.aload_n 0, 1) := by decide +kernel
theorem dX3_yearsRun_1 : decode cX3_yearsRun 1 = .ok (.getfield 110, 3) := by decide +kernel
theorem dX3_yearsRun_4 : decode cX3_yearsRun 4 = .ok (.aload_n 1, 1) := by decide +kernel
theorem dX3_yearsRun_5 : decode cX3_yearsRun 5 = .ok (.getfield 192, 3) := by decide +kernel
theorem dX3_yearsRun_8 : decode cX3_yearsRun 8 = .ok (.getfield 196, 3) := by decide +kernel
theorem dX3_yearsRun_11 : decode cX3_yearsRun 11 = .ok (.isub, 1) := by decide +kernel
theorem dX3_yearsRun_12 : decode cX3_yearsRun 12 = .ok (.ireturn, 1) := by decide +kernel
theorem dX3_findGeneration_0 : decode cX3_findGeneration 0 = .ok (.iconst 0, 1) := by decide +kernel
theorem dX3_findGeneration_1 : decode cX3_findGeneration 1 = .ok (.istore_n 3, 1) := by decide +kernel
theorem dX3_findGeneration_2 : decode cX3_findGeneration 2 = .ok (.iload_n 3, 1) := by decide +kernel
theorem dX3_findGeneration_3 : decode cX3_findGeneration 3 = .ok (.aload_n 0, 1) := by decide +kernel
theorem dX3_findGeneration_4 : decode cX3_findGeneration 4 = .ok (.getfield 17, 3) := by decide +kernel
theorem dX3_findGeneration_7 : decode cX3_findGeneration 7 = .ok (.arraylength, 1) := by decide +kernel
theorem dX3_findGeneration_8 : decode cX3_findGeneration 8 = .ok (.if_icmp .ge 43, 3) := by decide +kernel
theorem dX3_findGeneration_11 : decode cX3_findGeneration 11 = .ok (.aload_n 0, 1) := by decide +kernel
theorem dX3_findGeneration_12 : decode cX3_findGeneration 12 = .ok (.getfield 17, 3) := by decide +kernel
theorem dX3_findGeneration_15 : decode cX3_findGeneration 15 = .ok (.iload_n 3, 1) := by decide +kernel
theorem dX3_findGeneration_16 : decode cX3_findGeneration 16 = .ok (.aaload, 1) := by decide +kernel
theorem dX3_findGeneration_17 : decode cX3_findGeneration 17 = .ok (.astore 4, 2) := by decide +kernel
theorem dX3_findGeneration_19 : decode cX3_findGeneration 19 = .ok (.aload 4, 2) := by decide +kernel
theorem dX3_findGeneration_21 : decode cX3_findGeneration 21 = .ok (.ifnull 24, 3) := by decide +kernel
theorem dX3_findGeneration_24 : decode cX3_findGeneration 24 = .ok (.aload 4, 2) := by decide +kernel
theorem dX3_findGeneration_26 : decode cX3_findGeneration 26 = .ok (.getfield 196, 3) := by decide +kernel
theorem dX3_findGeneration_29 : decode cX3_findGeneration 29 = .ok (.iload_n 1, 1) := by decide +kernel
theorem dX3_findGeneration_30 : decode cX3_findGeneration 30 = .ok (.if_icmp .ne 15, 3) := by decide +kernel
theorem dX3_findGeneration_33 : decode cX3_findGeneration 33 = .ok (.aload 4, 2) := by decide +kernel
theorem dX3_findGeneration_35 : decode cX3_findGeneration 35 = .ok (.getfield 199, 3) := by decide +kernel
theorem dX3_findGeneration_38 : decode cX3_findGeneration 38 = .ok (.iload_n 2, 1) := by decide +kernel
theorem dX3_findGeneration_39 : decode cX3_findGeneration 39 = .ok (.if_icmp .ne 6, 3) := by decide +kernel
theorem dX3_findGeneration_42 : decode cX3_findGeneration 42 = .ok (.aload 4, 2) := by decide +kernel
theorem dX3_findGeneration_44 : decode cX3_findGeneration 44 = .ok (.areturn, 1) := by decide +kernel
theorem dX3_findGeneration_45 : decode cX3_findGeneration 45 = .ok (.iinc 3 1, 3) := by decide +kernel
theorem dX3_findGeneration_48 : decode cX3_findGeneration 48 = .ok (.goto (-46), 3) := by decide +kernel
theorem dX3_findGeneration_51 : decode cX3_findGeneration 51 = .ok (.aconst_null, 1) := by decide +kernel
theorem dX3_findGeneration_52 : decode cX3_findGeneration 52 = .ok (.areturn, 1) := by decide +kernel
theorem dX3_joinGeneration_0 : decode cX3_joinGeneration 0 = .ok (.aload_n 0, 1) := by decide +kernel
theorem dX3_joinGeneration_1 : decode cX3_joinGeneration 1 = .ok (.aload_n 0, 1) := by decide +kernel
theorem dX3_joinGeneration_2 : decode cX3_joinGeneration 2 = .ok (.getfield 110, 3) := by decide +kernel
theorem dX3_joinGeneration_5 : decode cX3_joinGeneration 5 = .ok (.iload_n 1, 1) := by decide +kernel
theorem dX3_joinGeneration_6 : decode cX3_joinGeneration 6 = .ok (.invokevirtual 158, 3) := by decide +kernel
theorem dX3_joinGeneration_9 : decode cX3_joinGeneration 9 = .ok (.astore_n 3, 1) := by decide +kernel
theorem dX3_joinGeneration_10 : decode cX3_joinGeneration 10 = .ok (.aload_n 3, 1) := by decide +kernel
theorem dX3_joinGeneration_11 : decode cX3_joinGeneration 11 = .ok (.ifnonnull 55, 3) := by decide +kernel
theorem dX3_joinGeneration_14 : decode cX3_joinGeneration 14 = .ok (.new 15, 3) := by decide +kernel
theorem dX3_joinGeneration_17 : decode cX3_joinGeneration 17 = .ok (.dup, 1) := by decide +kernel
theorem dX3_joinGeneration_18 : decode cX3_joinGeneration 18 = .ok (.aload_n 0, 1) := by decide +kernel
theorem dX3_joinGeneration_19 : decode cX3_joinGeneration 19 = .ok (.getfield 110, 3) := by decide +kernel
theorem dX3_joinGeneration_22 : decode cX3_joinGeneration 22 = .ok (.iload_n 1, 1) := by decide +kernel
theorem dX3_joinGeneration_23 : decode cX3_joinGeneration 23 = .ok (.invokespecial 202, 3) := by decide +kernel
theorem dX3_joinGeneration_26 : decode cX3_joinGeneration 26 = .ok (.astore_n 3, 1) := by decide +kernel
theorem dX3_joinGeneration_27 : decode cX3_joinGeneration 27 = .ok (.aload_n 0, 1) := by decide +kernel
theorem dX3_joinGeneration_28 : decode cX3_joinGeneration 28 = .ok (.getfield 205, 3) := by decide +kernel
theorem dX3_joinGeneration_31 : decode cX3_joinGeneration 31 = .ok (.ifCond .lt 35, 3) := by decide +kernel
theorem dX3_joinGeneration_34 : decode cX3_joinGeneration 34 = .ok (.aload_n 0, 1) := by decide +kernel
theorem dX3_joinGeneration_35 : decode cX3_joinGeneration 35 = .ok (.getfield 205, 3) := by decide +kernel
theorem dX3_joinGeneration_38 : decode cX3_joinGeneration 38 = .ok (.aload_n 0, 1) := by decide +kernel
theorem dX3_joinGeneration_39 : decode cX3_joinGeneration 39 = .ok (.getfield 17, 3) := by decide +kernel
theorem dX3_joinGeneration_42 : decode cX3_joinGeneration 42 = .ok (.arraylength, 1) := by decide +kernel
theorem dX3_joinGeneration_43 : decode cX3_joinGeneration 43 = .ok (.if_icmp .ge 23, 3) := by decide +kernel
theorem dX3_joinGeneration_46 : decode cX3_joinGeneration 46 = .ok (.aload_n 0, 1) := by decide +kernel
theorem dX3_joinGeneration_47 : decode cX3_joinGeneration 47 = .ok (.getfield 17, 3) := by decide +kernel
theorem dX3_joinGeneration_50 : decode cX3_joinGeneration 50 = .ok (.aload_n 0, 1) := by decide +kernel
theorem dX3_joinGeneration_51 : decode cX3_joinGeneration 51 = .ok (.getfield 205, 3) := by decide +kernel
theorem dX3_joinGeneration_54 : decode cX3_joinGeneration 54 = .ok (.aload_n 3, 1) := by decide +kernel
theorem dX3_joinGeneration_55 : decode cX3_joinGeneration 55 = .ok (.aastore, 1) := by decide +kernel
theorem dX3_joinGeneration_56 : decode cX3_joinGeneration 56 = .ok (.aload_n 0, 1) := by decide +kernel
theorem dX3_joinGeneration_57 : decode cX3_joinGeneration 57 = .ok (.dup, 1) := by decide +kernel
theorem dX3_joinGeneration_58 : decode cX3_joinGeneration 58 = .ok (.getfield 205, 3) := by decide +kernel
theorem dX3_joinGeneration_61 : decode cX3_joinGeneration 61 = .ok (.iconst 1, 1) := by decide +kernel
theorem dX3_joinGeneration_62 : decode cX3_joinGeneration 62 = .ok (.iadd, 1) := by decide +kernel
theorem dX3_joinGeneration_63 : decode cX3_joinGeneration 63 = .ok (.putfield 205, 3) := by decide +kernel
theorem dX3_joinGeneration_66 : decode cX3_joinGeneration 66 = .ok (.aload_n 3, 1) := by decide +kernel
theorem dX3_joinGeneration_67 : decode cX3_joinGeneration 67 = .ok (.dup, 1) := by decide +kernel
theorem dX3_joinGeneration_68 : decode cX3_joinGeneration 68 = .ok (.getfield 208, 3) := by decide +kernel
theorem dX3_joinGeneration_71 : decode cX3_joinGeneration 71 = .ok (.iload_n 2, 1) := by decide +kernel
theorem dX3_joinGeneration_72 : decode cX3_joinGeneration 72 = .ok (.i2l, 1) := by decide +kernel
theorem dX3_joinGeneration_73 : decode cX3_joinGeneration 73 = .ok (.ladd, 1) := by decide +kernel
theorem dX3_joinGeneration_74 : decode cX3_joinGeneration 74 = .ok (.putfield 208, 3) := by decide +kernel
theorem dX3_joinGeneration_77 : decode cX3_joinGeneration 77 = .ok (.aload_n 3, 1) := by decide +kernel
theorem dX3_joinGeneration_78 : decode cX3_joinGeneration 78 = .ok (.areturn, 1) := by decide +kernel
theorem dX3_ratioIn_0 : decode cX3_ratioIn 0 = .ok (.iload_n 1, 1) := by decide +kernel
theorem dX3_ratioIn_1 : decode cX3_ratioIn 1 = .ok (.ifCond .lt 15, 3) := by decide +kernel
theorem dX3_ratioIn_4 : decode cX3_ratioIn 4 = .ok (.iload_n 1, 1) := by decide +kernel
theorem dX3_ratioIn_5 : decode cX3_ratioIn 5 = .ok (.aload_n 0, 1) := by decide +kernel
theorem dX3_ratioIn_6 : decode cX3_ratioIn 6 = .ok (.arraylength, 1) := by decide +kernel
theorem dX3_ratioIn_7 : decode cX3_ratioIn 7 = .ok (.if_icmp .ge 9, 3) := by decide +kernel
theorem dX3_ratioIn_10 : decode cX3_ratioIn 10 = .ok (.aload_n 0, 1) := by decide +kernel
theorem dX3_ratioIn_11 : decode cX3_ratioIn 11 = .ok (.iload_n 1, 1) := by decide +kernel
theorem dX3_ratioIn_12 : decode cX3_ratioIn 12 = .ok (.laload, 1) := by decide +kernel
theorem dX3_ratioIn_13 : decode cX3_ratioIn 13 = .ok (.goto 6, 3) := by decide +kernel
theorem dX3_ratioIn_16 : decode cX3_ratioIn 16 = .ok (.ldc2_w 28, 3) := by decide +kernel
theorem dX3_ratioIn_19 : decode cX3_ratioIn 19 = .ok (.lreturn, 1) := by decide +kernel
theorem dX3_growGenerations_0 : decode cX3_growGenerations 0 = .ok (.iconst 0, 1) := by decide +kernel
theorem dX3_growGenerations_1 : decode cX3_growGenerations 1 = .ok (.istore_n 2, 1) := by decide +kernel
theorem dX3_growGenerations_2 : decode cX3_growGenerations 2 = .ok (.iload_n 2, 1) := by decide +kernel
theorem dX3_growGenerations_3 : decode cX3_growGenerations 3 = .ok (.aload_n 0, 1) := by decide +kernel
theorem dX3_growGenerations_4 : decode cX3_growGenerations 4 = .ok (.getfield 17, 3) := by decide +kernel
theorem dX3_growGenerations_7 : decode cX3_growGenerations 7 = .ok (.arraylength, 1) := by decide +kernel
theorem dX3_growGenerations_8 : decode cX3_growGenerations 8 = .ok (.if_icmp .ge 95, 3) := by decide +kernel
theorem dX3_growGenerations_11 : decode cX3_growGenerations 11 = .ok (.aload_n 0, 1) := by decide +kernel
theorem dX3_growGenerations_12 : decode cX3_growGenerations 12 = .ok (.getfield 17, 3) := by decide +kernel
theorem dX3_growGenerations_15 : decode cX3_growGenerations 15 = .ok (.iload_n 2, 1) := by decide +kernel
theorem dX3_growGenerations_16 : decode cX3_growGenerations 16 = .ok (.aaload, 1) := by decide +kernel
theorem dX3_growGenerations_17 : decode cX3_growGenerations 17 = .ok (.astore_n 3, 1) := by decide +kernel
theorem dX3_growGenerations_18 : decode cX3_growGenerations 18 = .ok (.aload_n 3, 1) := by decide +kernel
theorem dX3_growGenerations_19 : decode cX3_growGenerations 19 = .ok (.ifnull 78, 3) := by decide +kernel
theorem dX3_growGenerations_22 : decode cX3_growGenerations 22 = .ok (.aload_n 3, 1) := by decide +kernel
theorem dX3_growGenerations_23 : decode cX3_growGenerations 23 = .ok (.getfield 208, 3) := by decide +kernel
theorem dX3_growGenerations_26 : decode cX3_growGenerations 26 = .ok (.lconst 0, 1) := by decide +kernel
theorem dX3_growGenerations_27 : decode cX3_growGenerations 27 = .ok (.lcmp, 1) := by decide +kernel
theorem dX3_growGenerations_28 : decode cX3_growGenerations 28 = .ok (.ifCond .le 69, 3) := by decide +kernel
theorem dX3_growGenerations_31 : decode cX3_growGenerations 31 = .ok (.aload_n 3, 1) := by decide +kernel
theorem dX3_growGenerations_32 : decode cX3_growGenerations 32 = .ok (.getfield 161, 3) := by decide +kernel
theorem dX3_growGenerations_35 : decode cX3_growGenerations 35 = .ok (.dup, 1) := by decide +kernel
theorem dX3_growGenerations_36 : decode cX3_growGenerations 36 = .ok (.getfield 151, 3) := by decide +kernel
theorem dX3_growGenerations_39 : decode cX3_growGenerations 39 = .ok (.aload_n 3, 1) := by decide +kernel
theorem dX3_growGenerations_40 : decode cX3_growGenerations 40 = .ok (.getfield 208, 3) := by decide +kernel
theorem dX3_growGenerations_43 : decode cX3_growGenerations 43 = .ok (.ladd, 1) := by decide +kernel
theorem dX3_growGenerations_44 : decode cX3_growGenerations 44 = .ok (.putfield 151, 3) := by decide +kernel
theorem dX3_growGenerations_47 : decode cX3_growGenerations 47 = .ok (.aload_n 0, 1) := by decide +kernel
theorem dX3_growGenerations_48 : decode cX3_growGenerations 48 = .ok (.dup, 1) := by decide +kernel
theorem dX3_growGenerations_49 : decode cX3_growGenerations 49 = .ok (.getfield 105, 3) := by decide +kernel
theorem dX3_growGenerations_52 : decode cX3_growGenerations 52 = .ok (.aload_n 3, 1) := by decide +kernel
theorem dX3_growGenerations_53 : decode cX3_growGenerations 53 = .ok (.getfield 208, 3) := by decide +kernel
theorem dX3_growGenerations_56 : decode cX3_growGenerations 56 = .ok (.ladd, 1) := by decide +kernel
theorem dX3_growGenerations_57 : decode cX3_growGenerations 57 = .ok (.putfield 105, 3) := by decide +kernel
theorem dX3_growGenerations_60 : decode cX3_growGenerations 60 = .ok (.aload_n 0, 1) := by decide +kernel
theorem dX3_growGenerations_61 : decode cX3_growGenerations 61 = .ok (.dup, 1) := by decide +kernel
theorem dX3_growGenerations_62 : decode cX3_growGenerations 62 = .ok (.getfield 105, 3) := by decide +kernel
theorem dX3_growGenerations_65 : decode cX3_growGenerations 65 = .ok (.aload_n 3, 1) := by decide +kernel
theorem dX3_growGenerations_66 : decode cX3_growGenerations 66 = .ok (.getfield 161, 3) := by decide +kernel
theorem dX3_growGenerations_69 : decode cX3_growGenerations 69 = .ok (.iload_n 1, 1) := by decide +kernel
theorem dX3_growGenerations_70 : decode cX3_growGenerations 70 = .ok (.invokevirtual 211, 3) := by decide +kernel
theorem dX3_growGenerations_73 : decode cX3_growGenerations 73 = .ok (.ladd, 1) := by decide +kernel
theorem dX3_growGenerations_74 : decode cX3_growGenerations 74 = .ok (.putfield 105, 3) := by decide +kernel
theorem dX3_growGenerations_77 : decode cX3_growGenerations 77 = .ok (.aload_n 0, 1) := by decide +kernel
theorem dX3_growGenerations_78 : decode cX3_growGenerations 78 = .ok (.dup, 1) := by decide +kernel
theorem dX3_growGenerations_79 : decode cX3_growGenerations 79 = .ok (.getfield 101, 3) := by decide +kernel
theorem dX3_growGenerations_82 : decode cX3_growGenerations 82 = .ok (.aload_n 3, 1) := by decide +kernel
theorem dX3_growGenerations_83 : decode cX3_growGenerations 83 = .ok (.getfield 161, 3) := by decide +kernel
theorem dX3_growGenerations_86 : decode cX3_growGenerations 86 = .ok (.aload_n 0, 1) := by decide +kernel
theorem dX3_growGenerations_87 : decode cX3_growGenerations 87 = .ok (.getfield 34, 3) := by decide +kernel
theorem dX3_growGenerations_90 : decode cX3_growGenerations 90 = .ok (.invokevirtual 215, 3) := by decide +kernel
theorem dX3_growGenerations_93 : decode cX3_growGenerations 93 = .ok (.ladd, 1) := by decide +kernel
theorem dX3_growGenerations_94 : decode cX3_growGenerations 94 = .ok (.putfield 101, 3) := by decide +kernel
theorem dX3_growGenerations_97 : decode cX3_growGenerations 97 = .ok (.iinc 2 1, 3) := by decide +kernel
theorem dX3_growGenerations_100 : decode cX3_growGenerations 100 = .ok (.goto (-98), 3) := by decide +kernel
theorem dX3_growGenerations_103 : decode cX3_growGenerations 103 = .ok (.return_, 1) := by decide +kernel
theorem dX3_growPoliciesAlone_0 : decode cX3_growPoliciesAlone 0 = .ok (.iconst 0, 1) := by decide +kernel
theorem dX3_growPoliciesAlone_1 : decode cX3_growPoliciesAlone 1 = .ok (.istore_n 2, 1) := by decide +kernel
theorem dX3_growPoliciesAlone_2 : decode cX3_growPoliciesAlone 2 = .ok (.iload_n 2, 1) := by decide +kernel
theorem dX3_growPoliciesAlone_3 : decode cX3_growPoliciesAlone 3 = .ok (.aload_n 0, 1) := by decide +kernel
theorem dX3_growPoliciesAlone_4 : decode cX3_growPoliciesAlone 4 = .ok (.getfield 11, 3) := by decide +kernel
theorem dX3_growPoliciesAlone_7 : decode cX3_growPoliciesAlone 7 = .ok (.arraylength, 1) := by decide +kernel
theorem dX3_growPoliciesAlone_8 : decode cX3_growPoliciesAlone 8 = .ok (.if_icmp .ge 65, 3) := by decide +kernel
theorem dX3_growPoliciesAlone_11 : decode cX3_growPoliciesAlone 11 = .ok (.aload_n 0, 1) := by decide +kernel
theorem dX3_growPoliciesAlone_12 : decode cX3_growPoliciesAlone 12 = .ok (.getfield 11, 3) := by decide +kernel
theorem dX3_growPoliciesAlone_15 : decode cX3_growPoliciesAlone 15 = .ok (.iload_n 2, 1) := by decide +kernel
theorem dX3_growPoliciesAlone_16 : decode cX3_growPoliciesAlone 16 = .ok (.aaload, 1) := by decide +kernel
theorem dX3_growPoliciesAlone_17 : decode cX3_growPoliciesAlone 17 = .ok (.astore_n 3, 1) := by decide +kernel
theorem dX3_growPoliciesAlone_18 : decode cX3_growPoliciesAlone 18 = .ok (.aload_n 3, 1) := by decide +kernel
theorem dX3_growPoliciesAlone_19 : decode cX3_growPoliciesAlone 19 = .ok (.ifnull 48, 3) := by decide +kernel
theorem dX3_growPoliciesAlone_22 : decode cX3_growPoliciesAlone 22 = .ok (.aload_n 3, 1) := by decide +kernel
theorem dX3_growPoliciesAlone_23 : decode cX3_growPoliciesAlone 23 = .ok (.invokevirtual 143, 3) := by decide +kernel
theorem dX3_growPoliciesAlone_26 : decode cX3_growPoliciesAlone 26 = .ok (.ifCond .eq 41, 3) := by decide +kernel
theorem dX3_growPoliciesAlone_29 : decode cX3_growPoliciesAlone 29 = .ok (.aload_n 3, 1) := by decide +kernel
theorem dX3_growPoliciesAlone_30 : decode cX3_growPoliciesAlone 30 = .ok (.getfield 147, 3) := by decide +kernel
theorem dX3_growPoliciesAlone_33 : decode cX3_growPoliciesAlone 33 = .ok (.dup, 1) := by decide +kernel
theorem dX3_growPoliciesAlone_34 : decode cX3_growPoliciesAlone 34 = .ok (.getfield 151, 3) := by decide +kernel
theorem dX3_growPoliciesAlone_37 : decode cX3_growPoliciesAlone 37 = .ok (.aload_n 3, 1) := by decide +kernel
theorem dX3_growPoliciesAlone_38 : decode cX3_growPoliciesAlone 38 = .ok (.getfield 218, 3) := by decide +kernel
theorem dX3_growPoliciesAlone_41 : decode cX3_growPoliciesAlone 41 = .ok (.i2l, 1) := by decide +kernel
theorem dX3_growPoliciesAlone_42 : decode cX3_growPoliciesAlone 42 = .ok (.ladd, 1) := by decide +kernel
theorem dX3_growPoliciesAlone_43 : decode cX3_growPoliciesAlone 43 = .ok (.putfield 151, 3) := by decide +kernel
theorem dX3_growPoliciesAlone_46 : decode cX3_growPoliciesAlone 46 = .ok (.aload_n 3, 1) := by decide +kernel
theorem dX3_growPoliciesAlone_47 : decode cX3_growPoliciesAlone 47 = .ok (.getfield 147, 3) := by decide +kernel
theorem dX3_growPoliciesAlone_50 : decode cX3_growPoliciesAlone 50 = .ok (.iload_n 1, 1) := by decide +kernel
theorem dX3_growPoliciesAlone_51 : decode cX3_growPoliciesAlone 51 = .ok (.invokevirtual 211, 3) := by decide +kernel
theorem dX3_growPoliciesAlone_54 : decode cX3_growPoliciesAlone 54 = .ok (.pop2, 1) := by decide +kernel
theorem dX3_growPoliciesAlone_55 : decode cX3_growPoliciesAlone 55 = .ok (.aload_n 3, 1) := by decide +kernel
theorem dX3_growPoliciesAlone_56 : decode cX3_growPoliciesAlone 56 = .ok (.getfield 147, 3) := by decide +kernel
theorem dX3_growPoliciesAlone_59 : decode cX3_growPoliciesAlone 59 = .ok (.aload_n 0, 1) := by decide +kernel
theorem dX3_growPoliciesAlone_60 : decode cX3_growPoliciesAlone 60 = .ok (.getfield 34, 3) := by decide +kernel
theorem dX3_growPoliciesAlone_63 : decode cX3_growPoliciesAlone 63 = .ok (.invokevirtual 215, 3) := by decide +kernel
theorem dX3_growPoliciesAlone_66 : decode cX3_growPoliciesAlone 66 = .ok (.pop2, 1) := by decide +kernel
theorem dX3_growPoliciesAlone_67 : decode cX3_growPoliciesAlone 67 = .ok (.iinc 2 1, 3) := by decide +kernel
theorem dX3_growPoliciesAlone_70 : decode cX3_growPoliciesAlone 70 = .ok (.goto (-68), 3) := by decide +kernel
theorem dX3_growPoliciesAlone_73 : decode cX3_growPoliciesAlone 73 = .ok (.return_, 1) := by decide +kernel
theorem dX3_giveBonuses_0 : decode cX3_giveBonuses 0 = .ok (.iconst 0, 1) := by decide +kernel
theorem dX3_giveBonuses_1 : decode cX3_giveBonuses 1 = .ok (.istore_n 1, 1) := by decide +kernel
theorem dX3_giveBonuses_2 : decode cX3_giveBonuses 2 = .ok (.iload_n 1, 1) := by decide +kernel
theorem dX3_giveBonuses_3 : decode cX3_giveBonuses 3 = .ok (.aload_n 0, 1) := by decide +kernel
theorem dX3_giveBonuses_4 : decode cX3_giveBonuses 4 = .ok (.getfield 11, 3) := by decide +kernel
theorem dX3_giveBonuses_7 : decode cX3_giveBonuses 7 = .ok (.arraylength, 1) := by decide +kernel
theorem dX3_giveBonuses_8 : decode cX3_giveBonuses 8 = .ok (.if_icmp .ge 48, 3) := by decide +kernel
theorem dX3_giveBonuses_11 : decode cX3_giveBonuses 11 = .ok (.aload_n 0, 1) := by decide +kernel
theorem dX3_giveBonuses_12 : decode cX3_giveBonuses 12 = .ok (.getfield 11, 3) := by decide +kernel
theorem dX3_giveBonuses_15 : decode cX3_giveBonuses 15 = .ok (.iload_n 1, 1) := by decide +kernel
theorem dX3_giveBonuses_16 : decode cX3_giveBonuses 16 = .ok (.aaload, 1) := by decide +kernel
theorem dX3_giveBonuses_17 : decode cX3_giveBonuses 17 = .ok (.astore_n 2, 1) := by decide +kernel
theorem dX3_giveBonuses_18 : decode cX3_giveBonuses 18 = .ok (.aload_n 2, 1) := by decide +kernel
theorem dX3_giveBonuses_19 : decode cX3_giveBonuses 19 = .ok (.ifnull 31, 3) := by decide +kernel
theorem dX3_giveBonuses_22 : decode cX3_giveBonuses 22 = .ok (.aload_n 2, 1) := by decide +kernel
theorem dX3_giveBonuses_23 : decode cX3_giveBonuses 23 = .ok (.invokevirtual 143, 3) := by decide +kernel
theorem dX3_giveBonuses_26 : decode cX3_giveBonuses 26 = .ok (.ifCond .eq 24, 3) := by decide +kernel
theorem dX3_giveBonuses_29 : decode cX3_giveBonuses 29 = .ok (.aload_n 2, 1) := by decide +kernel
theorem dX3_giveBonuses_30 : decode cX3_giveBonuses 30 = .ok (.dup, 1) := by decide +kernel
theorem dX3_giveBonuses_31 : decode cX3_giveBonuses 31 = .ok (.getfield 136, 3) := by decide +kernel
theorem dX3_giveBonuses_34 : decode cX3_giveBonuses 34 = .ok (.aload_n 2, 1) := by decide +kernel
theorem dX3_giveBonuses_35 : decode cX3_giveBonuses 35 = .ok (.invokevirtual 173, 3) := by decide +kernel
theorem dX3_giveBonuses_38 : decode cX3_giveBonuses 38 = .ok (.aload_n 0, 1) := by decide +kernel
theorem dX3_giveBonuses_39 : decode cX3_giveBonuses 39 = .ok (.getfield 30, 3) := by decide +kernel
theorem dX3_giveBonuses_42 : decode cX3_giveBonuses 42 = .ok (.i2l, 1) := by decide +kernel
theorem dX3_giveBonuses_43 : decode cX3_giveBonuses 43 = .ok (.invokestatic 115, 3) := by decide +kernel
theorem dX3_giveBonuses_46 : decode cX3_giveBonuses 46 = .ok (.ladd, 1) := by decide +kernel
theorem dX3_giveBonuses_47 : decode cX3_giveBonuses 47 = .ok (.putfield 136, 3) := by decide +kernel
theorem dX3_giveBonuses_50 : decode cX3_giveBonuses 50 = .ok (.iinc 1 1, 3) := by decide +kernel
theorem dX3_giveBonuses_53 : decode cX3_giveBonuses 53 = .ok (.goto (-51), 3) := by decide +kernel
theorem dX3_giveBonuses_56 : decode cX3_giveBonuses 56 = .ok (.return_, 1) := by decide +kernel
theorem dX3_maturePolicies_0 : decode cX3_maturePolicies 0 = .ok (.iconst 0, 1) := by decide +kernel
theorem dX3_maturePolicies_1 : decode cX3_maturePolicies 1 = .ok (.istore_n 1, 1) := by decide +kernel
theorem dX3_maturePolicies_2 : decode cX3_maturePolicies 2 = .ok (.iload_n 1, 1) := by decide +kernel
theorem dX3_maturePolicies_3 : decode cX3_maturePolicies 3 = .ok (.aload_n 0, 1) := by decide +kernel
theorem dX3_maturePolicies_4 : decode cX3_maturePolicies 4 = .ok (.getfield 25, 3) := by decide +kernel
theorem dX3_maturePolicies_7 : decode cX3_maturePolicies 7 = .ok (.arraylength, 1) := by decide +kernel
theorem dX3_maturePolicies_8 : decode cX3_maturePolicies 8 = .ok (.if_icmp .ge 23, 3) := by decide +kernel
theorem dX3_maturePolicies_11 : decode cX3_maturePolicies 11 = .ok (.aload_n 0, 1) := by decide +kernel
theorem dX3_maturePolicies_12 : decode cX3_maturePolicies 12 = .ok (.getfield 25, 3) := by decide +kernel
theorem dX3_maturePolicies_15 : decode cX3_maturePolicies 15 = .ok (.iload_n 1, 1) := by decide +kernel
theorem dX3_maturePolicies_16 : decode cX3_maturePolicies 16 = .ok (.aload_n 0, 1) := by decide +kernel
theorem dX3_maturePolicies_17 : decode cX3_maturePolicies 17 = .ok (.getfield 21, 3) := by decide +kernel
theorem dX3_maturePolicies_20 : decode cX3_maturePolicies 20 = .ok (.iload_n 1, 1) := by decide +kernel
theorem dX3_maturePolicies_21 : decode cX3_maturePolicies 21 = .ok (.invokestatic 169, 3) := by decide +kernel
theorem dX3_maturePolicies_24 : decode cX3_maturePolicies 24 = .ok (.lastore, 1) := by decide +kernel
theorem dX3_maturePolicies_25 : decode cX3_maturePolicies 25 = .ok (.iinc 1 1, 3) := by decide +kernel
theorem dX3_maturePolicies_28 : decode cX3_maturePolicies 28 = .ok (.goto (-26), 3) := by decide +kernel
theorem dX3_maturePolicies_31 : decode cX3_maturePolicies 31 = .ok (.iconst 0, 1) := by decide +kernel
theorem dX3_maturePolicies_32 : decode cX3_maturePolicies 32 = .ok (.istore_n 1, 1) := by decide +kernel
theorem dX3_maturePolicies_33 : decode cX3_maturePolicies 33 = .ok (.iconst 0, 1) := by decide +kernel
theorem dX3_maturePolicies_34 : decode cX3_maturePolicies 34 = .ok (.istore_n 2, 1) := by decide +kernel
theorem dX3_maturePolicies_35 : decode cX3_maturePolicies 35 = .ok (.iload_n 2, 1) := by decide +kernel
theorem dX3_maturePolicies_36 : decode cX3_maturePolicies 36 = .ok (.aload_n 0, 1) := by decide +kernel
theorem dX3_maturePolicies_37 : decode cX3_maturePolicies 37 = .ok (.getfield 11, 3) := by decide +kernel
theorem dX3_maturePolicies_40 : decode cX3_maturePolicies 40 = .ok (.arraylength, 1) := by decide +kernel
theorem dX3_maturePolicies_41 : decode cX3_maturePolicies 41 = .ok (.if_icmp .ge 52, 3) := by decide +kernel
theorem dX3_maturePolicies_44 : decode cX3_maturePolicies 44 = .ok (.aload_n 0, 1) := by decide +kernel
theorem dX3_maturePolicies_45 : decode cX3_maturePolicies 45 = .ok (.getfield 11, 3) := by decide +kernel
theorem dX3_maturePolicies_48 : decode cX3_maturePolicies 48 = .ok (.iload_n 2, 1) := by decide +kernel
theorem dX3_maturePolicies_49 : decode cX3_maturePolicies 49 = .ok (.aaload, 1) := by decide +kernel
theorem dX3_maturePolicies_50 : decode cX3_maturePolicies 50 = .ok (.astore_n 3, 1) := by decide +kernel
theorem dX3_maturePolicies_51 : decode cX3_maturePolicies 51 = .ok (.aload_n 3, 1) := by decide +kernel
theorem dX3_maturePolicies_52 : decode cX3_maturePolicies 52 = .ok (.ifnull 35, 3) := by decide +kernel
theorem dX3_maturePolicies_55 : decode cX3_maturePolicies 55 = .ok (.aload_n 3, 1) := by decide +kernel
theorem dX3_maturePolicies_56 : decode cX3_maturePolicies 56 = .ok (.invokevirtual 143, 3) := by decide +kernel
theorem dX3_maturePolicies_59 : decode cX3_maturePolicies 59 = .ok (.ifCond .eq 28, 3) := by decide +kernel
theorem dX3_maturePolicies_62 : decode cX3_maturePolicies 62 = .ok (.aload_n 0, 1) := by decide +kernel
theorem dX3_maturePolicies_63 : decode cX3_maturePolicies 63 = .ok (.aload_n 3, 1) := by decide +kernel
theorem dX3_maturePolicies_64 : decode cX3_maturePolicies 64 = .ok (.invokevirtual 186, 3) := by decide +kernel
theorem dX3_maturePolicies_67 : decode cX3_maturePolicies 67 = .ok (.iconst 1, 1) := by decide +kernel
theorem dX3_maturePolicies_68 : decode cX3_maturePolicies 68 = .ok (.iadd, 1) := by decide +kernel
theorem dX3_maturePolicies_69 : decode cX3_maturePolicies 69 = .ok (.aload_n 3, 1) := by decide +kernel
theorem dX3_maturePolicies_70 : decode cX3_maturePolicies 70 = .ok (.getfield 192, 3) := by decide +kernel
theorem dX3_maturePolicies_73 : decode cX3_maturePolicies 73 = .ok (.getfield 199, 3) := by decide +kernel
theorem dX3_maturePolicies_76 : decode cX3_maturePolicies 76 = .ok (.if_icmp .lt 11, 3) := by decide +kernel
theorem dX3_maturePolicies_79 : decode cX3_maturePolicies 79 = .ok (.aload_n 0, 1) := by decide +kernel
theorem dX3_maturePolicies_80 : decode cX3_maturePolicies 80 = .ok (.aload_n 3, 1) := by decide +kernel
theorem dX3_maturePolicies_81 : decode cX3_maturePolicies 81 = .ok (.invokevirtual 221, 3) := by decide +kernel
theorem dX3_maturePolicies_84 : decode cX3_maturePolicies 84 = .ok (.iinc 1 1, 3) := by decide +kernel
theorem dX3_maturePolicies_87 : decode cX3_maturePolicies 87 = .ok (.iinc 2 1, 3) := by decide +kernel
theorem dX3_maturePolicies_90 : decode cX3_maturePolicies 90 = .ok (.goto (-55), 3) := by decide +kernel
theorem dX3_maturePolicies_93 : decode cX3_maturePolicies 93 = .ok (.iload_n 1, 1) := by decide +kernel
theorem dX3_maturePolicies_94 : decode cX3_maturePolicies 94 = .ok (.ireturn, 1) := by decide +kernel
theorem dX3_mature_0 : decode cX3_mature 0 = .ok (.aload_n 1, 1) := by decide +kernel
theorem dX3_mature_1 : decode cX3_mature 1 = .ok (.getfield 192, 3) := by decide +kernel
theorem dX3_mature_4 : decode cX3_mature 4 = .ok (.getfield 199, 3) := by decide +kernel
theorem dX3_mature_7 : decode cX3_mature 7 = .ok (.istore_n 2, 1) := by decide +kernel
theorem dX3_mature_8 : decode cX3_mature 8 = .ok (.iload_n 2, 1) := by decide +kernel
theorem dX3_mature_9 : decode cX3_mature 9 = .ok (.i2l, 1) := by decide +kernel
theorem dX3_mature_10 : decode cX3_mature 10 = .ok (.aload_n 1, 1) := by decide +kernel
theorem dX3_mature_11 : decode cX3_mature 11 = .ok (.getfield 218, 3) := by decide +kernel
theorem dX3_mature_14 : decode cX3_mature 14 = .ok (.i2l, 1) := by decide +kernel
theorem dX3_mature_15 : decode cX3_mature 15 = .ok (.lmul, 1) := by decide +kernel
theorem dX3_mature_16 : decode cX3_mature 16 = .ok (.lstore_n 3, 1) := by decide +kernel
theorem dX3_mature_17 : decode cX3_mature 17 = .ok (.aload_n 1, 1) := by decide +kernel
theorem dX3_mature_18 : decode cX3_mature 18 = .ok (.invokevirtual 139, 3) := by decide +kernel
theorem dX3_mature_21 : decode cX3_mature 21 = .ok (.aload_n 0, 1) := by decide +kernel
theorem dX3_mature_22 : decode cX3_mature 22 = .ok (.getfield 37, 3) := by decide +kernel
theorem dX3_mature_25 : decode cX3_mature 25 = .ok (.i2l, 1) := by decide +kernel
theorem dX3_mature_26 : decode cX3_mature 26 = .ok (.invokestatic 115, 3) := by decide +kernel
theorem dX3_mature_29 : decode cX3_mature 29 = .ok (.lstore 5, 2) := by decide +kernel
theorem dX3_mature_31 : decode cX3_mature 31 = .ok (.aload_n 0, 1) := by decide +kernel
theorem dX3_mature_32 : decode cX3_mature 32 = .ok (.lload 5, 2) := by decide +kernel
theorem dX3_mature_34 : decode cX3_mature 34 = .ok (.ldc2_w 224, 3) := by decide +kernel
theorem dX3_mature_37 : decode cX3_mature 37 = .ok (.lmul, 1) := by decide +kernel
theorem dX3_mature_38 : decode cX3_mature 38 = .ok (.lload_n 3, 1) := by decide +kernel
theorem dX3_mature_39 : decode cX3_mature 39 = .ok (.invokestatic 226, 3) := by decide +kernel
theorem dX3_mature_42 : decode cX3_mature 42 = .ok (.aload_n 0, 1) := by decide +kernel
theorem dX3_mature_43 : decode cX3_mature 43 = .ok (.getfield 25, 3) := by decide +kernel
theorem dX3_mature_46 : decode cX3_mature 46 = .ok (.iload_n 2, 1) := by decide +kernel
theorem dX3_mature_47 : decode cX3_mature 47 = .ok (.invokestatic 169, 3) := by decide +kernel
theorem dX3_mature_50 : decode cX3_mature 50 = .ok (.invokevirtual 229, 3) := by decide +kernel
theorem dX3_mature_53 : decode cX3_mature 53 = .ok (.lstore 7, 2) := by decide +kernel
theorem dX3_mature_55 : decode cX3_mature 55 = .ok (.iload_n 2, 1) := by decide +kernel
theorem dX3_mature_56 : decode cX3_mature 56 = .ok (.ifCond .lt 20, 3) := by decide +kernel
theorem dX3_mature_59 : decode cX3_mature 59 = .ok (.iload_n 2, 1) := by decide +kernel
theorem dX3_mature_60 : decode cX3_mature 60 = .ok (.aload_n 0, 1) := by decide +kernel
theorem dX3_mature_61 : decode cX3_mature 61 = .ok (.getfield 21, 3) := by decide +kernel
theorem dX3_mature_64 : decode cX3_mature 64 = .ok (.arraylength, 1) := by decide +kernel
theorem dX3_mature_65 : decode cX3_mature 65 = .ok (.if_icmp .ge 11, 3) := by decide +kernel
theorem dX3_mature_68 : decode cX3_mature 68 = .ok (.aload_n 0, 1) := by decide +kernel
theorem dX3_mature_69 : decode cX3_mature 69 = .ok (.getfield 21, 3) := by decide +kernel
theorem dX3_mature_72 : decode cX3_mature 72 = .ok (.iload_n 2, 1) := by decide +kernel
theorem dX3_mature_73 : decode cX3_mature 73 = .ok (.lload 7, 2) := by decide +kernel
theorem dX3_mature_75 : decode cX3_mature 75 = .ok (.lastore, 1) := by decide +kernel
theorem dX3_mature_76 : decode cX3_mature 76 = .ok (.lload_n 3, 1) := by decide +kernel
theorem dX3_mature_77 : decode cX3_mature 77 = .ok (.lload 7, 2) := by decide +kernel
theorem dX3_mature_79 : decode cX3_mature 79 = .ok (.invokestatic 115, 3) := by decide +kernel
theorem dX3_mature_82 : decode cX3_mature 82 = .ok (.aload_n 1, 1) := by decide +kernel
theorem dX3_mature_83 : decode cX3_mature 83 = .ok (.invokevirtual 173, 3) := by decide +kernel
theorem dX3_mature_86 : decode cX3_mature 86 = .ok (.invokestatic 176, 3) := by decide +kernel
theorem dX3_mature_89 : decode cX3_mature 89 = .ok (.lstore 9, 2) := by decide +kernel
theorem dX3_mature_91 : decode cX3_mature 91 = .ok (.aload_n 0, 1) := by decide +kernel
theorem dX3_mature_92 : decode cX3_mature 92 = .ok (.aload_n 1, 1) := by decide +kernel
theorem dX3_mature_93 : decode cX3_mature 93 = .ok (.iconst 1, 1) := by decide +kernel
theorem dX3_mature_94 : decode cX3_mature 94 = .ok (.lload 9, 2) := by decide +kernel
theorem dX3_mature_96 : decode cX3_mature 96 = .ok (.invokevirtual 89, 3) := by decide +kernel
theorem dX3_mature_99 : decode cX3_mature 99 = .ok (.return_, 1) := by decide +kernel
theorem dX3_smooth_0 : decode cX3_smooth 0 = .ok (.lload_n 3, 1) := by decide +kernel
theorem dX3_smooth_1 : decode cX3_smooth 1 = .ok (.ldc2_w 28, 3) := by decide +kernel
theorem dX3_smooth_4 : decode cX3_smooth 4 = .ok (.lcmp, 1) := by decide +kernel
theorem dX3_smooth_5 : decode cX3_smooth 5 = .ok (.ifCond .ne 5, 3) := by decide +kernel
theorem dX3_smooth_8 : decode cX3_smooth 8 = .ok (.lload_n 1, 1) := by decide +kernel
theorem dX3_smooth_9 : decode cX3_smooth 9 = .ok (.lreturn, 1) := by decide +kernel
theorem dX3_smooth_10 : decode cX3_smooth 10 = .ok (.lload_n 3, 1) := by decide +kernel
theorem dX3_smooth_11 : decode cX3_smooth 11 = .ok (.aload_n 0, 1) := by decide +kernel
theorem dX3_smooth_12 : decode cX3_smooth 12 = .ok (.getfield 40, 3) := by decide +kernel
theorem dX3_smooth_15 : decode cX3_smooth 15 = .ok (.i2l, 1) := by decide +kernel
theorem dX3_smooth_16 : decode cX3_smooth 16 = .ok (.invokestatic 115, 3) := by decide +kernel
theorem dX3_smooth_19 : decode cX3_smooth 19 = .ok (.lstore 5, 2) := by decide +kernel
theorem dX3_smooth_21 : decode cX3_smooth 21 = .ok (.lload_n 1, 1) := by decide +kernel
theorem dX3_smooth_22 : decode cX3_smooth 22 = .ok (.lload_n 3, 1) := by decide +kernel
theorem dX3_smooth_23 : decode cX3_smooth 23 = .ok (.lload 5, 2) := by decide +kernel
theorem dX3_smooth_25 : decode cX3_smooth 25 = .ok (.lsub, 1) := by decide +kernel
theorem dX3_smooth_26 : decode cX3_smooth 26 = .ok (.invokestatic 176, 3) := by decide +kernel
theorem dX3_smooth_29 : decode cX3_smooth 29 = .ok (.lload_n 3, 1) := by decide +kernel
theorem dX3_smooth_30 : decode cX3_smooth 30 = .ok (.lload 5, 2) := by decide +kernel
theorem dX3_smooth_32 : decode cX3_smooth 32 = .ok (.ladd, 1) := by decide +kernel
theorem dX3_smooth_33 : decode cX3_smooth 33 = .ok (.invokestatic 232, 3) := by decide +kernel
theorem dX3_smooth_36 : decode cX3_smooth 36 = .ok (.lreturn, 1) := by decide +kernel
theorem dX3_surrenderWorth_0 : decode cX3_surrenderWorth 0 = .ok (.aload_n 0, 1) := by decide +kernel
theorem dX3_surrenderWorth_1 : decode cX3_surrenderWorth 1 = .ok (.aload_n 1, 1) := by decide +kernel
theorem dX3_surrenderWorth_2 : decode cX3_surrenderWorth 2 = .ok (.invokevirtual 186, 3) := by decide +kernel
theorem dX3_surrenderWorth_5 : decode cX3_surrenderWorth 5 = .ok (.istore_n 2, 1) := by decide +kernel
theorem dX3_surrenderWorth_6 : decode cX3_surrenderWorth 6 = .ok (.ldc2_w 235, 3) := by decide +kernel
theorem dX3_surrenderWorth_9 : decode cX3_surrenderWorth 9 = .ok (.ldc2_w 237, 3) := by decide +kernel
theorem dX3_surrenderWorth_12 : decode cX3_surrenderWorth 12 = .ok (.iload_n 2, 1) := by decide +kernel
theorem dX3_surrenderWorth_13 : decode cX3_surrenderWorth 13 = .ok (.i2l, 1) := by decide +kernel
theorem dX3_surrenderWorth_14 : decode cX3_surrenderWorth 14 = .ok (.lmul, 1) := by decide +kernel
theorem dX3_surrenderWorth_15 : decode cX3_surrenderWorth 15 = .ok (.aload_n 1, 1) := by decide +kernel
theorem dX3_surrenderWorth_16 : decode cX3_surrenderWorth 16 = .ok (.getfield 192, 3) := by decide +kernel
theorem dX3_surrenderWorth_19 : decode cX3_surrenderWorth 19 = .ok (.getfield 199, 3) := by decide +kernel
theorem dX3_surrenderWorth_22 : decode cX3_surrenderWorth 22 = .ok (.i2l, 1) := by decide +kernel
theorem dX3_surrenderWorth_23 : decode cX3_surrenderWorth 23 = .ok (.invokestatic 226, 3) := by decide +kernel
theorem dX3_surrenderWorth_26 : decode cX3_surrenderWorth 26 = .ok (.ladd, 1) := by decide +kernel
theorem dX3_surrenderWorth_27 : decode cX3_surrenderWorth 27 = .ok (.lstore_n 3, 1) := by decide +kernel
theorem dX3_surrenderWorth_28 : decode cX3_surrenderWorth 28 = .ok (.aload_n 1, 1) := by decide +kernel
theorem dX3_surrenderWorth_29 : decode cX3_surrenderWorth 29 = .ok (.invokevirtual 139, 3) := by decide +kernel
theorem dX3_surrenderWorth_32 : decode cX3_surrenderWorth 32 = .ok (.lload_n 3, 1) := by decide +kernel
theorem dX3_surrenderWorth_33 : decode cX3_surrenderWorth 33 = .ok (.invokestatic 115, 3) := by decide +kernel
theorem dX3_surrenderWorth_36 : decode cX3_surrenderWorth 36 = .ok (.lstore 5, 2) := by decide +kernel
theorem dX3_surrenderWorth_38 : decode cX3_surrenderWorth 38 = .ok (.iload_n 2, 1) := by decide +kernel
theorem dX3_surrenderWorth_39 : decode cX3_surrenderWorth 39 = .ok (.i2l, 1) := by decide +kernel
theorem dX3_surrenderWorth_40 : decode cX3_surrenderWorth 40 = .ok (.aload_n 1, 1) := by decide +kernel
theorem dX3_surrenderWorth_41 : decode cX3_surrenderWorth 41 = .ok (.getfield 218, 3) := by decide +kernel
theorem dX3_surrenderWorth_44 : decode cX3_surrenderWorth 44 = .ok (.i2l, 1) := by decide +kernel
theorem dX3_surrenderWorth_45 : decode cX3_surrenderWorth 45 = .ok (.lmul, 1) := by decide +kernel
theorem dX3_surrenderWorth_46 : decode cX3_surrenderWorth 46 = .ok (.aload_n 0, 1) := by decide +kernel
theorem dX3_surrenderWorth_47 : decode cX3_surrenderWorth 47 = .ok (.getfield 43, 3) := by decide +kernel
theorem dX3_surrenderWorth_50 : decode cX3_surrenderWorth 50 = .ok (.i2l, 1) := by decide +kernel
theorem dX3_surrenderWorth_51 : decode cX3_surrenderWorth 51 = .ok (.invokestatic 115, 3) := by decide +kernel
theorem dX3_surrenderWorth_54 : decode cX3_surrenderWorth 54 = .ok (.lstore 7, 2) := by decide +kernel
theorem dX3_surrenderWorth_56 : decode cX3_surrenderWorth 56 = .ok (.lconst 0, 1) := by decide +kernel
theorem dX3_surrenderWorth_57 : decode cX3_surrenderWorth 57 = .ok (.lload 5, 2) := by decide +kernel
theorem dX3_surrenderWorth_59 : decode cX3_surrenderWorth 59 = .ok (.lload 7, 2) := by decide +kernel
theorem dX3_surrenderWorth_61 : decode cX3_surrenderWorth 61 = .ok (.invokestatic 176, 3) := by decide +kernel
theorem dX3_surrenderWorth_64 : decode cX3_surrenderWorth 64 = .ok (.invokestatic 176, 3) := by decide +kernel
theorem dX3_surrenderWorth_67 : decode cX3_surrenderWorth 67 = .ok (.lreturn, 1) := by decide +kernel
theorem dX3_close_0 : decode cX3_close 0 = .ok (.aload_n 0, 1) := by decide +kernel
theorem dX3_close_1 : decode cX3_close 1 = .ok (.dup, 1) := by decide +kernel
theorem dX3_close_2 : decode cX3_close 2 = .ok (.getfield 101, 3) := by decide +kernel
theorem dX3_close_5 : decode cX3_close 5 = .ok (.aload_n 1, 1) := by decide +kernel
theorem dX3_close_6 : decode cX3_close 6 = .ok (.getfield 192, 3) := by decide +kernel
theorem dX3_close_9 : decode cX3_close 9 = .ok (.aload_n 1, 1) := by decide +kernel
theorem dX3_close_10 : decode cX3_close 10 = .ok (.getfield 218, 3) := by decide +kernel
theorem dX3_close_13 : decode cX3_close 13 = .ok (.invokevirtual 239, 3) := by decide +kernel
theorem dX3_close_16 : decode cX3_close 16 = .ok (.lload_n 3, 1) := by decide +kernel
theorem dX3_close_17 : decode cX3_close 17 = .ok (.lsub, 1) := by decide +kernel
theorem dX3_close_18 : decode cX3_close 18 = .ok (.ladd, 1) := by decide +kernel
theorem dX3_close_19 : decode cX3_close 19 = .ok (.putfield 101, 3) := by decide +kernel
theorem dX3_close_22 : decode cX3_close 22 = .ok (.aload_n 0, 1) := by decide +kernel
theorem dX3_close_23 : decode cX3_close 23 = .ok (.dup, 1) := by decide +kernel
theorem dX3_close_24 : decode cX3_close 24 = .ok (.getfield 105, 3) := by decide +kernel
theorem dX3_close_27 : decode cX3_close 27 = .ok (.lload_n 3, 1) := by decide +kernel
theorem dX3_close_28 : decode cX3_close 28 = .ok (.lsub, 1) := by decide +kernel
theorem dX3_close_29 : decode cX3_close 29 = .ok (.putfield 105, 3) := by decide +kernel
theorem dX3_close_32 : decode cX3_close 32 = .ok (.aload_n 1, 1) := by decide +kernel
theorem dX3_close_33 : decode cX3_close 33 = .ok (.iload_n 2, 1) := by decide +kernel
theorem dX3_close_34 : decode cX3_close 34 = .ok (.putfield 133, 3) := by decide +kernel
theorem dX3_close_37 : decode cX3_close 37 = .ok (.aload_n 1, 1) := by decide +kernel
theorem dX3_close_38 : decode cX3_close 38 = .ok (.lload_n 3, 1) := by decide +kernel
theorem dX3_close_39 : decode cX3_close 39 = .ok (.putfield 164, 3) := by decide +kernel
theorem dX3_close_42 : decode cX3_close 42 = .ok (.return_, 1) := by decide +kernel
theorem dX3_thousandths_0 : decode cX3_thousandths 0 = .ok (.lload_n 0, 1) := by decide +kernel
theorem dX3_thousandths_1 : decode cX3_thousandths 1 = .ok (.lload_n 2, 1) := by decide +kernel
theorem dX3_thousandths_2 : decode cX3_thousandths 2 = .ok (.lmul, 1) := by decide +kernel
theorem dX3_thousandths_3 : decode cX3_thousandths 3 = .ok (.ldc2_w 224, 3) := by decide +kernel
theorem dX3_thousandths_6 : decode cX3_thousandths 6 = .ok (.invokestatic 242, 3) := by decide +kernel
theorem dX3_thousandths_9 : decode cX3_thousandths 9 = .ok (.lreturn, 1) := by decide +kernel
theorem dX3_parted_0 : decode cX3_parted 0 = .ok (.lload_n 2, 1) := by decide +kernel
theorem dX3_parted_1 : decode cX3_parted 1 = .ok (.lconst 0, 1) := by decide +kernel
theorem dX3_parted_2 : decode cX3_parted 2 = .ok (.lcmp, 1) := by decide +kernel
theorem dX3_parted_3 : decode cX3_parted 3 = .ok (.ifCond .le 9, 3) := by decide +kernel
theorem dX3_parted_6 : decode cX3_parted 6 = .ok (.lload_n 0, 1) := by decide +kernel
theorem dX3_parted_7 : decode cX3_parted 7 = .ok (.lload_n 2, 1) := by decide +kernel
theorem dX3_parted_8 : decode cX3_parted 8 = .ok (.ldiv, 1) := by decide +kernel
theorem dX3_parted_9 : decode cX3_parted 9 = .ok (.goto 4, 3) := by decide +kernel
theorem dX3_parted_12 : decode cX3_parted 12 = .ok (.lconst 0, 1) := by decide +kernel
theorem dX3_parted_13 : decode cX3_parted 13 = .ok (.lreturn, 1) := by decide +kernel
theorem dJ9_floorDiv_f86c9_0 : decode cJ9_floorDiv_f86c9 0 = .ok (.lload_n 0, 1) := by decide +kernel
theorem dJ9_floorDiv_f86c9_1 : decode cJ9_floorDiv_f86c9 1 = .ok (.lload_n 2, 1) := by decide +kernel
theorem dJ9_floorDiv_f86c9_2 : decode cJ9_floorDiv_f86c9 2 = .ok (.ldiv, 1) := by decide +kernel
theorem dJ9_floorDiv_f86c9_3 : decode cJ9_floorDiv_f86c9 3 = .ok (.lstore 4, 2) := by decide +kernel
theorem dJ9_floorDiv_f86c9_5 : decode cJ9_floorDiv_f86c9 5 = .ok (.lload_n 0, 1) := by decide +kernel
theorem dJ9_floorDiv_f86c9_6 : decode cJ9_floorDiv_f86c9 6 = .ok (.lload_n 2, 1) := by decide +kernel
theorem dJ9_floorDiv_f86c9_7 : decode cJ9_floorDiv_f86c9 7 = .ok (.lxor, 1) := by decide +kernel
theorem dJ9_floorDiv_f86c9_8 : decode cJ9_floorDiv_f86c9 8 = .ok (.lconst 0, 1) := by decide +kernel
theorem dJ9_floorDiv_f86c9_9 : decode cJ9_floorDiv_f86c9 9 = .ok (.lcmp, 1) := by decide +kernel
theorem dJ9_floorDiv_f86c9_10 : decode cJ9_floorDiv_f86c9 10 = .ok (.ifCond .ge 17, 3) := by decide +kernel
theorem dJ9_floorDiv_f86c9_13 : decode cJ9_floorDiv_f86c9 13 = .ok (.lload 4, 2) := by decide +kernel
theorem dJ9_floorDiv_f86c9_15 : decode cJ9_floorDiv_f86c9 15 = .ok (.lload_n 2, 1) := by decide +kernel
theorem dJ9_floorDiv_f86c9_16 : decode cJ9_floorDiv_f86c9 16 = .ok (.lmul, 1) := by decide +kernel
theorem dJ9_floorDiv_f86c9_17 : decode cJ9_floorDiv_f86c9 17 = .ok (.lload_n 0, 1) := by decide +kernel
theorem dJ9_floorDiv_f86c9_18 : decode cJ9_floorDiv_f86c9 18 = .ok (.lcmp, 1) := by decide +kernel
theorem dJ9_floorDiv_f86c9_19 : decode cJ9_floorDiv_f86c9 19 = .ok (.ifCond .eq 8, 3) := by decide +kernel
theorem dJ9_floorDiv_f86c9_22 : decode cJ9_floorDiv_f86c9 22 = .ok (.lload 4, 2) := by decide +kernel
theorem dJ9_floorDiv_f86c9_24 : decode cJ9_floorDiv_f86c9 24 = .ok (.lconst 1, 1) := by decide +kernel
theorem dJ9_floorDiv_f86c9_25 : decode cJ9_floorDiv_f86c9 25 = .ok (.lsub, 1) := by decide +kernel
theorem dJ9_floorDiv_f86c9_26 : decode cJ9_floorDiv_f86c9 26 = .ok (.lreturn, 1) := by decide +kernel
theorem dJ9_floorDiv_f86c9_27 : decode cJ9_floorDiv_f86c9 27 = .ok (.lload 4, 2) := by decide +kernel
theorem dJ9_floorDiv_f86c9_29 : decode cJ9_floorDiv_f86c9 29 = .ok (.lreturn, 1) := by decide +kernel
theorem dJ9_max_f86c9_0 : decode cJ9_max_f86c9 0 = .ok (.lload_n 0, 1) := by decide +kernel
theorem dJ9_max_f86c9_1 : decode cJ9_max_f86c9 1 = .ok (.lload_n 2, 1) := by decide +kernel
theorem dJ9_max_f86c9_2 : decode cJ9_max_f86c9 2 = .ok (.lcmp, 1) := by decide +kernel
theorem dJ9_max_f86c9_3 : decode cJ9_max_f86c9 3 = .ok (.ifCond .lt 7, 3) := by decide +kernel
theorem dJ9_max_f86c9_6 : decode cJ9_max_f86c9 6 = .ok (.lload_n 0, 1) := by decide +kernel
theorem dJ9_max_f86c9_7 : decode cJ9_max_f86c9 7 = .ok (.goto 4, 3) := by decide +kernel
theorem dJ9_max_f86c9_10 : decode cJ9_max_f86c9 10 = .ok (.lload_n 2, 1) := by decide +kernel
theorem dJ9_max_f86c9_11 : decode cJ9_max_f86c9 11 = .ok (.lreturn, 1) := by decide +kernel
theorem dJ9_min_f86c9_0 : decode cJ9_min_f86c9 0 = .ok (.lload_n 0, 1) := by decide +kernel
theorem dJ9_min_f86c9_1 : decode cJ9_min_f86c9 1 = .ok (.lload_n 2, 1) := by decide +kernel
theorem dJ9_min_f86c9_2 : decode cJ9_min_f86c9 2 = .ok (.lcmp, 1) := by decide +kernel
theorem dJ9_min_f86c9_3 : decode cJ9_min_f86c9 3 = .ok (.ifCond .gt 7, 3) := by decide +kernel
theorem dJ9_min_f86c9_6 : decode cJ9_min_f86c9 6 = .ok (.lload_n 0, 1) := by decide +kernel
theorem dJ9_min_f86c9_7 : decode cJ9_min_f86c9 7 = .ok (.goto 4, 3) := by decide +kernel
theorem dJ9_min_f86c9_10 : decode cJ9_min_f86c9 10 = .ok (.lload_n 2, 1) := by decide +kernel
theorem dJ9_min_f86c9_11 : decode cJ9_min_f86c9 11 = .ok (.lreturn, 1) := by decide +kernel
