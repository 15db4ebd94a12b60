theorem dX0_init_0 : decode cX0_init 0 = .ok (.aload_n 0, 1) := by decide +kernel
theorem dX0_init_1 : decode cX0_init 1 = .ok (.invokespecial 3, 3) := by decide +kernel
theorem dX0_init_4 : decode cX0_init 4 = .ok (.aload_n 0, 1) := by decide +kernel
theorem dX0_init_5 : decode cX0_init 5 = .ok (.iconst 0, 1) := by decide +kernel
theorem dX0_init_6 : decode cX0_init 6 = .ok (.putfield 9, 3) := by decide +kernel
theorem dX0_init_9 : decode cX0_init 9 = .ok (.aload_n 0, 1) := by decide +kernel
theorem dX0_init_10 : decode cX0_init 10 = .ok (.iconst (-1), 1) := by decide +kernel
theorem dX0_init_11 : decode cX0_init 11 = .ok (.putfield 15, 3) := by decide +kernel
theorem dX0_init_14 : decode cX0_init 14 = .ok (.aload_n 0, 1) := by decide +kernel
theorem dX0_init_15 : decode cX0_init 15 = .ok (.iload_n 1, 1) := by decide +kernel
theorem dX0_init_16 : decode cX0_init 16 = .ok (.putfield 18, 3) := by decide +kernel
theorem dX0_init_19 : decode cX0_init 19 = .ok (.aload_n 0, 1) := by decide +kernel
theorem dX0_init_20 : decode cX0_init 20 = .ok (.iload_n 2, 1) := by decide +kernel
theorem dX0_init_21 : decode cX0_init 21 = .ok (.putfield 21, 3) := by decide +kernel
theorem dX0_init_24 : decode cX0_init 24 = .ok (.aload_n 0, 1) := by decide +kernel
theorem dX0_init_25 : decode cX0_init 25 = .ok (.iload_n 3, 1) := by decide +kernel
theorem dX0_init_26 : decode cX0_init 26 = .ok (.putfield 24, 3) := by decide +kernel
theorem dX0_init_29 : decode cX0_init 29 = .ok (.return_, 1) := by decide +kernel
theorem dX0_isOver_0 : decode cX0_isOver 0 = .ok (.aload_n 0, 1) := by decide +kernel
theorem dX0_isOver_1 : decode cX0_isOver 1 = .ok (.getfield 9, 3) := by decide +kernel
theorem dX0_isOver_4 : decode cX0_isOver 4 = .ok (.iconst 3, 1) := by decide +kernel
theorem dX0_isOver_5 : decode cX0_isOver 5 = .ok (.if_icmp .eq 11, 3) := by decide +kernel
theorem dX0_isOver_8 : decode cX0_isOver 8 = .ok (.aload_n 0, 1) := by decide +kernel
theorem dX0_isOver_9 : decode cX0_isOver 9 = .ok (.getfield 9, 3) := by decide +kernel
theorem dX0_isOver_12 : decode cX0_isOver 12 = .ok (.iconst 4, 1) := by decide +kernel
theorem dX0_isOver_13 : decode cX0_isOver 13 = .ok (.if_icmp .ne 7, 3) := by decide +kernel
theorem dX0_isOver_16 : decode cX0_isOver 16 = .ok (.iconst 1, 1) := by decide +kernel
theorem dX0_isOver_17 : decode cX0_isOver 17 = .ok (.goto 4, 3) := by decide +kernel
theorem dX0_isOver_20 : decode cX0_isOver 20 = .ok (.iconst 0, 1) := by decide +kernel
theorem dX0_isOver_21 : decode cX0_isOver 21 = .ok (.ireturn, 1) := by decide +kernel
theorem dX0_beginTreatment_0 : decode cX0_beginTreatment 0 = .ok (.iload_n 2, 1) := by decide +kernel
theorem dX0_beginTreatment_1 : decode cX0_beginTreatment 1 = .ok (.bipush 20, 2) := by decide +kernel
theorem dX0_beginTreatment_3 : decode cX0_beginTreatment 3 = .ok (.imul, 1) := by decide +kernel
theorem dX0_beginTreatment_4 : decode cX0_beginTreatment 4 = .ok (.bipush 100, 2) := by decide +kernel
theorem dX0_beginTreatment_6 : decode cX0_beginTreatment 6 = .ok (.idiv, 1) := by decide +kernel
theorem dX0_beginTreatment_7 : decode cX0_beginTreatment 7 = .ok (.istore 4, 2) := by decide +kernel
theorem dX0_beginTreatment_9 : decode cX0_beginTreatment 9 = .ok (.aload_n 0, 1) := by decide +kernel
theorem dX0_beginTreatment_10 : decode cX0_beginTreatment 10 = .ok (.iconst 1, 1) := by decide +kernel
theorem dX0_beginTreatment_11 : decode cX0_beginTreatment 11 = .ok (.putfield 9, 3) := by decide +kernel
theorem dX0_beginTreatment_14 : decode cX0_beginTreatment 14 = .ok (.aload_n 0, 1) := by decide +kernel
theorem dX0_beginTreatment_15 : decode cX0_beginTreatment 15 = .ok (.iload_n 1, 1) := by decide +kernel
theorem dX0_beginTreatment_16 : decode cX0_beginTreatment 16 = .ok (.putfield 27, 3) := by decide +kernel
theorem dX0_beginTreatment_19 : decode cX0_beginTreatment 19 = .ok (.aload_n 0, 1) := by decide +kernel
theorem dX0_beginTreatment_20 : decode cX0_beginTreatment 20 = .ok (.dup, 1) := by decide +kernel
theorem dX0_beginTreatment_21 : decode cX0_beginTreatment 21 = .ok (.getfield 30, 3) := by decide +kernel
theorem dX0_beginTreatment_24 : decode cX0_beginTreatment 24 = .ok (.iconst 1, 1) := by decide +kernel
theorem dX0_beginTreatment_25 : decode cX0_beginTreatment 25 = .ok (.iadd, 1) := by decide +kernel
theorem dX0_beginTreatment_26 : decode cX0_beginTreatment 26 = .ok (.putfield 30, 3) := by decide +kernel
theorem dX0_beginTreatment_29 : decode cX0_beginTreatment 29 = .ok (.aload_n 0, 1) := by decide +kernel
theorem dX0_beginTreatment_30 : decode cX0_beginTreatment 30 = .ok (.dup, 1) := by decide +kernel
theorem dX0_beginTreatment_31 : decode cX0_beginTreatment 31 = .ok (.getfield 33, 3) := by decide +kernel
theorem dX0_beginTreatment_34 : decode cX0_beginTreatment 34 = .ok (.iload 4, 2) := by decide +kernel
theorem dX0_beginTreatment_36 : decode cX0_beginTreatment 36 = .ok (.iadd, 1) := by decide +kernel
theorem dX0_beginTreatment_37 : decode cX0_beginTreatment 37 = .ok (.putfield 33, 3) := by decide +kernel
theorem dX0_beginTreatment_40 : decode cX0_beginTreatment 40 = .ok (.aload_n 0, 1) := by decide +kernel
theorem dX0_beginTreatment_41 : decode cX0_beginTreatment 41 = .ok (.iload_n 3, 1) := by decide +kernel
theorem dX0_beginTreatment_42 : decode cX0_beginTreatment 42 = .ok (.putfield 36, 3) := by decide +kernel
theorem dX0_beginTreatment_45 : decode cX0_beginTreatment 45 = .ok (.aload_n 0, 1) := by decide +kernel
theorem dX0_beginTreatment_46 : decode cX0_beginTreatment 46 = .ok (.iload_n 3, 1) := by decide +kernel
theorem dX0_beginTreatment_47 : decode cX0_beginTreatment 47 = .ok (.iconst 2, 1) := by decide +kernel
theorem dX0_beginTreatment_48 : decode cX0_beginTreatment 48 = .ok (.iadd, 1) := by decide +kernel
theorem dX0_beginTreatment_49 : decode cX0_beginTreatment 49 = .ok (.iload_n 2, 1) := by decide +kernel
theorem dX0_beginTreatment_50 : decode cX0_beginTreatment 50 = .ok (.bipush 100, 2) := by decide +kernel
theorem dX0_beginTreatment_52 : decode cX0_beginTreatment 52 = .ok (.idiv, 1) := by decide +kernel
theorem dX0_beginTreatment_53 : decode cX0_beginTreatment 53 = .ok (.iadd, 1) := by decide +kernel
theorem dX0_beginTreatment_54 : decode cX0_beginTreatment 54 = .ok (.putfield 39, 3) := by decide +kernel
theorem dX0_beginTreatment_57 : decode cX0_beginTreatment 57 = .ok (.iload_n 2, 1) := by decide +kernel
theorem dX0_beginTreatment_58 : decode cX0_beginTreatment 58 = .ok (.iload 4, 2) := by decide +kernel
theorem dX0_beginTreatment_60 : decode cX0_beginTreatment 60 = .ok (.isub, 1) := by decide +kernel
theorem dX0_beginTreatment_61 : decode cX0_beginTreatment 61 = .ok (.ireturn, 1) := by decide +kernel
theorem dX1_init_0 : decode cX1_init 0 = .ok (.aload_n 0, 1) := by decide +kernel
theorem dX1_init_1 : decode cX1_init 1 = .ok (.invokespecial 3, 3) := by decide +kernel
theorem dX1_init_4 : decode cX1_init 4 = .ok (.aload_n 0, 1) := by decide +kernel
theorem dX1_init_5 : decode cX1_init 5 = .ok (.sipush 500, 3) := by decide +kernel
theorem dX1_init_8 : decode cX1_init 8 = .ok (.putfield 9, 3) := by decide +kernel
theorem dX1_init_11 : decode cX1_init 11 = .ok (.return_, 1) := by decide +kernel
theorem dX1_riverOn_0 : decode cX1_riverOn 0 = .ok (.iload_n 1, 1) := by decide +kernel
theorem dX1_riverOn_1 : decode cX1_riverOn 1 = .ok (.aload_n 0, 1) := by decide +kernel
theorem dX1_riverOn_2 : decode cX1_riverOn 2 = .ok (.getfield 15, 3) := by decide +kernel
theorem dX1_riverOn_5 : decode cX1_riverOn 5 = .ok (.if_icmp .ne 10, 3) := by decide +kernel
theorem dX1_riverOn_8 : decode cX1_riverOn 8 = .ok (.aload_n 0, 1) := by decide +kernel
theorem dX1_riverOn_9 : decode cX1_riverOn 9 = .ok (.getfield 18, 3) := by decide +kernel
theorem dX1_riverOn_12 : decode cX1_riverOn 12 = .ok (.goto 4, 3) := by decide +kernel
theorem dX1_riverOn_15 : decode cX1_riverOn 15 = .ok (.iconst 0, 1) := by decide +kernel
theorem dX1_riverOn_16 : decode cX1_riverOn 16 = .ok (.ireturn, 1) := by decide +kernel
theorem dX1_cleanMinute_0 : decode cX1_cleanMinute 0 = .ok (.aload_n 0, 1) := by decide +kernel
theorem dX1_cleanMinute_1 : decode cX1_cleanMinute 1 = .ok (.getfield 21, 3) := by decide +kernel
theorem dX1_cleanMinute_4 : decode cX1_cleanMinute 4 = .ok (.iconst 3, 1) := by decide +kernel
theorem dX1_cleanMinute_5 : decode cX1_cleanMinute 5 = .ok (.invokestatic 24, 3) := by decide +kernel
theorem dX1_cleanMinute_8 : decode cX1_cleanMinute 8 = .ok (.istore_n 1, 1) := by decide +kernel
theorem dX1_cleanMinute_9 : decode cX1_cleanMinute 9 = .ok (.aload_n 0, 1) := by decide +kernel
theorem dX1_cleanMinute_10 : decode cX1_cleanMinute 10 = .ok (.dup, 1) := by decide +kernel
theorem dX1_cleanMinute_11 : decode cX1_cleanMinute 11 = .ok (.getfield 21, 3) := by decide +kernel
theorem dX1_cleanMinute_14 : decode cX1_cleanMinute 14 = .ok (.iload_n 1, 1) := by decide +kernel
theorem dX1_cleanMinute_15 : decode cX1_cleanMinute 15 = .ok (.isub, 1) := by decide +kernel
theorem dX1_cleanMinute_16 : decode cX1_cleanMinute 16 = .ok (.putfield 21, 3) := by decide +kernel
theorem dX1_cleanMinute_19 : decode cX1_cleanMinute 19 = .ok (.aload_n 0, 1) := by decide +kernel
theorem dX1_cleanMinute_20 : decode cX1_cleanMinute 20 = .ok (.dup, 1) := by decide +kernel
theorem dX1_cleanMinute_21 : decode cX1_cleanMinute 21 = .ok (.getfield 30, 3) := by decide +kernel
theorem dX1_cleanMinute_24 : decode cX1_cleanMinute 24 = .ok (.iload_n 1, 1) := by decide +kernel
theorem dX1_cleanMinute_25 : decode cX1_cleanMinute 25 = .ok (.iadd, 1) := by decide +kernel
theorem dX1_cleanMinute_26 : decode cX1_cleanMinute 26 = .ok (.putfield 30, 3) := by decide +kernel
theorem dX1_cleanMinute_29 : decode cX1_cleanMinute 29 = .ok (.return_, 1) := by decide +kernel
theorem dX2_init_0 : decode cX2_init 0 = .ok (.aload_n 0, 1) := by decide +kernel
theorem dX2_init_1 : decode cX2_init 1 = .ok (.invokespecial 3, 3) := by decide +kernel
theorem dX2_init_4 : decode cX2_init 4 = .ok (.aload_n 0, 1) := by decide +kernel
theorem dX2_init_5 : decode cX2_init 5 = .ok (.iconst 3, 1) := by decide +kernel
theorem dX2_init_6 : decode cX2_init 6 = .ok (.newarray .int, 2) := by decide +kernel
theorem dX2_init_8 : decode cX2_init 8 = .ok (.putfield 9, 3) := by decide +kernel
theorem dX2_init_11 : decode cX2_init 11 = .ok (.aload_n 0, 1) := by decide +kernel
theorem dX2_init_12 : decode cX2_init 12 = .ok (.iconst 3, 1) := by decide +kernel
theorem dX2_init_13 : decode cX2_init 13 = .ok (.iconst 4, 1) := by decide +kernel
theorem dX2_init_14 : decode cX2_init 14 = .ok (.multianewarray 15 2, 4) := by decide +kernel
theorem dX2_init_18 : decode cX2_init 18 = .ok (.putfield 17, 3) := by decide +kernel
theorem dX2_init_21 : decode cX2_init 21 = .ok (.iconst 0, 1) := by decide +kernel
theorem dX2_init_22 : decode cX2_init 22 = .ok (.istore_n 1, 1) := by decide +kernel
theorem dX2_init_23 : decode cX2_init 23 = .ok (.iload_n 1, 1) := by decide +kernel
theorem dX2_init_24 : decode cX2_init 24 = .ok (.iconst 3, 1) := by decide +kernel
theorem dX2_init_25 : decode cX2_init 25 = .ok (.if_icmp .ge 51, 3) := by decide +kernel
theorem dX2_init_28 : decode cX2_init 28 = .ok (.bipush 20, 2) := by decide +kernel
theorem dX2_init_30 : decode cX2_init 30 = .ok (.bipush 40, 2) := by decide +kernel
theorem dX2_init_32 : decode cX2_init 32 = .ok (.iload_n 1, 1) := by decide +kernel
theorem dX2_init_33 : decode cX2_init 33 = .ok (.imul, 1) := by decide +kernel
theorem dX2_init_34 : decode cX2_init 34 = .ok (.iadd, 1) := by decide +kernel
theorem dX2_init_35 : decode cX2_init 35 = .ok (.istore_n 2, 1) := by decide +kernel
theorem dX2_init_36 : decode cX2_init 36 = .ok (.aload_n 0, 1) := by decide +kernel
theorem dX2_init_37 : decode cX2_init 37 = .ok (.getfield 17, 3) := by decide +kernel
theorem dX2_init_40 : decode cX2_init 40 = .ok (.iload_n 1, 1) := by decide +kernel
theorem dX2_init_41 : decode cX2_init 41 = .ok (.aaload, 1) := by decide +kernel
theorem dX2_init_42 : decode cX2_init 42 = .ok (.iconst 1, 1) := by decide +kernel
theorem dX2_init_43 : decode cX2_init 43 = .ok (.iload_n 2, 1) := by decide +kernel
theorem dX2_init_44 : decode cX2_init 44 = .ok (.iastore, 1) := by decide +kernel
theorem dX2_init_45 : decode cX2_init 45 = .ok (.aload_n 0, 1) := by decide +kernel
theorem dX2_init_46 : decode cX2_init 46 = .ok (.getfield 17, 3) := by decide +kernel
theorem dX2_init_49 : decode cX2_init 49 = .ok (.iload_n 1, 1) := by decide +kernel
theorem dX2_init_50 : decode cX2_init 50 = .ok (.aaload, 1) := by decide +kernel
theorem dX2_init_51 : decode cX2_init 51 = .ok (.iconst 2, 1) := by decide +kernel
theorem dX2_init_52 : decode cX2_init 52 = .ok (.iload_n 2, 1) := by decide +kernel
theorem dX2_init_53 : decode cX2_init 53 = .ok (.bipush 30, 2) := by decide +kernel
theorem dX2_init_55 : decode cX2_init 55 = .ok (.isub, 1) := by decide +kernel
theorem dX2_init_56 : decode cX2_init 56 = .ok (.iconst 5, 1) := by decide +kernel
theorem dX2_init_57 : decode cX2_init 57 = .ok (.invokestatic 20, 3) := by decide +kernel
theorem dX2_init_60 : decode cX2_init 60 = .ok (.iastore, 1) := by decide +kernel
theorem dX2_init_61 : decode cX2_init 61 = .ok (.aload_n 0, 1) := by decide +kernel
theorem dX2_init_62 : decode cX2_init 62 = .ok (.getfield 17, 3) := by decide +kernel
theorem dX2_init_65 : decode cX2_init 65 = .ok (.iload_n 1, 1) := by decide +kernel
theorem dX2_init_66 : decode cX2_init 66 = .ok (.aaload, 1) := by decide +kernel
theorem dX2_init_67 : decode cX2_init 67 = .ok (.iconst 3, 1) := by decide +kernel
theorem dX2_init_68 : decode cX2_init 68 = .ok (.iload_n 2, 1) := by decide +kernel
theorem dX2_init_69 : decode cX2_init 69 = .ok (.iastore, 1) := by decide +kernel
theorem dX2_init_70 : decode cX2_init 70 = .ok (.iinc 1 1, 3) := by decide +kernel
theorem dX2_init_73 : decode cX2_init 73 = .ok (.goto (-50), 3) := by decide +kernel
theorem dX2_init_76 : decode cX2_init 76 = .ok (.return_, 1) := by decide +kernel
theorem dX2_inTanks_0 : decode cX2_inTanks 0 = .ok (.iconst 0, 1) := by decide +kernel
theorem dX2_inTanks_1 : decode cX2_inTanks 1 = .ok (.istore_n 1, 1) := by decide +kernel
theorem dX2_inTanks_2 : decode cX2_inTanks 2 = .ok (.iconst 0, 1) := by decide +kernel
theorem dX2_inTanks_3 : decode cX2_inTanks 3 = .ok (.istore_n 2, 1) := by decide +kernel
theorem dX2_inTanks_4 : decode cX2_inTanks 4 = .ok (.iload_n 2, 1) := by decide +kernel
theorem dX2_inTanks_5 : decode cX2_inTanks 5 = .ok (.aload_n 0, 1) := by decide +kernel
theorem dX2_inTanks_6 : decode cX2_inTanks 6 = .ok (.getfield 9, 3) := by decide +kernel
theorem dX2_inTanks_9 : decode cX2_inTanks 9 = .ok (.arraylength, 1) := by decide +kernel
theorem dX2_inTanks_10 : decode cX2_inTanks 10 = .ok (.if_icmp .ge 18, 3) := by decide +kernel
theorem dX2_inTanks_13 : decode cX2_inTanks 13 = .ok (.iload_n 1, 1) := by decide +kernel
theorem dX2_inTanks_14 : decode cX2_inTanks 14 = .ok (.aload_n 0, 1) := by decide +kernel
theorem dX2_inTanks_15 : decode cX2_inTanks 15 = .ok (.getfield 9, 3) := by decide +kernel
theorem dX2_inTanks_18 : decode cX2_inTanks 18 = .ok (.iload_n 2, 1) := by decide +kernel
theorem dX2_inTanks_19 : decode cX2_inTanks 19 = .ok (.iaload, 1) := by decide +kernel
theorem dX2_inTanks_20 : decode cX2_inTanks 20 = .ok (.iadd, 1) := by decide +kernel
theorem dX2_inTanks_21 : decode cX2_inTanks 21 = .ok (.istore_n 1, 1) := by decide +kernel
theorem dX2_inTanks_22 : decode cX2_inTanks 22 = .ok (.iinc 2 1, 3) := by decide +kernel
theorem dX2_inTanks_25 : decode cX2_inTanks 25 = .ok (.goto (-21), 3) := by decide +kernel
theorem dX2_inTanks_28 : decode cX2_inTanks 28 = .ok (.iload_n 1, 1) := by decide +kernel
theorem dX2_inTanks_29 : decode cX2_inTanks 29 = .ok (.ireturn, 1) := by decide +kernel
theorem dX2_holdsFor_0 : decode cX2_holdsFor 0 = .ok (.aload_n 3, 1) := by decide +kernel
theorem dX2_holdsFor_1 : decode cX2_holdsFor 1 = .ok (.getfield 26, 3) := by decide +kernel
theorem dX2_holdsFor_4 : decode cX2_holdsFor 4 = .ok (.ifCond .ne 7, 3) := by decide +kernel
theorem dX2_holdsFor_7 : decode cX2_holdsFor 7 = .ok (.ldc2_w 32, 3) := by decide +kernel
theorem dX2_holdsFor_10 : decode cX2_holdsFor 10 = .ok (.dreturn, 1) := by decide +kernel
theorem dX2_holdsFor_11 : decode cX2_holdsFor 11 = .ok (.aload_n 0, 1) := by decide +kernel
theorem dX2_holdsFor_12 : decode cX2_holdsFor 12 = .ok (.getfield 17, 3) := by decide +kernel
theorem dX2_holdsFor_15 : decode cX2_holdsFor 15 = .ok (.iload_n 1, 1) := by decide +kernel
theorem dX2_holdsFor_16 : decode cX2_holdsFor 16 = .ok (.aaload, 1) := by decide +kernel
theorem dX2_holdsFor_17 : decode cX2_holdsFor 17 = .ok (.aload_n 3, 1) := by decide +kernel
theorem dX2_holdsFor_18 : decode cX2_holdsFor 18 = .ok (.getfield 26, 3) := by decide +kernel
theorem dX2_holdsFor_21 : decode cX2_holdsFor 21 = .ok (.iaload, 1) := by decide +kernel
theorem dX2_holdsFor_22 : decode cX2_holdsFor 22 = .ok (.i2d, 1) := by decide +kernel
theorem dX2_holdsFor_23 : decode cX2_holdsFor 23 = .ok (.iload_n 2, 1) := by decide +kernel
theorem dX2_holdsFor_24 : decode cX2_holdsFor 24 = .ok (.i2d, 1) := by decide +kernel
theorem dX2_holdsFor_25 : decode cX2_holdsFor 25 = .ok (.ldc2_w 34, 3) := by decide +kernel
theorem dX2_holdsFor_28 : decode cX2_holdsFor 28 = .ok (.ddiv, 1) := by decide +kernel
theorem dX2_holdsFor_29 : decode cX2_holdsFor 29 = .ok (.dmul, 1) := by decide +kernel
theorem dX2_holdsFor_30 : decode cX2_holdsFor 30 = .ok (.aload_n 3, 1) := by decide +kernel
theorem dX2_holdsFor_31 : decode cX2_holdsFor 31 = .ok (.invokevirtual 36, 3) := by decide +kernel
theorem dX2_holdsFor_34 : decode cX2_holdsFor 34 = .ok (.dmul, 1) := by decide +kernel
theorem dX2_holdsFor_35 : decode cX2_holdsFor 35 = .ok (.dreturn, 1) := by decide +kernel
theorem dX3_init_0 : decode cX3_init 0 = .ok (.aload_n 0, 1) := by decide +kernel
theorem dX3_init_1 : decode cX3_init 1 = .ok (.invokespecial 3, 3) := by decide +kernel
theorem dX3_init_4 : decode cX3_init 4 = .ok (.aload_n 0, 1) := by decide +kernel
theorem dX3_init_5 : decode cX3_init 5 = .ok (.iconst (-1), 1) := by decide +kernel
theorem dX3_init_6 : decode cX3_init 6 = .ok (.putfield 9, 3) := by decide +kernel
theorem dX3_init_9 : decode cX3_init 9 = .ok (.aload_n 0, 1) := by decide +kernel
theorem dX3_init_10 : decode cX3_init 10 = .ok (.iconst 3, 1) := by decide +kernel
theorem dX3_init_11 : decode cX3_init 11 = .ok (.anewarray 15, 3) := by decide +kernel
theorem dX3_init_14 : decode cX3_init 14 = .ok (.putfield 17, 3) := by decide +kernel
theorem dX3_init_17 : decode cX3_init 17 = .ok (.iconst 0, 1) := by decide +kernel
theorem dX3_init_18 : decode cX3_init 18 = .ok (.istore_n 1, 1) := by decide +kernel
theorem dX3_init_19 : decode cX3_init 19 = .ok (.iload_n 1, 1) := by decide +kernel
theorem dX3_init_20 : decode cX3_init 20 = .ok (.aload_n 0, 1) := by decide +kernel
theorem dX3_init_21 : decode cX3_init 21 = .ok (.getfield 17, 3) := by decide +kernel
theorem dX3_init_24 : decode cX3_init 24 = .ok (.arraylength, 1) := by decide +kernel
theorem dX3_init_25 : decode cX3_init 25 = .ok (.if_icmp .ge 22, 3) := by decide +kernel
theorem dX3_init_28 : decode cX3_init 28 = .ok (.aload_n 0, 1) := by decide +kernel
theorem dX3_init_29 : decode cX3_init 29 = .ok (.getfield 17, 3) := by decide +kernel
theorem dX3_init_32 : decode cX3_init 32 = .ok (.iload_n 1, 1) := by decide +kernel
theorem dX3_init_33 : decode cX3_init 33 = .ok (.new 15, 3) := by decide +kernel
theorem dX3_init_36 : decode cX3_init 36 = .ok (.dup, 1) := by decide +kernel
theorem dX3_init_37 : decode cX3_init 37 = .ok (.invokespecial 21, 3) := by decide +kernel
theorem dX3_init_40 : decode cX3_init 40 = .ok (.aastore, 1) := by decide +kernel
theorem dX3_init_41 : decode cX3_init 41 = .ok (.iinc 1 1, 3) := by decide +kernel
theorem dX3_init_44 : decode cX3_init 44 = .ok (.goto (-25), 3) := by decide +kernel
theorem dX3_init_47 : decode cX3_init 47 = .ok (.return_, 1) := by decide +kernel
theorem dX3_isClosedAt_0 : decode cX3_isClosedAt 0 = .ok (.iload_n 1, 1) := by decide +kernel
theorem dX3_isClosedAt_1 : decode cX3_isClosedAt 1 = .ok (.aload_n 0, 1) := by decide +kernel
theorem dX3_isClosedAt_2 : decode cX3_isClosedAt 2 = .ok (.getfield 9, 3) := by decide +kernel
theorem dX3_isClosedAt_5 : decode cX3_isClosedAt 5 = .ok (.if_icmp .gt 7, 3) := by decide +kernel
theorem dX3_isClosedAt_8 : decode cX3_isClosedAt 8 = .ok (.iconst 1, 1) := by decide +kernel
theorem dX3_isClosedAt_9 : decode cX3_isClosedAt 9 = .ok (.goto 4, 3) := by decide +kernel
theorem dX3_isClosedAt_12 : decode cX3_isClosedAt 12 = .ok (.iconst 0, 1) := by decide +kernel
theorem dX3_isClosedAt_13 : decode cX3_isClosedAt 13 = .ok (.ireturn, 1) := by decide +kernel
theorem dX3_codesSufficeAt_0 : decode cX3_codesSufficeAt 0 = .ok (.aload_n 2, 1) := by decide +kernel
theorem dX3_codesSufficeAt_1 : decode cX3_codesSufficeAt 1 = .ok (.invokevirtual 22, 3) := by decide +kernel
theorem dX3_codesSufficeAt_4 : decode cX3_codesSufficeAt 4 = .ok (.istore_n 3, 1) := by decide +kernel
theorem dX3_codesSufficeAt_5 : decode cX3_codesSufficeAt 5 = .ok (.iconst 0, 1) := by decide +kernel
theorem dX3_codesSufficeAt_6 : decode cX3_codesSufficeAt 6 = .ok (.istore 4, 2) := by decide +kernel
theorem dX3_codesSufficeAt_8 : decode cX3_codesSufficeAt 8 = .ok (.iload 4, 2) := by decide +kernel
theorem dX3_codesSufficeAt_10 : decode cX3_codesSufficeAt 10 = .ok (.aload_n 0, 1) := by decide +kernel
theorem dX3_codesSufficeAt_11 : decode cX3_codesSufficeAt 11 = .ok (.getfield 17, 3) := by decide +kernel
theorem dX3_codesSufficeAt_14 : decode cX3_codesSufficeAt 14 = .ok (.arraylength, 1) := by decide +kernel
theorem dX3_codesSufficeAt_15 : decode cX3_codesSufficeAt 15 = .ok (.if_icmp .ge 27, 3) := by decide +kernel
theorem dX3_codesSufficeAt_18 : decode cX3_codesSufficeAt 18 = .ok (.aload_n 0, 1) := by decide +kernel
theorem dX3_codesSufficeAt_19 : decode cX3_codesSufficeAt 19 = .ok (.getfield 17, 3) := by decide +kernel
theorem dX3_codesSufficeAt_22 : decode cX3_codesSufficeAt 22 = .ok (.iload 4, 2) := by decide +kernel
theorem dX3_codesSufficeAt_24 : decode cX3_codesSufficeAt 24 = .ok (.aaload, 1) := by decide +kernel
theorem dX3_codesSufficeAt_25 : decode cX3_codesSufficeAt 25 = .ok (.iload_n 1, 1) := by decide +kernel
theorem dX3_codesSufficeAt_26 : decode cX3_codesSufficeAt 26 = .ok (.aload_n 2, 1) := by decide +kernel
theorem dX3_codesSufficeAt_27 : decode cX3_codesSufficeAt 27 = .ok (.invokevirtual 28, 3) := by decide +kernel
theorem dX3_codesSufficeAt_30 : decode cX3_codesSufficeAt 30 = .ok (.iload_n 3, 1) := by decide +kernel
theorem dX3_codesSufficeAt_31 : decode cX3_codesSufficeAt 31 = .ok (.if_icmp .ge 5, 3) := by decide +kernel
theorem dX3_codesSufficeAt_34 : decode cX3_codesSufficeAt 34 = .ok (.iconst 0, 1) := by decide +kernel
theorem dX3_codesSufficeAt_35 : decode cX3_codesSufficeAt 35 = .ok (.ireturn, 1) := by decide +kernel
theorem dX3_codesSufficeAt_36 : decode cX3_codesSufficeAt 36 = .ok (.iinc 4 1, 3) := by decide +kernel
theorem dX3_codesSufficeAt_39 : decode cX3_codesSufficeAt 39 = .ok (.goto (-31), 3) := by decide +kernel
theorem dX3_codesSufficeAt_42 : decode cX3_codesSufficeAt 42 = .ok (.iconst 1, 1) := by decide +kernel
theorem dX3_codesSufficeAt_43 : decode cX3_codesSufficeAt 43 = .ok (.ireturn, 1) := by decide +kernel
theorem dX3_isUsableAt_0 : decode cX3_isUsableAt 0 = .ok (.aload_n 0, 1) := by decide +kernel
theorem dX3_isUsableAt_1 : decode cX3_isUsableAt 1 = .ok (.iload_n 1, 1) := by decide +kernel
theorem dX3_isUsableAt_2 : decode cX3_isUsableAt 2 = .ok (.invokevirtual 32, 3) := by decide +kernel
theorem dX3_isUsableAt_5 : decode cX3_isUsableAt 5 = .ok (.ifCond .ne 16, 3) := by decide +kernel
theorem dX3_isUsableAt_8 : decode cX3_isUsableAt 8 = .ok (.aload_n 0, 1) := by decide +kernel
theorem dX3_isUsableAt_9 : decode cX3_isUsableAt 9 = .ok (.iload_n 1, 1) := by decide +kernel
theorem dX3_isUsableAt_10 : decode cX3_isUsableAt 10 = .ok (.aload_n 2, 1) := by decide +kernel
theorem dX3_isUsableAt_11 : decode cX3_isUsableAt 11 = .ok (.invokevirtual 36, 3) := by decide +kernel
theorem dX3_isUsableAt_14 : decode cX3_isUsableAt 14 = .ok (.ifCond .eq 7, 3) := by decide +kernel
theorem dX3_isUsableAt_17 : decode cX3_isUsableAt 17 = .ok (.iconst 1, 1) := by decide +kernel
theorem dX3_isUsableAt_18 : decode cX3_isUsableAt 18 = .ok (.goto 4, 3) := by decide +kernel
theorem dX3_isUsableAt_21 : decode cX3_isUsableAt 21 = .ok (.iconst 0, 1) := by decide +kernel
theorem dX3_isUsableAt_22 : decode cX3_isUsableAt 22 = .ok (.ireturn, 1) := by decide +kernel
theorem dX3_liveMinute_0 : decode cX3_liveMinute 0 = .ok (.iconst 0, 1) := by decide +kernel
theorem dX3_liveMinute_1 : decode cX3_liveMinute 1 = .ok (.istore_n 3, 1) := by decide +kernel
theorem dX3_liveMinute_2 : decode cX3_liveMinute 2 = .ok (.iload_n 3, 1) := by decide +kernel
theorem dX3_liveMinute_3 : decode cX3_liveMinute 3 = .ok (.aload_n 0, 1) := by decide +kernel
theorem dX3_liveMinute_4 : decode cX3_liveMinute 4 = .ok (.getfield 17, 3) := by decide +kernel
theorem dX3_liveMinute_7 : decode cX3_liveMinute 7 = .ok (.arraylength, 1) := by decide +kernel
theorem dX3_liveMinute_8 : decode cX3_liveMinute 8 = .ok (.if_icmp .ge 20, 3) := by decide +kernel
theorem dX3_liveMinute_11 : decode cX3_liveMinute 11 = .ok (.aload_n 0, 1) := by decide +kernel
theorem dX3_liveMinute_12 : decode cX3_liveMinute 12 = .ok (.getfield 17, 3) := by decide +kernel
theorem dX3_liveMinute_15 : decode cX3_liveMinute 15 = .ok (.iload_n 3, 1) := by decide +kernel
theorem dX3_liveMinute_16 : decode cX3_liveMinute 16 = .ok (.aaload, 1) := by decide +kernel
theorem dX3_liveMinute_17 : decode cX3_liveMinute 17 = .ok (.iload_n 1, 1) := by decide +kernel
theorem dX3_liveMinute_18 : decode cX3_liveMinute 18 = .ok (.aload_n 2, 1) := by decide +kernel
theorem dX3_liveMinute_19 : decode cX3_liveMinute 19 = .ok (.invokevirtual 40, 3) := by decide +kernel
theorem dX3_liveMinute_22 : decode cX3_liveMinute 22 = .ok (.iinc 3 1, 3) := by decide +kernel
theorem dX3_liveMinute_25 : decode cX3_liveMinute 25 = .ok (.goto (-23), 3) := by decide +kernel
theorem dX3_liveMinute_28 : decode cX3_liveMinute 28 = .ok (.aload_n 0, 1) := by decide +kernel
theorem dX3_liveMinute_29 : decode cX3_liveMinute 29 = .ok (.iload_n 1, 1) := by decide +kernel
theorem dX3_liveMinute_30 : decode cX3_liveMinute 30 = .ok (.invokevirtual 32, 3) := by decide +kernel
theorem dX3_liveMinute_33 : decode cX3_liveMinute 33 = .ok (.ifCond .eq 7, 3) := by decide +kernel
theorem dX3_liveMinute_36 : decode cX3_liveMinute 36 = .ok (.aload_n 0, 1) := by decide +kernel
theorem dX3_liveMinute_37 : decode cX3_liveMinute 37 = .ok (.invokevirtual 44, 3) := by decide +kernel
theorem dX3_liveMinute_40 : decode cX3_liveMinute 40 = .ok (.return_, 1) := by decide +kernel
theorem dX3_plough_0 : decode cX3_plough 0 = .ok (.aload_n 0, 1) := by decide +kernel
theorem dX3_plough_1 : decode cX3_plough 1 = .ok (.getfield 47, 3) := by decide +kernel
theorem dX3_plough_4 : decode cX3_plough 4 = .ok (.bipush 40, 2) := by decide +kernel
theorem dX3_plough_6 : decode cX3_plough 6 = .ok (.imul, 1) := by decide +kernel
theorem dX3_plough_7 : decode cX3_plough 7 = .ok (.istore_n 1, 1) := by decide +kernel
theorem dX3_plough_8 : decode cX3_plough 8 = .ok (.iconst 0, 1) := by decide +kernel
theorem dX3_plough_9 : decode cX3_plough 9 = .ok (.istore_n 2, 1) := by decide +kernel
theorem dX3_plough_10 : decode cX3_plough 10 = .ok (.iload_n 2, 1) := by decide +kernel
theorem dX3_plough_11 : decode cX3_plough 11 = .ok (.aload_n 0, 1) := by decide +kernel
theorem dX3_plough_12 : decode cX3_plough 12 = .ok (.getfield 17, 3) := by decide +kernel
theorem dX3_plough_15 : decode cX3_plough 15 = .ok (.arraylength, 1) := by decide +kernel
theorem dX3_plough_16 : decode cX3_plough 16 = .ok (.if_icmp .ge 43, 3) := by decide +kernel
theorem dX3_plough_19 : decode cX3_plough 19 = .ok (.aload_n 0, 1) := by decide +kernel
theorem dX3_plough_20 : decode cX3_plough 20 = .ok (.getfield 17, 3) := by decide +kernel
theorem dX3_plough_23 : decode cX3_plough 23 = .ok (.iload_n 2, 1) := by decide +kernel
theorem dX3_plough_24 : decode cX3_plough 24 = .ok (.aaload, 1) := by decide +kernel
theorem dX3_plough_25 : decode cX3_plough 25 = .ok (.iload_n 1, 1) := by decide +kernel
theorem dX3_plough_26 : decode cX3_plough 26 = .ok (.invokevirtual 50, 3) := by decide +kernel
theorem dX3_plough_29 : decode cX3_plough 29 = .ok (.istore_n 3, 1) := by decide +kernel
theorem dX3_plough_30 : decode cX3_plough 30 = .ok (.iload_n 1, 1) := by decide +kernel
theorem dX3_plough_31 : decode cX3_plough 31 = .ok (.iload_n 3, 1) := by decide +kernel
theorem dX3_plough_32 : decode cX3_plough 32 = .ok (.isub, 1) := by decide +kernel
theorem dX3_plough_33 : decode cX3_plough 33 = .ok (.istore_n 1, 1) := by decide +kernel
theorem dX3_plough_34 : decode cX3_plough 34 = .ok (.aload_n 0, 1) := by decide +kernel
theorem dX3_plough_35 : decode cX3_plough 35 = .ok (.dup, 1) := by decide +kernel
theorem dX3_plough_36 : decode cX3_plough 36 = .ok (.getfield 54, 3) := by decide +kernel
theorem dX3_plough_39 : decode cX3_plough 39 = .ok (.iload_n 3, 1) := by decide +kernel
theorem dX3_plough_40 : decode cX3_plough 40 = .ok (.iadd, 1) := by decide +kernel
theorem dX3_plough_41 : decode cX3_plough 41 = .ok (.putfield 54, 3) := by decide +kernel
theorem dX3_plough_44 : decode cX3_plough 44 = .ok (.aload_n 0, 1) := by decide +kernel
theorem dX3_plough_45 : decode cX3_plough 45 = .ok (.getfield 17, 3) := by decide +kernel
theorem dX3_plough_48 : decode cX3_plough 48 = .ok (.iload_n 2, 1) := by decide +kernel
theorem dX3_plough_49 : decode cX3_plough 49 = .ok (.aaload, 1) := by decide +kernel
theorem dX3_plough_50 : decode cX3_plough 50 = .ok (.invokevirtual 57, 3) := by decide +kernel
theorem dX3_plough_53 : decode cX3_plough 53 = .ok (.iinc 2 1, 3) := by decide +kernel
theorem dX3_plough_56 : decode cX3_plough 56 = .ok (.goto (-46), 3) := by decide +kernel
theorem dX3_plough_59 : decode cX3_plough 59 = .ok (.return_, 1) := by decide +kernel
theorem dX4_init_0 : decode cX4_init 0 = .ok (.aload_n 0, 1) := by decide +kernel
theorem dX4_init_1 : decode cX4_init 1 = .ok (.invokespecial 3, 3) := by decide +kernel
theorem dX4_init_4 : decode cX4_init 4 = .ok (.aload_n 0, 1) := by decide +kernel
theorem dX4_init_5 : decode cX4_init 5 = .ok (.iconst 0, 1) := by decide +kernel
theorem dX4_init_6 : decode cX4_init 6 = .ok (.putfield 9, 3) := by decide +kernel
theorem dX4_init_9 : decode cX4_init 9 = .ok (.aload_n 0, 1) := by decide +kernel
theorem dX4_init_10 : decode cX4_init 10 = .ok (.iconst (-1), 1) := by decide +kernel
theorem dX4_init_11 : decode cX4_init 11 = .ok (.putfield 15, 3) := by decide +kernel
theorem dX4_init_14 : decode cX4_init 14 = .ok (.aload_n 0, 1) := by decide +kernel
theorem dX4_init_15 : decode cX4_init 15 = .ok (.iconst (-1), 1) := by decide +kernel
theorem dX4_init_16 : decode cX4_init 16 = .ok (.putfield 18, 3) := by decide +kernel
theorem dX4_init_19 : decode cX4_init 19 = .ok (.return_, 1) := by decide +kernel
theorem dX4_isSprayedAt_0 : decode cX4_isSprayedAt 0 = .ok (.iload_n 1, 1) := by decide +kernel
theorem dX4_isSprayedAt_1 : decode cX4_isSprayedAt 1 = .ok (.aload_n 0, 1) := by decide +kernel
theorem dX4_isSprayedAt_2 : decode cX4_isSprayedAt 2 = .ok (.getfield 15, 3) := by decide +kernel
theorem dX4_isSprayedAt_5 : decode cX4_isSprayedAt 5 = .ok (.if_icmp .gt 7, 3) := by decide +kernel
theorem dX4_isSprayedAt_8 : decode cX4_isSprayedAt 8 = .ok (.iconst 1, 1) := by decide +kernel
theorem dX4_isSprayedAt_9 : decode cX4_isSprayedAt 9 = .ok (.goto 4, 3) := by decide +kernel
theorem dX4_isSprayedAt_12 : decode cX4_isSprayedAt 12 = .ok (.iconst 0, 1) := by decide +kernel
theorem dX4_isSprayedAt_13 : decode cX4_isSprayedAt 13 = .ok (.ireturn, 1) := by decide +kernel
theorem dX4_codeOfWhatLies_0 : decode cX4_codeOfWhatLies 0 = .ok (.aload_n 1, 1) := by decide +kernel
theorem dX4_codeOfWhatLies_1 : decode cX4_codeOfWhatLies 1 = .ok (.getfield 21, 3) := by decide +kernel
theorem dX4_codeOfWhatLies_4 : decode cX4_codeOfWhatLies 4 = .ok (.bipush (-30), 2) := by decide +kernel
theorem dX4_codeOfWhatLies_6 : decode cX4_codeOfWhatLies 6 = .ok (.if_icmp .ge 7, 3) := by decide +kernel
theorem dX4_codeOfWhatLies_9 : decode cX4_codeOfWhatLies 9 = .ok (.iconst 1, 1) := by decide +kernel
theorem dX4_codeOfWhatLies_10 : decode cX4_codeOfWhatLies 10 = .ok (.goto 4, 3) := by decide +kernel
theorem dX4_codeOfWhatLies_13 : decode cX4_codeOfWhatLies 13 = .ok (.iconst 0, 1) := by decide +kernel
theorem dX4_codeOfWhatLies_14 : decode cX4_codeOfWhatLies 14 = .ok (.istore_n 2, 1) := by decide +kernel
theorem dX4_codeOfWhatLies_15 : decode cX4_codeOfWhatLies 15 = .ok (.aload_n 0, 1) := by decide +kernel
theorem dX4_codeOfWhatLies_16 : decode cX4_codeOfWhatLies 16 = .ok (.getfield 9, 3) := by decide +kernel
theorem dX4_codeOfWhatLies_19 : decode cX4_codeOfWhatLies 19 = .ok (.tableswitch 60 0 2 #[25, 28, 30], 25) := by decide +kernel
theorem dX4_codeOfWhatLies_44 : decode cX4_codeOfWhatLies 44 = .ok (.bipush 6, 2) := by decide +kernel
theorem dX4_codeOfWhatLies_46 : decode cX4_codeOfWhatLies 46 = .ok (.ireturn, 1) := by decide +kernel
theorem dX4_codeOfWhatLies_47 : decode cX4_codeOfWhatLies 47 = .ok (.iconst 5, 1) := by decide +kernel
theorem dX4_codeOfWhatLies_48 : decode cX4_codeOfWhatLies 48 = .ok (.ireturn, 1) := by decide +kernel
theorem dX4_codeOfWhatLies_49 : decode cX4_codeOfWhatLies 49 = .ok (.aload_n 0, 1) := by decide +kernel
theorem dX4_codeOfWhatLies_50 : decode cX4_codeOfWhatLies 50 = .ok (.getfield 26, 3) := by decide +kernel
theorem dX4_codeOfWhatLies_53 : decode cX4_codeOfWhatLies 53 = .ok (.bipush 30, 2) := by decide +kernel
theorem dX4_codeOfWhatLies_55 : decode cX4_codeOfWhatLies 55 = .ok (.if_icmp .gt 9, 3) := by decide +kernel
theorem dX4_codeOfWhatLies_58 : decode cX4_codeOfWhatLies 58 = .ok (.iload_n 2, 1) := by decide +kernel
theorem dX4_codeOfWhatLies_59 : decode cX4_codeOfWhatLies 59 = .ok (.ifCond .eq 5, 3) := by decide +kernel
theorem dX4_codeOfWhatLies_62 : decode cX4_codeOfWhatLies 62 = .ok (.iconst 5, 1) := by decide +kernel
theorem dX4_codeOfWhatLies_63 : decode cX4_codeOfWhatLies 63 = .ok (.ireturn, 1) := by decide +kernel
theorem dX4_codeOfWhatLies_64 : decode cX4_codeOfWhatLies 64 = .ok (.aload_n 0, 1) := by decide +kernel
theorem dX4_codeOfWhatLies_65 : decode cX4_codeOfWhatLies 65 = .ok (.getfield 26, 3) := by decide +kernel
theorem dX4_codeOfWhatLies_68 : decode cX4_codeOfWhatLies 68 = .ok (.bipush 100, 2) := by decide +kernel
theorem dX4_codeOfWhatLies_70 : decode cX4_codeOfWhatLies 70 = .ok (.if_icmp .gt 7, 3) := by decide +kernel
theorem dX4_codeOfWhatLies_73 : decode cX4_codeOfWhatLies 73 = .ok (.iconst 3, 1) := by decide +kernel
theorem dX4_codeOfWhatLies_74 : decode cX4_codeOfWhatLies 74 = .ok (.goto 4, 3) := by decide +kernel
theorem dX4_codeOfWhatLies_77 : decode cX4_codeOfWhatLies 77 = .ok (.iconst 2, 1) := by decide +kernel
theorem dX4_codeOfWhatLies_78 : decode cX4_codeOfWhatLies 78 = .ok (.ireturn, 1) := by decide +kernel
theorem dX4_codeOfWhatLies_79 : decode cX4_codeOfWhatLies 79 = .ok (.iload_n 2, 1) := by decide +kernel
theorem dX4_codeOfWhatLies_80 : decode cX4_codeOfWhatLies 80 = .ok (.ifCond .eq 7, 3) := by decide +kernel
theorem dX4_codeOfWhatLies_83 : decode cX4_codeOfWhatLies 83 = .ok (.iconst 1, 1) := by decide +kernel
theorem dX4_codeOfWhatLies_84 : decode cX4_codeOfWhatLies 84 = .ok (.goto 4, 3) := by decide +kernel
theorem dX4_codeOfWhatLies_87 : decode cX4_codeOfWhatLies 87 = .ok (.iconst 0, 1) := by decide +kernel
theorem dX4_codeOfWhatLies_88 : decode cX4_codeOfWhatLies 88 = .ok (.ireturn, 1) := by decide +kernel
theorem dX4_codeAt_0 : decode cX4_codeAt 0 = .ok (.aload_n 0, 1) := by decide +kernel
theorem dX4_codeAt_1 : decode cX4_codeAt 1 = .ok (.aload_n 2, 1) := by decide +kernel
theorem dX4_codeAt_2 : decode cX4_codeAt 2 = .ok (.invokevirtual 29, 3) := by decide +kernel
theorem dX4_codeAt_5 : decode cX4_codeAt 5 = .ok (.istore_n 3, 1) := by decide +kernel
theorem dX4_codeAt_6 : decode cX4_codeAt 6 = .ok (.aload_n 0, 1) := by decide +kernel
theorem dX4_codeAt_7 : decode cX4_codeAt 7 = .ok (.getfield 18, 3) := by decide +kernel
theorem dX4_codeAt_10 : decode cX4_codeAt 10 = .ok (.iconst (-1), 1) := by decide +kernel
theorem dX4_codeAt_11 : decode cX4_codeAt 11 = .ok (.if_icmp .eq 18, 3) := by decide +kernel
theorem dX4_codeAt_14 : decode cX4_codeAt 14 = .ok (.iload_n 1, 1) := by decide +kernel
theorem dX4_codeAt_15 : decode cX4_codeAt 15 = .ok (.aload_n 0, 1) := by decide +kernel
theorem dX4_codeAt_16 : decode cX4_codeAt 16 = .ok (.getfield 18, 3) := by decide +kernel
theorem dX4_codeAt_19 : decode cX4_codeAt 19 = .ok (.isub, 1) := by decide +kernel
theorem dX4_codeAt_20 : decode cX4_codeAt 20 = .ok (.bipush 30, 2) := by decide +kernel
theorem dX4_codeAt_22 : decode cX4_codeAt 22 = .ok (.if_icmp .gt 7, 3) := by decide +kernel
theorem dX4_codeAt_25 : decode cX4_codeAt 25 = .ok (.iconst 1, 1) := by decide +kernel
theorem dX4_codeAt_26 : decode cX4_codeAt 26 = .ok (.goto 4, 3) := by decide +kernel
theorem dX4_codeAt_29 : decode cX4_codeAt 29 = .ok (.iconst 0, 1) := by decide +kernel
theorem dX4_codeAt_30 : decode cX4_codeAt 30 = .ok (.istore 4, 2) := by decide +kernel
theorem dX4_codeAt_32 : decode cX4_codeAt 32 = .ok (.iload 4, 2) := by decide +kernel
theorem dX4_codeAt_34 : decode cX4_codeAt 34 = .ok (.ifCond .eq 18, 3) := by decide +kernel
theorem dX4_codeAt_37 : decode cX4_codeAt 37 = .ok (.aload_n 0, 1) := by decide +kernel
theorem dX4_codeAt_38 : decode cX4_codeAt 38 = .ok (.getfield 33, 3) := by decide +kernel
theorem dX4_codeAt_41 : decode cX4_codeAt 41 = .ok (.iload_n 3, 1) := by decide +kernel
theorem dX4_codeAt_42 : decode cX4_codeAt 42 = .ok (.if_icmp .ge 10, 3) := by decide +kernel
theorem dX4_codeAt_45 : decode cX4_codeAt 45 = .ok (.aload_n 0, 1) := by decide +kernel
theorem dX4_codeAt_46 : decode cX4_codeAt 46 = .ok (.getfield 33, 3) := by decide +kernel
theorem dX4_codeAt_49 : decode cX4_codeAt 49 = .ok (.goto 4, 3) := by decide +kernel
theorem dX4_codeAt_52 : decode cX4_codeAt 52 = .ok (.iload_n 3, 1) := by decide +kernel
theorem dX4_codeAt_53 : decode cX4_codeAt 53 = .ok (.ireturn, 1) := by decide +kernel
theorem dX4_liveMinute_0 : decode cX4_liveMinute 0 = .ok (.aload_n 2, 1) := by decide +kernel
theorem dX4_liveMinute_1 : decode cX4_liveMinute 1 = .ok (.getfield 21, 3) := by decide +kernel
theorem dX4_liveMinute_4 : decode cX4_liveMinute 4 = .ok (.ifCond .ge 15, 3) := by decide +kernel
theorem dX4_liveMinute_7 : decode cX4_liveMinute 7 = .ok (.aload_n 0, 1) := by decide +kernel
theorem dX4_liveMinute_8 : decode cX4_liveMinute 8 = .ok (.iload_n 1, 1) := by decide +kernel
theorem dX4_liveMinute_9 : decode cX4_liveMinute 9 = .ok (.invokevirtual 36, 3) := by decide +kernel
theorem dX4_liveMinute_12 : decode cX4_liveMinute 12 = .ok (.ifCond .ne 7, 3) := by decide +kernel
theorem dX4_liveMinute_15 : decode cX4_liveMinute 15 = .ok (.iconst 1, 1) := by decide +kernel
theorem dX4_liveMinute_16 : decode cX4_liveMinute 16 = .ok (.goto 4, 3) := by decide +kernel
theorem dX4_liveMinute_19 : decode cX4_liveMinute 19 = .ok (.iconst 0, 1) := by decide +kernel
theorem dX4_liveMinute_20 : decode cX4_liveMinute 20 = .ok (.istore_n 3, 1) := by decide +kernel
theorem dX4_liveMinute_21 : decode cX4_liveMinute 21 = .ok (.aload_n 2, 1) := by decide +kernel
theorem dX4_liveMinute_22 : decode cX4_liveMinute 22 = .ok (.getfield 40, 3) := by decide +kernel
theorem dX4_liveMinute_25 : decode cX4_liveMinute 25 = .ok (.iconst 1, 1) := by decide +kernel
theorem dX4_liveMinute_26 : decode cX4_liveMinute 26 = .ok (.if_icmp .ne 14, 3) := by decide +kernel
theorem dX4_liveMinute_29 : decode cX4_liveMinute 29 = .ok (.aload_n 0, 1) := by decide +kernel
theorem dX4_liveMinute_30 : decode cX4_liveMinute 30 = .ok (.aload_n 2, 1) := by decide +kernel
theorem dX4_liveMinute_31 : decode cX4_liveMinute 31 = .ok (.getfield 43, 3) := by decide +kernel
theorem dX4_liveMinute_34 : decode cX4_liveMinute 34 = .ok (.invokevirtual 46, 3) := by decide +kernel
theorem dX4_liveMinute_37 : decode cX4_liveMinute 37 = .ok (.goto 39, 3) := by decide +kernel
theorem dX4_liveMinute_40 : decode cX4_liveMinute 40 = .ok (.aload_n 2, 1) := by decide +kernel
theorem dX4_liveMinute_41 : decode cX4_liveMinute 41 = .ok (.getfield 40, 3) := by decide +kernel
theorem dX4_liveMinute_44 : decode cX4_liveMinute 44 = .ok (.iconst 2, 1) := by decide +kernel
theorem dX4_liveMinute_45 : decode cX4_liveMinute 45 = .ok (.if_icmp .ne 15, 3) := by decide +kernel
theorem dX4_liveMinute_48 : decode cX4_liveMinute 48 = .ok (.aload_n 0, 1) := by decide +kernel
theorem dX4_liveMinute_49 : decode cX4_liveMinute 49 = .ok (.aload_n 2, 1) := by decide +kernel
theorem dX4_liveMinute_50 : decode cX4_liveMinute 50 = .ok (.getfield 43, 3) := by decide +kernel
theorem dX4_liveMinute_53 : decode cX4_liveMinute 53 = .ok (.iload_n 3, 1) := by decide +kernel
theorem dX4_liveMinute_54 : decode cX4_liveMinute 54 = .ok (.invokevirtual 50, 3) := by decide +kernel
theorem dX4_liveMinute_57 : decode cX4_liveMinute 57 = .ok (.goto 19, 3) := by decide +kernel
theorem dX4_liveMinute_60 : decode cX4_liveMinute 60 = .ok (.aload_n 2, 1) := by decide +kernel
theorem dX4_liveMinute_61 : decode cX4_liveMinute 61 = .ok (.getfield 40, 3) := by decide +kernel
theorem dX4_liveMinute_64 : decode cX4_liveMinute 64 = .ok (.iconst 3, 1) := by decide +kernel
theorem dX4_liveMinute_65 : decode cX4_liveMinute 65 = .ok (.if_icmp .ne 11, 3) := by decide +kernel
theorem dX4_liveMinute_68 : decode cX4_liveMinute 68 = .ok (.iload_n 3, 1) := by decide +kernel
theorem dX4_liveMinute_69 : decode cX4_liveMinute 69 = .ok (.ifCond .eq 7, 3) := by decide +kernel
theorem dX4_liveMinute_72 : decode cX4_liveMinute 72 = .ok (.aload_n 0, 1) := by decide +kernel
theorem dX4_liveMinute_73 : decode cX4_liveMinute 73 = .ok (.invokevirtual 54, 3) := by decide +kernel
theorem dX4_liveMinute_76 : decode cX4_liveMinute 76 = .ok (.aload_n 2, 1) := by decide +kernel
theorem dX4_liveMinute_77 : decode cX4_liveMinute 77 = .ok (.getfield 21, 3) := by decide +kernel
theorem dX4_liveMinute_80 : decode cX4_liveMinute 80 = .ok (.bipush 20, 2) := by decide +kernel
theorem dX4_liveMinute_82 : decode cX4_liveMinute 82 = .ok (.if_icmp .le 7, 3) := by decide +kernel
theorem dX4_liveMinute_85 : decode cX4_liveMinute 85 = .ok (.aload_n 0, 1) := by decide +kernel
theorem dX4_liveMinute_86 : decode cX4_liveMinute 86 = .ok (.invokevirtual 57, 3) := by decide +kernel
theorem dX4_liveMinute_89 : decode cX4_liveMinute 89 = .ok (.iload_n 3, 1) := by decide +kernel
theorem dX4_liveMinute_90 : decode cX4_liveMinute 90 = .ok (.ifCond .eq 15, 3) := by decide +kernel
theorem dX4_liveMinute_93 : decode cX4_liveMinute 93 = .ok (.aload_n 0, 1) := by decide +kernel
theorem dX4_liveMinute_94 : decode cX4_liveMinute 94 = .ok (.getfield 9, 3) := by decide +kernel
theorem dX4_liveMinute_97 : decode cX4_liveMinute 97 = .ok (.iconst 1, 1) := by decide +kernel
theorem dX4_liveMinute_98 : decode cX4_liveMinute 98 = .ok (.if_icmp .ne 7, 3) := by decide +kernel
theorem dX4_liveMinute_101 : decode cX4_liveMinute 101 = .ok (.aload_n 0, 1) := by decide +kernel
theorem dX4_liveMinute_102 : decode cX4_liveMinute 102 = .ok (.invokevirtual 54, 3) := by decide +kernel
theorem dX4_liveMinute_105 : decode cX4_liveMinute 105 = .ok (.return_, 1) := by decide +kernel
theorem dX4_snowOn_0 : decode cX4_snowOn 0 = .ok (.aload_n 0, 1) := by decide +kernel
theorem dX4_snowOn_1 : decode cX4_snowOn 1 = .ok (.getfield 9, 3) := by decide +kernel
theorem dX4_snowOn_4 : decode cX4_snowOn 4 = .ok (.iconst 3, 1) := by decide +kernel
theorem dX4_snowOn_5 : decode cX4_snowOn 5 = .ok (.if_icmp .eq 8, 3) := by decide +kernel
theorem dX4_snowOn_8 : decode cX4_snowOn 8 = .ok (.aload_n 0, 1) := by decide +kernel
theorem dX4_snowOn_9 : decode cX4_snowOn 9 = .ok (.iconst 2, 1) := by decide +kernel
theorem dX4_snowOn_10 : decode cX4_snowOn 10 = .ok (.putfield 9, 3) := by decide +kernel
theorem dX4_snowOn_13 : decode cX4_snowOn 13 = .ok (.aload_n 0, 1) := by decide +kernel
theorem dX4_snowOn_14 : decode cX4_snowOn 14 = .ok (.iload_n 1, 1) := by decide +kernel
theorem dX4_snowOn_15 : decode cX4_snowOn 15 = .ok (.invokevirtual 60, 3) := by decide +kernel
theorem dX4_snowOn_18 : decode cX4_snowOn 18 = .ok (.return_, 1) := by decide +kernel
theorem dX4_rainOn_0 : decode cX4_rainOn 0 = .ok (.iload_n 2, 1) := by decide +kernel
theorem dX4_rainOn_1 : decode cX4_rainOn 1 = .ok (.ifCond .eq 16, 3) := by decide +kernel
theorem dX4_rainOn_4 : decode cX4_rainOn 4 = .ok (.aload_n 0, 1) := by decide +kernel
theorem dX4_rainOn_5 : decode cX4_rainOn 5 = .ok (.iconst 3, 1) := by decide +kernel
theorem dX4_rainOn_6 : decode cX4_rainOn 6 = .ok (.putfield 9, 3) := by decide +kernel
theorem dX4_rainOn_9 : decode cX4_rainOn 9 = .ok (.aload_n 0, 1) := by decide +kernel
theorem dX4_rainOn_10 : decode cX4_rainOn 10 = .ok (.iload_n 1, 1) := by decide +kernel
theorem dX4_rainOn_11 : decode cX4_rainOn 11 = .ok (.invokevirtual 60, 3) := by decide +kernel
theorem dX4_rainOn_14 : decode cX4_rainOn 14 = .ok (.goto 20, 3) := by decide +kernel
theorem dX4_rainOn_17 : decode cX4_rainOn 17 = .ok (.aload_n 0, 1) := by decide +kernel
theorem dX4_rainOn_18 : decode cX4_rainOn 18 = .ok (.getfield 9, 3) := by decide +kernel
theorem dX4_rainOn_21 : decode cX4_rainOn 21 = .ok (.ifCond .ne 13, 3) := by decide +kernel
theorem dX4_rainOn_24 : decode cX4_rainOn 24 = .ok (.aload_n 0, 1) := by decide +kernel
theorem dX4_rainOn_25 : decode cX4_rainOn 25 = .ok (.iconst 1, 1) := by decide +kernel
theorem dX4_rainOn_26 : decode cX4_rainOn 26 = .ok (.putfield 9, 3) := by decide +kernel
theorem dX4_rainOn_29 : decode cX4_rainOn 29 = .ok (.aload_n 0, 1) := by decide +kernel
theorem dX4_rainOn_30 : decode cX4_rainOn 30 = .ok (.iconst 0, 1) := by decide +kernel
theorem dX4_rainOn_31 : decode cX4_rainOn 31 = .ok (.putfield 26, 3) := by decide +kernel
theorem dX4_rainOn_34 : decode cX4_rainOn 34 = .ok (.return_, 1) := by decide +kernel
theorem dX4_iceOver_0 : decode cX4_iceOver 0 = .ok (.aload_n 0, 1) := by decide +kernel
theorem dX4_iceOver_1 : decode cX4_iceOver 1 = .ok (.getfield 9, 3) := by decide +kernel
theorem dX4_iceOver_4 : decode cX4_iceOver 4 = .ok (.ifCond .eq 11, 3) := by decide +kernel
theorem dX4_iceOver_7 : decode cX4_iceOver 7 = .ok (.aload_n 0, 1) := by decide +kernel
theorem dX4_iceOver_8 : decode cX4_iceOver 8 = .ok (.getfield 9, 3) := by decide +kernel
theorem dX4_iceOver_11 : decode cX4_iceOver 11 = .ok (.iconst 1, 1) := by decide +kernel
theorem dX4_iceOver_12 : decode cX4_iceOver 12 = .ok (.if_icmp .ne 13, 3) := by decide +kernel
theorem dX4_iceOver_15 : decode cX4_iceOver 15 = .ok (.aload_n 0, 1) := by decide +kernel
theorem dX4_iceOver_16 : decode cX4_iceOver 16 = .ok (.iconst 3, 1) := by decide +kernel
theorem dX4_iceOver_17 : decode cX4_iceOver 17 = .ok (.putfield 9, 3) := by decide +kernel
theorem dX4_iceOver_20 : decode cX4_iceOver 20 = .ok (.aload_n 0, 1) := by decide +kernel
theorem dX4_iceOver_21 : decode cX4_iceOver 21 = .ok (.iconst 1, 1) := by decide +kernel
theorem dX4_iceOver_22 : decode cX4_iceOver 22 = .ok (.putfield 26, 3) := by decide +kernel
theorem dX4_iceOver_25 : decode cX4_iceOver 25 = .ok (.return_, 1) := by decide +kernel
theorem dX4_melt_0 : decode cX4_melt 0 = .ok (.aload_n 0, 1) := by decide +kernel
theorem dX4_melt_1 : decode cX4_melt 1 = .ok (.getfield 9, 3) := by decide +kernel
theorem dX4_melt_4 : decode cX4_melt 4 = .ok (.iconst 2, 1) := by decide +kernel
theorem dX4_melt_5 : decode cX4_melt 5 = .ok (.if_icmp .eq 12, 3) := by decide +kernel
theorem dX4_melt_8 : decode cX4_melt 8 = .ok (.aload_n 0, 1) := by decide +kernel
theorem dX4_melt_9 : decode cX4_melt 9 = .ok (.getfield 9, 3) := by decide +kernel
theorem dX4_melt_12 : decode cX4_melt 12 = .ok (.iconst 3, 1) := by decide +kernel
theorem dX4_melt_13 : decode cX4_melt 13 = .ok (.if_icmp .eq 4, 3) := by decide +kernel
theorem dX4_melt_16 : decode cX4_melt 16 = .ok (.return_, 1) := by decide +kernel
theorem dX4_melt_17 : decode cX4_melt 17 = .ok (.aload_n 0, 1) := by decide +kernel
theorem dX4_melt_18 : decode cX4_melt 18 = .ok (.dup, 1) := by decide +kernel
theorem dX4_melt_19 : decode cX4_melt 19 = .ok (.getfield 26, 3) := by decide +kernel
theorem dX4_melt_22 : decode cX4_melt 22 = .ok (.iconst 2, 1) := by decide +kernel
theorem dX4_melt_23 : decode cX4_melt 23 = .ok (.isub, 1) := by decide +kernel
theorem dX4_melt_24 : decode cX4_melt 24 = .ok (.putfield 26, 3) := by decide +kernel
theorem dX4_melt_27 : decode cX4_melt 27 = .ok (.aload_n 0, 1) := by decide +kernel
theorem dX4_melt_28 : decode cX4_melt 28 = .ok (.getfield 26, 3) := by decide +kernel
theorem dX4_melt_31 : decode cX4_melt 31 = .ok (.ifCond .gt 13, 3) := by decide +kernel
theorem dX4_melt_34 : decode cX4_melt 34 = .ok (.aload_n 0, 1) := by decide +kernel
theorem dX4_melt_35 : decode cX4_melt 35 = .ok (.iconst 1, 1) := by decide +kernel
theorem dX4_melt_36 : decode cX4_melt 36 = .ok (.putfield 9, 3) := by decide +kernel
theorem dX4_melt_39 : decode cX4_melt 39 = .ok (.aload_n 0, 1) := by decide +kernel
theorem dX4_melt_40 : decode cX4_melt 40 = .ok (.iconst 0, 1) := by decide +kernel
theorem dX4_melt_41 : decode cX4_melt 41 = .ok (.putfield 26, 3) := by decide +kernel
theorem dX4_melt_44 : decode cX4_melt 44 = .ok (.return_, 1) := by decide +kernel
theorem dX4_addDepth_0 : decode cX4_addDepth 0 = .ok (.aload_n 0, 1) := by decide +kernel
theorem dX4_addDepth_1 : decode cX4_addDepth 1 = .ok (.aload_n 0, 1) := by decide +kernel
theorem dX4_addDepth_2 : decode cX4_addDepth 2 = .ok (.getfield 26, 3) := by decide +kernel
theorem dX4_addDepth_5 : decode cX4_addDepth 5 = .ok (.iload_n 1, 1) := by decide +kernel
theorem dX4_addDepth_6 : decode cX4_addDepth 6 = .ok (.iadd, 1) := by decide +kernel
theorem dX4_addDepth_7 : decode cX4_addDepth 7 = .ok (.sipush 5000, 3) := by decide +kernel
theorem dX4_addDepth_10 : decode cX4_addDepth 10 = .ok (.invokestatic 63, 3) := by decide +kernel
theorem dX4_addDepth_13 : decode cX4_addDepth 13 = .ok (.putfield 26, 3) := by decide +kernel
theorem dX4_addDepth_16 : decode cX4_addDepth 16 = .ok (.return_, 1) := by decide +kernel
theorem dX4_ploughUpTo_0 : decode cX4_ploughUpTo 0 = .ok (.aload_n 0, 1) := by decide +kernel
theorem dX4_ploughUpTo_1 : decode cX4_ploughUpTo 1 = .ok (.getfield 9, 3) := by decide +kernel
theorem dX4_ploughUpTo_4 : decode cX4_ploughUpTo 4 = .ok (.iconst 2, 1) := by decide +kernel
theorem dX4_ploughUpTo_5 : decode cX4_ploughUpTo 5 = .ok (.if_icmp .eq 5, 3) := by decide +kernel
theorem dX4_ploughUpTo_8 : decode cX4_ploughUpTo 8 = .ok (.iconst 0, 1) := by decide +kernel
theorem dX4_ploughUpTo_9 : decode cX4_ploughUpTo 9 = .ok (.ireturn, 1) := by decide +kernel
theorem dX4_ploughUpTo_10 : decode cX4_ploughUpTo 10 = .ok (.aload_n 0, 1) := by decide +kernel
theorem dX4_ploughUpTo_11 : decode cX4_ploughUpTo 11 = .ok (.getfield 26, 3) := by decide +kernel
theorem dX4_ploughUpTo_14 : decode cX4_ploughUpTo 14 = .ok (.iload_n 1, 1) := by decide +kernel
theorem dX4_ploughUpTo_15 : decode cX4_ploughUpTo 15 = .ok (.invokestatic 63, 3) := by decide +kernel
theorem dX4_ploughUpTo_18 : decode cX4_ploughUpTo 18 = .ok (.istore_n 2, 1) := by decide +kernel
theorem dX4_ploughUpTo_19 : decode cX4_ploughUpTo 19 = .ok (.aload_n 0, 1) := by decide +kernel
theorem dX4_ploughUpTo_20 : decode cX4_ploughUpTo 20 = .ok (.dup, 1) := by decide +kernel
theorem dX4_ploughUpTo_21 : decode cX4_ploughUpTo 21 = .ok (.getfield 26, 3) := by decide +kernel
theorem dX4_ploughUpTo_24 : decode cX4_ploughUpTo 24 = .ok (.iload_n 2, 1) := by decide +kernel
theorem dX4_ploughUpTo_25 : decode cX4_ploughUpTo 25 = .ok (.isub, 1) := by decide +kernel
theorem dX4_ploughUpTo_26 : decode cX4_ploughUpTo 26 = .ok (.putfield 26, 3) := by decide +kernel
theorem dX4_ploughUpTo_29 : decode cX4_ploughUpTo 29 = .ok (.iload_n 2, 1) := by decide +kernel
theorem dX4_ploughUpTo_30 : decode cX4_ploughUpTo 30 = .ok (.ireturn, 1) := by decide +kernel
theorem dX4_wetIfBare_0 : decode cX4_wetIfBare 0 = .ok (.aload_n 0, 1) := by decide +kernel
theorem dX4_wetIfBare_1 : decode cX4_wetIfBare 1 = .ok (.getfield 9, 3) := by decide +kernel
theorem dX4_wetIfBare_4 : decode cX4_wetIfBare 4 = .ok (.iconst 2, 1) := by decide +kernel
theorem dX4_wetIfBare_5 : decode cX4_wetIfBare 5 = .ok (.if_icmp .ne 15, 3) := by decide +kernel
theorem dX4_wetIfBare_8 : decode cX4_wetIfBare 8 = .ok (.aload_n 0, 1) := by decide +kernel
theorem dX4_wetIfBare_9 : decode cX4_wetIfBare 9 = .ok (.getfield 26, 3) := by decide +kernel
theorem dX4_wetIfBare_12 : decode cX4_wetIfBare 12 = .ok (.ifCond .ne 8, 3) := by decide +kernel
theorem dX4_wetIfBare_15 : decode cX4_wetIfBare 15 = .ok (.aload_n 0, 1) := by decide +kernel
theorem dX4_wetIfBare_16 : decode cX4_wetIfBare 16 = .ok (.iconst 1, 1) := by decide +kernel
theorem dX4_wetIfBare_17 : decode cX4_wetIfBare 17 = .ok (.putfield 9, 3) := by decide +kernel
theorem dX4_wetIfBare_20 : decode cX4_wetIfBare 20 = .ok (.return_, 1) := by decide +kernel
theorem dX5_init_0 : decode cX5_init 0 = .ok (.aload_n 0, 1) := by decide +kernel
theorem dX5_init_1 : decode cX5_init 1 = .ok (.invokespecial 1, 3) := by decide +kernel
theorem dX5_init_4 : decode cX5_init 4 = .ok (.return_, 1) := by decide +kernel
theorem dX5_codeNeeded_0 : decode cX5_codeNeeded 0 = .ok (.aload_n 0, 1) := by decide +kernel
theorem dX5_codeNeeded_1 : decode cX5_codeNeeded 1 = .ok (.getfield 7, 3) := by decide +kernel
theorem dX5_codeNeeded_4 : decode cX5_codeNeeded 4 = .ok (.bipush 10, 2) := by decide +kernel
theorem dX5_codeNeeded_6 : decode cX5_codeNeeded 6 = .ok (.if_icmp .gt 5, 3) := by decide +kernel
theorem dX5_codeNeeded_9 : decode cX5_codeNeeded 9 = .ok (.iconst 1, 1) := by decide +kernel
theorem dX5_codeNeeded_10 : decode cX5_codeNeeded 10 = .ok (.ireturn, 1) := by decide +kernel
theorem dX5_codeNeeded_11 : decode cX5_codeNeeded 11 = .ok (.aload_n 0, 1) := by decide +kernel
theorem dX5_codeNeeded_12 : decode cX5_codeNeeded 12 = .ok (.getfield 7, 3) := by decide +kernel
theorem dX5_codeNeeded_15 : decode cX5_codeNeeded 15 = .ok (.bipush 20, 2) := by decide +kernel
theorem dX5_codeNeeded_17 : decode cX5_codeNeeded 17 = .ok (.if_icmp .gt 5, 3) := by decide +kernel
theorem dX5_codeNeeded_20 : decode cX5_codeNeeded 20 = .ok (.iconst 3, 1) := by decide +kernel
theorem dX5_codeNeeded_21 : decode cX5_codeNeeded 21 = .ok (.ireturn, 1) := by decide +kernel
theorem dX5_codeNeeded_22 : decode cX5_codeNeeded 22 = .ok (.aload_n 0, 1) := by decide +kernel
theorem dX5_codeNeeded_23 : decode cX5_codeNeeded 23 = .ok (.getfield 7, 3) := by decide +kernel
theorem dX5_codeNeeded_26 : decode cX5_codeNeeded 26 = .ok (.bipush 30, 2) := by decide +kernel
theorem dX5_codeNeeded_28 : decode cX5_codeNeeded 28 = .ok (.if_icmp .gt 7, 3) := by decide +kernel
theorem dX5_codeNeeded_31 : decode cX5_codeNeeded 31 = .ok (.iconst 5, 1) := by decide +kernel
theorem dX5_codeNeeded_32 : decode cX5_codeNeeded 32 = .ok (.goto 5, 3) := by decide +kernel
theorem dX5_codeNeeded_35 : decode cX5_codeNeeded 35 = .ok (.bipush 7, 2) := by decide +kernel
theorem dX5_codeNeeded_37 : decode cX5_codeNeeded 37 = .ok (.ireturn, 1) := by decide +kernel
theorem dX5_holdFactor_0 : decode cX5_holdFactor 0 = .ok (.aload_n 0, 1) := by decide +kernel
theorem dX5_holdFactor_1 : decode cX5_holdFactor 1 = .ok (.getfield 13, 3) := by decide +kernel
theorem dX5_holdFactor_4 : decode cX5_holdFactor 4 = .ok (.bipush (-30), 2) := by decide +kernel
theorem dX5_holdFactor_6 : decode cX5_holdFactor 6 = .ok (.if_icmp .lt 5, 3) := by decide +kernel
theorem dX5_holdFactor_9 : decode cX5_holdFactor 9 = .ok (.dconst 1, 1) := by decide +kernel
theorem dX5_holdFactor_10 : decode cX5_holdFactor 10 = .ok (.dreturn, 1) := by decide +kernel
theorem dX5_holdFactor_11 : decode cX5_holdFactor 11 = .ok (.aload_n 0, 1) := by decide +kernel
theorem dX5_holdFactor_12 : decode cX5_holdFactor 12 = .ok (.getfield 13, 3) := by decide +kernel
theorem dX5_holdFactor_15 : decode cX5_holdFactor 15 = .ok (.bipush (-100), 2) := by decide +kernel
theorem dX5_holdFactor_17 : decode cX5_holdFactor 17 = .ok (.if_icmp .lt 9, 3) := by decide +kernel
theorem dX5_holdFactor_20 : decode cX5_holdFactor 20 = .ok (.ldc2_w 16, 3) := by decide +kernel
theorem dX5_holdFactor_23 : decode cX5_holdFactor 23 = .ok (.goto 6, 3) := by decide +kernel
theorem dX5_holdFactor_26 : decode cX5_holdFactor 26 = .ok (.ldc2_w 18, 3) := by decide +kernel
theorem dX5_holdFactor_29 : decode cX5_holdFactor 29 = .ok (.dreturn, 1) := by decide +kernel
theorem dX6_init_0 : decode cX6_init 0 = .ok (.aload_n 0, 1) := by decide +kernel
theorem dX6_init_1 : decode cX6_init 1 = .ok (.invokespecial 1, 3) := by decide +kernel
theorem dX6_init_4 : decode cX6_init 4 = .ok (.aload_n 0, 1) := by decide +kernel
theorem dX6_init_5 : decode cX6_init 5 = .ok (.new 7, 3) := by decide +kernel
theorem dX6_init_8 : decode cX6_init 8 = .ok (.dup, 1) := by decide +kernel
theorem dX6_init_9 : decode cX6_init 9 = .ok (.invokespecial 9, 3) := by decide +kernel
theorem dX6_init_12 : decode cX6_init 12 = .ok (.putfield 10, 3) := by decide +kernel
theorem dX6_init_15 : decode cX6_init 15 = .ok (.aload_n 0, 1) := by decide +kernel
theorem dX6_init_16 : decode cX6_init 16 = .ok (.new 16, 3) := by decide +kernel
theorem dX6_init_19 : decode cX6_init 19 = .ok (.dup, 1) := by decide +kernel
theorem dX6_init_20 : decode cX6_init 20 = .ok (.invokespecial 18, 3) := by decide +kernel
theorem dX6_init_23 : decode cX6_init 23 = .ok (.putfield 19, 3) := by decide +kernel
theorem dX6_init_26 : decode cX6_init 26 = .ok (.aload_n 0, 1) := by decide +kernel
theorem dX6_init_27 : decode cX6_init 27 = .ok (.new 23, 3) := by decide +kernel
theorem dX6_init_30 : decode cX6_init 30 = .ok (.dup, 1) := by decide +kernel
theorem dX6_init_31 : decode cX6_init 31 = .ok (.invokespecial 25, 3) := by decide +kernel
theorem dX6_init_34 : decode cX6_init 34 = .ok (.putfield 26, 3) := by decide +kernel
theorem dX6_init_37 : decode cX6_init 37 = .ok (.aload_n 0, 1) := by decide +kernel
theorem dX6_init_38 : decode cX6_init 38 = .ok (.new 30, 3) := by decide +kernel
theorem dX6_init_41 : decode cX6_init 41 = .ok (.dup, 1) := by decide +kernel
theorem dX6_init_42 : decode cX6_init 42 = .ok (.invokespecial 32, 3) := by decide +kernel
theorem dX6_init_45 : decode cX6_init 45 = .ok (.putfield 33, 3) := by decide +kernel
theorem dX6_init_48 : decode cX6_init 48 = .ok (.aload_n 0, 1) := by decide +kernel
theorem dX6_init_49 : decode cX6_init 49 = .ok (.bipush 20, 2) := by decide +kernel
theorem dX6_init_51 : decode cX6_init 51 = .ok (.anewarray 37, 3) := by decide +kernel
theorem dX6_init_54 : decode cX6_init 54 = .ok (.putfield 39, 3) := by decide +kernel
theorem dX6_init_57 : decode cX6_init 57 = .ok (.return_, 1) := by decide +kernel
theorem dX6_weather_0 : decode cX6_weather 0 = .ok (.iload_n 1, 1) := by decide +kernel
theorem dX6_weather_1 : decode cX6_weather 1 = .ok (.sipush (-400), 3) := by decide +kernel
theorem dX6_weather_4 : decode cX6_weather 4 = .ok (.sipush 400, 3) := by decide +kernel
theorem dX6_weather_7 : decode cX6_weather 7 = .ok (.invokestatic 43, 3) := by decide +kernel
theorem dX6_weather_10 : decode cX6_weather 10 = .ok (.iload_n 2, 1) := by decide +kernel
theorem dX6_weather_11 : decode cX6_weather 11 = .ok (.iconst 0, 1) := by decide +kernel
theorem dX6_weather_12 : decode cX6_weather 12 = .ok (.iconst 3, 1) := by decide +kernel
theorem dX6_weather_13 : decode cX6_weather 13 = .ok (.invokestatic 43, 3) := by decide +kernel
theorem dX6_weather_16 : decode cX6_weather 16 = .ok (.iload_n 3, 1) := by decide +kernel
theorem dX6_weather_17 : decode cX6_weather 17 = .ok (.iconst 0, 1) := by decide +kernel
theorem dX6_weather_18 : decode cX6_weather 18 = .ok (.bipush 30, 2) := by decide +kernel
theorem dX6_weather_20 : decode cX6_weather 20 = .ok (.invokestatic 43, 3) := by decide +kernel
theorem dX6_weather_23 : decode cX6_weather 23 = .ok (.iload 4, 2) := by decide +kernel
theorem dX6_weather_25 : decode cX6_weather 25 = .ok (.iconst 0, 1) := by decide +kernel
theorem dX6_weather_26 : decode cX6_weather 26 = .ok (.bipush 60, 2) := by decide +kernel
theorem dX6_weather_28 : decode cX6_weather 28 = .ok (.invokestatic 43, 3) := by decide +kernel
theorem dX6_weather_31 : decode cX6_weather 31 = .ok (.aload_n 0, 1) := by decide +kernel
theorem dX6_weather_32 : decode cX6_weather 32 = .ok (.getfield 10, 3) := by decide +kernel
theorem dX6_weather_35 : decode cX6_weather 35 = .ok (.iload_n 1, 1) := by decide +kernel
theorem dX6_weather_36 : decode cX6_weather 36 = .ok (.putfield 47, 3) := by decide +kernel
theorem dX6_weather_39 : decode cX6_weather 39 = .ok (.aload_n 0, 1) := by decide +kernel
theorem dX6_weather_40 : decode cX6_weather 40 = .ok (.getfield 10, 3) := by decide +kernel
theorem dX6_weather_43 : decode cX6_weather 43 = .ok (.iload_n 2, 1) := by decide +kernel
theorem dX6_weather_44 : decode cX6_weather 44 = .ok (.putfield 51, 3) := by decide +kernel
theorem dX6_weather_47 : decode cX6_weather 47 = .ok (.aload_n 0, 1) := by decide +kernel
theorem dX6_weather_48 : decode cX6_weather 48 = .ok (.getfield 10, 3) := by decide +kernel
theorem dX6_weather_51 : decode cX6_weather 51 = .ok (.iload_n 3, 1) := by decide +kernel
theorem dX6_weather_52 : decode cX6_weather 52 = .ok (.putfield 54, 3) := by decide +kernel
theorem dX6_weather_55 : decode cX6_weather 55 = .ok (.aload_n 0, 1) := by decide +kernel
theorem dX6_weather_56 : decode cX6_weather 56 = .ok (.getfield 10, 3) := by decide +kernel
theorem dX6_weather_59 : decode cX6_weather 59 = .ok (.iload 4, 2) := by decide +kernel
theorem dX6_weather_61 : decode cX6_weather 61 = .ok (.putfield 57, 3) := by decide +kernel
theorem dX6_weather_64 : decode cX6_weather 64 = .ok (.return_, 1) := by decide +kernel
theorem dX6_spray_0 : decode cX6_spray 0 = .ok (.iload_n 1, 1) := by decide +kernel
theorem dX6_spray_1 : decode cX6_spray 1 = .ok (.iconst 3, 1) := by decide +kernel
theorem dX6_spray_2 : decode cX6_spray 2 = .ok (.invokestatic 60, 3) := by decide +kernel
theorem dX6_spray_5 : decode cX6_spray 5 = .ok (.aload_n 0, 1) := by decide +kernel
theorem dX6_spray_6 : decode cX6_spray 6 = .ok (.getfield 64, 3) := by decide +kernel
theorem dX6_spray_9 : decode cX6_spray 9 = .ok (.bipush 60, 2) := by decide +kernel
theorem dX6_spray_11 : decode cX6_spray 11 = .ok (.iadd, 1) := by decide +kernel
theorem dX6_spray_12 : decode cX6_spray 12 = .ok (.istore_n 2, 1) := by decide +kernel
theorem dX6_spray_13 : decode cX6_spray 13 = .ok (.aload_n 0, 1) := by decide +kernel
theorem dX6_spray_14 : decode cX6_spray 14 = .ok (.getfield 19, 3) := by decide +kernel
theorem dX6_spray_17 : decode cX6_spray 17 = .ok (.getfield 67, 3) := by decide +kernel
theorem dX6_spray_20 : decode cX6_spray 20 = .ok (.iload_n 1, 1) := by decide +kernel
theorem dX6_spray_21 : decode cX6_spray 21 = .ok (.aaload, 1) := by decide +kernel
theorem dX6_spray_22 : decode cX6_spray 22 = .ok (.iload_n 2, 1) := by decide +kernel
theorem dX6_spray_23 : decode cX6_spray 23 = .ok (.putfield 71, 3) := by decide +kernel
theorem dX6_spray_26 : decode cX6_spray 26 = .ok (.iload_n 2, 1) := by decide +kernel
theorem dX6_spray_27 : decode cX6_spray 27 = .ok (.ireturn, 1) := by decide +kernel
theorem dX6_close_0 : decode cX6_close 0 = .ok (.iload_n 1, 1) := by decide +kernel
theorem dX6_close_1 : decode cX6_close 1 = .ok (.iconst 1, 1) := by decide +kernel
theorem dX6_close_2 : decode cX6_close 2 = .ok (.sipush 500, 3) := by decide +kernel
theorem dX6_close_5 : decode cX6_close 5 = .ok (.invokestatic 43, 3) := by decide +kernel
theorem dX6_close_8 : decode cX6_close 8 = .ok (.iload_n 2, 1) := by decide +kernel
theorem dX6_close_9 : decode cX6_close 9 = .ok (.iconst 0, 1) := by decide +kernel
theorem dX6_close_10 : decode cX6_close 10 = .ok (.bipush 11, 2) := by decide +kernel
theorem dX6_close_12 : decode cX6_close 12 = .ok (.invokestatic 43, 3) := by decide +kernel
theorem dX6_close_15 : decode cX6_close 15 = .ok (.aload_n 0, 1) := by decide +kernel
theorem dX6_close_16 : decode cX6_close 16 = .ok (.getfield 19, 3) := by decide +kernel
theorem dX6_close_19 : decode cX6_close 19 = .ok (.aload_n 0, 1) := by decide +kernel
theorem dX6_close_20 : decode cX6_close 20 = .ok (.getfield 64, 3) := by decide +kernel
theorem dX6_close_23 : decode cX6_close 23 = .ok (.iload_n 1, 1) := by decide +kernel
theorem dX6_close_24 : decode cX6_close 24 = .ok (.iadd, 1) := by decide +kernel
theorem dX6_close_25 : decode cX6_close 25 = .ok (.putfield 76, 3) := by decide +kernel
theorem dX6_close_28 : decode cX6_close 28 = .ok (.aload_n 0, 1) := by decide +kernel
theorem dX6_close_29 : decode cX6_close 29 = .ok (.getfield 19, 3) := by decide +kernel
theorem dX6_close_32 : decode cX6_close 32 = .ok (.iload_n 2, 1) := by decide +kernel
theorem dX6_close_33 : decode cX6_close 33 = .ok (.putfield 79, 3) := by decide +kernel
theorem dX6_close_36 : decode cX6_close 36 = .ok (.aload_n 0, 1) := by decide +kernel
theorem dX6_close_37 : decode cX6_close 37 = .ok (.getfield 19, 3) := by decide +kernel
theorem dX6_close_40 : decode cX6_close 40 = .ok (.getfield 76, 3) := by decide +kernel
theorem dX6_close_43 : decode cX6_close 43 = .ok (.ireturn, 1) := by decide +kernel
theorem dX6_pilot_0 : decode cX6_pilot 0 = .ok (.iload_n 1, 1) := by decide +kernel
theorem dX6_pilot_1 : decode cX6_pilot 1 = .ok (.iconst 3, 1) := by decide +kernel
theorem dX6_pilot_2 : decode cX6_pilot 2 = .ok (.invokestatic 60, 3) := by decide +kernel
theorem dX6_pilot_5 : decode cX6_pilot 5 = .ok (.iload_n 2, 1) := by decide +kernel
theorem dX6_pilot_6 : decode cX6_pilot 6 = .ok (.iconst 0, 1) := by decide +kernel
theorem dX6_pilot_7 : decode cX6_pilot 7 = .ok (.bipush 6, 2) := by decide +kernel
theorem dX6_pilot_9 : decode cX6_pilot 9 = .ok (.invokestatic 43, 3) := by decide +kernel
theorem dX6_pilot_12 : decode cX6_pilot 12 = .ok (.aload_n 0, 1) := by decide +kernel
theorem dX6_pilot_13 : decode cX6_pilot 13 = .ok (.getfield 19, 3) := by decide +kernel
theorem dX6_pilot_16 : decode cX6_pilot 16 = .ok (.getfield 67, 3) := by decide +kernel
theorem dX6_pilot_19 : decode cX6_pilot 19 = .ok (.iload_n 1, 1) := by decide +kernel
theorem dX6_pilot_20 : decode cX6_pilot 20 = .ok (.aaload, 1) := by decide +kernel
theorem dX6_pilot_21 : decode cX6_pilot 21 = .ok (.astore_n 3, 1) := by decide +kernel
theorem dX6_pilot_22 : decode cX6_pilot 22 = .ok (.aload_n 3, 1) := by decide +kernel
theorem dX6_pilot_23 : decode cX6_pilot 23 = .ok (.aload_n 0, 1) := by decide +kernel
theorem dX6_pilot_24 : decode cX6_pilot 24 = .ok (.getfield 64, 3) := by decide +kernel
theorem dX6_pilot_27 : decode cX6_pilot 27 = .ok (.putfield 82, 3) := by decide +kernel
theorem dX6_pilot_30 : decode cX6_pilot 30 = .ok (.aload_n 3, 1) := by decide +kernel
theorem dX6_pilot_31 : decode cX6_pilot 31 = .ok (.iload_n 2, 1) := by decide +kernel
theorem dX6_pilot_32 : decode cX6_pilot 32 = .ok (.putfield 85, 3) := by decide +kernel
theorem dX6_pilot_35 : decode cX6_pilot 35 = .ok (.aload_n 3, 1) := by decide +kernel
theorem dX6_pilot_36 : decode cX6_pilot 36 = .ok (.aload_n 0, 1) := by decide +kernel
theorem dX6_pilot_37 : decode cX6_pilot 37 = .ok (.getfield 64, 3) := by decide +kernel
theorem dX6_pilot_40 : decode cX6_pilot 40 = .ok (.aload_n 0, 1) := by decide +kernel
theorem dX6_pilot_41 : decode cX6_pilot 41 = .ok (.getfield 10, 3) := by decide +kernel
theorem dX6_pilot_44 : decode cX6_pilot 44 = .ok (.invokevirtual 88, 3) := by decide +kernel
theorem dX6_pilot_47 : decode cX6_pilot 47 = .ok (.ireturn, 1) := by decide +kernel
theorem dX6_supply_0 : decode cX6_supply 0 = .ok (.iload_n 1, 1) := by decide +kernel
theorem dX6_supply_1 : decode cX6_supply 1 = .ok (.iconst 3, 1) := by decide +kernel
theorem dX6_supply_2 : decode cX6_supply 2 = .ok (.invokestatic 60, 3) := by decide +kernel
theorem dX6_supply_5 : decode cX6_supply 5 = .ok (.iload_n 2, 1) := by decide +kernel
theorem dX6_supply_6 : decode cX6_supply 6 = .ok (.iconst 1, 1) := by decide +kernel
theorem dX6_supply_7 : decode cX6_supply 7 = .ok (.sipush 10000, 3) := by decide +kernel
theorem dX6_supply_10 : decode cX6_supply 10 = .ok (.invokestatic 43, 3) := by decide +kernel
theorem dX6_supply_13 : decode cX6_supply 13 = .ok (.aload_n 0, 1) := by decide +kernel
theorem dX6_supply_14 : decode cX6_supply 14 = .ok (.getfield 26, 3) := by decide +kernel
theorem dX6_supply_17 : decode cX6_supply 17 = .ok (.getfield 92, 3) := by decide +kernel
theorem dX6_supply_20 : decode cX6_supply 20 = .ok (.iload_n 1, 1) := by decide +kernel
theorem dX6_supply_21 : decode cX6_supply 21 = .ok (.iaload, 1) := by decide +kernel
theorem dX6_supply_22 : decode cX6_supply 22 = .ok (.iload_n 2, 1) := by decide +kernel
theorem dX6_supply_23 : decode cX6_supply 23 = .ok (.iadd, 1) := by decide +kernel
theorem dX6_supply_24 : decode cX6_supply 24 = .ok (.ldc 96, 2) := by decide +kernel
theorem dX6_supply_26 : decode cX6_supply 26 = .ok (.if_icmp .gt 7, 3) := by decide +kernel
theorem dX6_supply_29 : decode cX6_supply 29 = .ok (.iconst 1, 1) := by decide +kernel
theorem dX6_supply_30 : decode cX6_supply 30 = .ok (.goto 4, 3) := by decide +kernel
theorem dX6_supply_33 : decode cX6_supply 33 = .ok (.iconst 0, 1) := by decide +kernel
theorem dX6_supply_34 : decode cX6_supply 34 = .ok (.invokestatic 97, 3) := by decide +kernel
theorem dX6_supply_37 : decode cX6_supply 37 = .ok (.aload_n 0, 1) := by decide +kernel
theorem dX6_supply_38 : decode cX6_supply 38 = .ok (.getfield 26, 3) := by decide +kernel
theorem dX6_supply_41 : decode cX6_supply 41 = .ok (.getfield 92, 3) := by decide +kernel
theorem dX6_supply_44 : decode cX6_supply 44 = .ok (.iload_n 1, 1) := by decide +kernel
theorem dX6_supply_45 : decode cX6_supply 45 = .ok (.dup2, 1) := by decide +kernel
theorem dX6_supply_46 : decode cX6_supply 46 = .ok (.iaload, 1) := by decide +kernel
theorem dX6_supply_47 : decode cX6_supply 47 = .ok (.iload_n 2, 1) := by decide +kernel
theorem dX6_supply_48 : decode cX6_supply 48 = .ok (.iadd, 1) := by decide +kernel
theorem dX6_supply_49 : decode cX6_supply 49 = .ok (.iastore, 1) := by decide +kernel
theorem dX6_supply_50 : decode cX6_supply 50 = .ok (.aload_n 0, 1) := by decide +kernel
theorem dX6_supply_51 : decode cX6_supply 51 = .ok (.getfield 26, 3) := by decide +kernel
theorem dX6_supply_54 : decode cX6_supply 54 = .ok (.dup, 1) := by decide +kernel
theorem dX6_supply_55 : decode cX6_supply 55 = .ok (.getfield 101, 3) := by decide +kernel
theorem dX6_supply_58 : decode cX6_supply 58 = .ok (.iload_n 2, 1) := by decide +kernel
theorem dX6_supply_59 : decode cX6_supply 59 = .ok (.iadd, 1) := by decide +kernel
theorem dX6_supply_60 : decode cX6_supply 60 = .ok (.putfield 101, 3) := by decide +kernel
theorem dX6_supply_63 : decode cX6_supply 63 = .ok (.aload_n 0, 1) := by decide +kernel
theorem dX6_supply_64 : decode cX6_supply 64 = .ok (.getfield 26, 3) := by decide +kernel
theorem dX6_supply_67 : decode cX6_supply 67 = .ok (.getfield 92, 3) := by decide +kernel
theorem dX6_supply_70 : decode cX6_supply 70 = .ok (.iload_n 1, 1) := by decide +kernel
theorem dX6_supply_71 : decode cX6_supply 71 = .ok (.iaload, 1) := by decide +kernel
theorem dX6_supply_72 : decode cX6_supply 72 = .ok (.ireturn, 1) := by decide +kernel
theorem dX6_aircraft_0 : decode cX6_aircraft 0 = .ok (.iload_n 1, 1) := by decide +kernel
theorem dX6_aircraft_1 : decode cX6_aircraft 1 = .ok (.bipush 10, 2) := by decide +kernel
theorem dX6_aircraft_3 : decode cX6_aircraft 3 = .ok (.bipush 80, 2) := by decide +kernel
theorem dX6_aircraft_5 : decode cX6_aircraft 5 = .ok (.invokestatic 43, 3) := by decide +kernel
theorem dX6_aircraft_8 : decode cX6_aircraft 8 = .ok (.iload_n 2, 1) := by decide +kernel
theorem dX6_aircraft_9 : decode cX6_aircraft 9 = .ok (.iconst 0, 1) := by decide +kernel
theorem dX6_aircraft_10 : decode cX6_aircraft 10 = .ok (.sipush 2000, 3) := by decide +kernel
theorem dX6_aircraft_13 : decode cX6_aircraft 13 = .ok (.invokestatic 43, 3) := by decide +kernel
theorem dX6_aircraft_16 : decode cX6_aircraft 16 = .ok (.iload_n 3, 1) := by decide +kernel
theorem dX6_aircraft_17 : decode cX6_aircraft 17 = .ok (.iconst 0, 1) := by decide +kernel
theorem dX6_aircraft_18 : decode cX6_aircraft 18 = .ok (.sipush 2000, 3) := by decide +kernel
theorem dX6_aircraft_21 : decode cX6_aircraft 21 = .ok (.invokestatic 43, 3) := by decide +kernel
theorem dX6_aircraft_24 : decode cX6_aircraft 24 = .ok (.aload_n 0, 1) := by decide +kernel
theorem dX6_aircraft_25 : decode cX6_aircraft 25 = .ok (.getfield 108, 3) := by decide +kernel
theorem dX6_aircraft_28 : decode cX6_aircraft 28 = .ok (.bipush 20, 2) := by decide +kernel
theorem dX6_aircraft_30 : decode cX6_aircraft 30 = .ok (.if_icmp .ge 7, 3) := by decide +kernel
theorem dX6_aircraft_33 : decode cX6_aircraft 33 = .ok (.iconst 1, 1) := by decide +kernel
theorem dX6_aircraft_34 : decode cX6_aircraft 34 = .ok (.goto 4, 3) := by decide +kernel
theorem dX6_aircraft_37 : decode cX6_aircraft 37 = .ok (.iconst 0, 1) := by decide +kernel
theorem dX6_aircraft_38 : decode cX6_aircraft 38 = .ok (.invokestatic 97, 3) := by decide +kernel
theorem dX6_aircraft_41 : decode cX6_aircraft 41 = .ok (.aload_n 0, 1) := by decide +kernel
theorem dX6_aircraft_42 : decode cX6_aircraft 42 = .ok (.getfield 108, 3) := by decide +kernel
theorem dX6_aircraft_45 : decode cX6_aircraft 45 = .ok (.istore 4, 2) := by decide +kernel
theorem dX6_aircraft_47 : decode cX6_aircraft 47 = .ok (.aload_n 0, 1) := by decide +kernel
theorem dX6_aircraft_48 : decode cX6_aircraft 48 = .ok (.getfield 39, 3) := by decide +kernel
theorem dX6_aircraft_51 : decode cX6_aircraft 51 = .ok (.iload 4, 2) := by decide +kernel
theorem dX6_aircraft_53 : decode cX6_aircraft 53 = .ok (.new 37, 3) := by decide +kernel
theorem dX6_aircraft_56 : decode cX6_aircraft 56 = .ok (.dup, 1) := by decide +kernel
theorem dX6_aircraft_57 : decode cX6_aircraft 57 = .ok (.iload_n 1, 1) := by decide +kernel
theorem dX6_aircraft_58 : decode cX6_aircraft 58 = .ok (.aload_n 0, 1) := by decide +kernel
theorem dX6_aircraft_59 : decode cX6_aircraft 59 = .ok (.getfield 64, 3) := by decide +kernel
theorem dX6_aircraft_62 : decode cX6_aircraft 62 = .ok (.iload_n 2, 1) := by decide +kernel
theorem dX6_aircraft_63 : decode cX6_aircraft 63 = .ok (.iadd, 1) := by decide +kernel
theorem dX6_aircraft_64 : decode cX6_aircraft 64 = .ok (.aload_n 0, 1) := by decide +kernel
theorem dX6_aircraft_65 : decode cX6_aircraft 65 = .ok (.getfield 64, 3) := by decide +kernel
theorem dX6_aircraft_68 : decode cX6_aircraft 68 = .ok (.iload_n 3, 1) := by decide +kernel
theorem dX6_aircraft_69 : decode cX6_aircraft 69 = .ok (.iadd, 1) := by decide +kernel
theorem dX6_aircraft_70 : decode cX6_aircraft 70 = .ok (.invokespecial 111, 3) := by decide +kernel
theorem dX6_aircraft_73 : decode cX6_aircraft 73 = .ok (.aastore, 1) := by decide +kernel
theorem dX6_aircraft_74 : decode cX6_aircraft 74 = .ok (.aload_n 0, 1) := by decide +kernel
theorem dX6_aircraft_75 : decode cX6_aircraft 75 = .ok (.dup, 1) := by decide +kernel
theorem dX6_aircraft_76 : decode cX6_aircraft 76 = .ok (.getfield 108, 3) := by decide +kernel
theorem dX6_aircraft_79 : decode cX6_aircraft 79 = .ok (.iconst 1, 1) := by decide +kernel
theorem dX6_aircraft_80 : decode cX6_aircraft 80 = .ok (.iadd, 1) := by decide +kernel
theorem dX6_aircraft_81 : decode cX6_aircraft 81 = .ok (.putfield 108, 3) := by decide +kernel
theorem dX6_aircraft_84 : decode cX6_aircraft 84 = .ok (.iload 4, 2) := by decide +kernel
theorem dX6_aircraft_86 : decode cX6_aircraft 86 = .ok (.ireturn, 1) := by decide +kernel
theorem dX6_treat_0 : decode cX6_treat 0 = .ok (.iload_n 1, 1) := by decide +kernel
theorem dX6_treat_1 : decode cX6_treat 1 = .ok (.aload_n 0, 1) := by decide +kernel
theorem dX6_treat_2 : decode cX6_treat 2 = .ok (.getfield 108, 3) := by decide +kernel
theorem dX6_treat_5 : decode cX6_treat 5 = .ok (.invokestatic 60, 3) := by decide +kernel
theorem dX6_treat_8 : decode cX6_treat 8 = .ok (.iload_n 2, 1) := by decide +kernel
theorem dX6_treat_9 : decode cX6_treat 9 = .ok (.getstatic 113, 3) := by decide +kernel
theorem dX6_treat_12 : decode cX6_treat 12 = .ok (.arraylength, 1) := by decide +kernel
theorem dX6_treat_13 : decode cX6_treat 13 = .ok (.invokestatic 60, 3) := by decide +kernel
theorem dX6_treat_16 : decode cX6_treat 16 = .ok (.iload_n 3, 1) := by decide +kernel
theorem dX6_treat_17 : decode cX6_treat 17 = .ok (.iconst 3, 1) := by decide +kernel
theorem dX6_treat_18 : decode cX6_treat 18 = .ok (.invokestatic 60, 3) := by decide +kernel
theorem dX6_treat_21 : decode cX6_treat 21 = .ok (.iload 4, 2) := by decide +kernel
theorem dX6_treat_23 : decode cX6_treat 23 = .ok (.bipush 10, 2) := by decide +kernel
theorem dX6_treat_25 : decode cX6_treat 25 = .ok (.sipush 2000, 3) := by decide +kernel
theorem dX6_treat_28 : decode cX6_treat 28 = .ok (.invokestatic 43, 3) := by decide +kernel
theorem dX6_treat_31 : decode cX6_treat 31 = .ok (.iload 5, 2) := by decide +kernel
theorem dX6_treat_33 : decode cX6_treat 33 = .ok (.invokestatic 116, 3) := by decide +kernel
theorem dX6_treat_36 : decode cX6_treat 36 = .ok (.aload_n 0, 1) := by decide +kernel
theorem dX6_treat_37 : decode cX6_treat 37 = .ok (.getfield 39, 3) := by decide +kernel
theorem dX6_treat_40 : decode cX6_treat 40 = .ok (.iload_n 1, 1) := by decide +kernel
theorem dX6_treat_41 : decode cX6_treat 41 = .ok (.aaload, 1) := by decide +kernel
theorem dX6_treat_42 : decode cX6_treat 42 = .ok (.astore 6, 2) := by decide +kernel
theorem dX6_treat_44 : decode cX6_treat 44 = .ok (.aload 6, 2) := by decide +kernel
theorem dX6_treat_46 : decode cX6_treat 46 = .ok (.getfield 120, 3) := by decide +kernel
theorem dX6_treat_49 : decode cX6_treat 49 = .ok (.ifCond .eq 12, 3) := by decide +kernel
theorem dX6_treat_52 : decode cX6_treat 52 = .ok (.aload 6, 2) := by decide +kernel
theorem dX6_treat_54 : decode cX6_treat 54 = .ok (.getfield 120, 3) := by decide +kernel
theorem dX6_treat_57 : decode cX6_treat 57 = .ok (.iconst 2, 1) := by decide +kernel
theorem dX6_treat_58 : decode cX6_treat 58 = .ok (.if_icmp .ne 7, 3) := by decide +kernel
theorem dX6_treat_61 : decode cX6_treat 61 = .ok (.iconst 1, 1) := by decide +kernel
theorem dX6_treat_62 : decode cX6_treat 62 = .ok (.goto 4, 3) := by decide +kernel
theorem dX6_treat_65 : decode cX6_treat 65 = .ok (.iconst 0, 1) := by decide +kernel
theorem dX6_treat_66 : decode cX6_treat 66 = .ok (.invokestatic 97, 3) := by decide +kernel
theorem dX6_treat_69 : decode cX6_treat 69 = .ok (.aload_n 0, 1) := by decide +kernel
theorem dX6_treat_70 : decode cX6_treat 70 = .ok (.iload_n 2, 1) := by decide +kernel
theorem dX6_treat_71 : decode cX6_treat 71 = .ok (.invokevirtual 123, 3) := by decide +kernel
theorem dX6_treat_74 : decode cX6_treat 74 = .ok (.ifCond .eq 20, 3) := by decide +kernel
theorem dX6_treat_77 : decode cX6_treat 77 = .ok (.aload 6, 2) := by decide +kernel
theorem dX6_treat_79 : decode cX6_treat 79 = .ok (.getfield 127, 3) := by decide +kernel
theorem dX6_treat_82 : decode cX6_treat 82 = .ok (.getstatic 113, 3) := by decide +kernel
theorem dX6_treat_85 : decode cX6_treat 85 = .ok (.iload_n 2, 1) := by decide +kernel
theorem dX6_treat_86 : decode cX6_treat 86 = .ok (.iaload, 1) := by decide +kernel
theorem dX6_treat_87 : decode cX6_treat 87 = .ok (.if_icmp .gt 7, 3) := by decide +kernel
theorem dX6_treat_90 : decode cX6_treat 90 = .ok (.iconst 1, 1) := by decide +kernel
theorem dX6_treat_91 : decode cX6_treat 91 = .ok (.goto 4, 3) := by decide +kernel
theorem dX6_treat_94 : decode cX6_treat 94 = .ok (.iconst 0, 1) := by decide +kernel
theorem dX6_treat_95 : decode cX6_treat 95 = .ok (.invokestatic 97, 3) := by decide +kernel
theorem dX6_treat_98 : decode cX6_treat 98 = .ok (.iload 4, 2) := by decide +kernel
theorem dX6_treat_100 : decode cX6_treat 100 = .ok (.aload_n 0, 1) := by decide +kernel
theorem dX6_treat_101 : decode cX6_treat 101 = .ok (.getfield 26, 3) := by decide +kernel
theorem dX6_treat_104 : decode cX6_treat 104 = .ok (.getfield 92, 3) := by decide +kernel
theorem dX6_treat_107 : decode cX6_treat 107 = .ok (.iload_n 3, 1) := by decide +kernel
theorem dX6_treat_108 : decode cX6_treat 108 = .ok (.iaload, 1) := by decide +kernel
theorem dX6_treat_109 : decode cX6_treat 109 = .ok (.if_icmp .gt 7, 3) := by decide +kernel
theorem dX6_treat_112 : decode cX6_treat 112 = .ok (.iconst 1, 1) := by decide +kernel
theorem dX6_treat_113 : decode cX6_treat 113 = .ok (.goto 4, 3) := by decide +kernel
theorem dX6_treat_116 : decode cX6_treat 116 = .ok (.iconst 0, 1) := by decide +kernel
theorem dX6_treat_117 : decode cX6_treat 117 = .ok (.invokestatic 97, 3) := by decide +kernel
theorem dX6_treat_120 : decode cX6_treat 120 = .ok (.aload_n 0, 1) := by decide +kernel
theorem dX6_treat_121 : decode cX6_treat 121 = .ok (.getfield 26, 3) := by decide +kernel
theorem dX6_treat_124 : decode cX6_treat 124 = .ok (.getfield 92, 3) := by decide +kernel
theorem dX6_treat_127 : decode cX6_treat 127 = .ok (.iload_n 3, 1) := by decide +kernel
theorem dX6_treat_128 : decode cX6_treat 128 = .ok (.dup2, 1) := by decide +kernel
theorem dX6_treat_129 : decode cX6_treat 129 = .ok (.iaload, 1) := by decide +kernel
theorem dX6_treat_130 : decode cX6_treat 130 = .ok (.iload 4, 2) := by decide +kernel
theorem dX6_treat_132 : decode cX6_treat 132 = .ok (.isub, 1) := by decide +kernel
theorem dX6_treat_133 : decode cX6_treat 133 = .ok (.iastore, 1) := by decide +kernel
theorem dX6_treat_134 : decode cX6_treat 134 = .ok (.aload_n 0, 1) := by decide +kernel
theorem dX6_treat_135 : decode cX6_treat 135 = .ok (.getfield 33, 3) := by decide +kernel
theorem dX6_treat_138 : decode cX6_treat 138 = .ok (.dup, 1) := by decide +kernel
theorem dX6_treat_139 : decode cX6_treat 139 = .ok (.getfield 130, 3) := by decide +kernel
theorem dX6_treat_142 : decode cX6_treat 142 = .ok (.aload 6, 2) := by decide +kernel
theorem dX6_treat_144 : decode cX6_treat 144 = .ok (.iload_n 2, 1) := by decide +kernel
