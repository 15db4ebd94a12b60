theorem dX6_treat_145 : decode cX6_treat 145 = .ok (.iload 4, 2) := by decide +kernel
theorem dX6_treat_147 : decode cX6_treat 147 = .ok (.aload_n 0, 1) := by decide +kernel
theorem dX6_treat_148 : decode cX6_treat 148 = .ok (.getfield 64, 3) := by decide +kernel
theorem dX6_treat_151 : decode cX6_treat 151 = .ok (.invokevirtual 133, 3) := by decide +kernel
theorem dX6_treat_154 : decode cX6_treat 154 = .ok (.iadd, 1) := by decide +kernel
theorem dX6_treat_155 : decode cX6_treat 155 = .ok (.putfield 130, 3) := by decide +kernel
theorem dX6_treat_158 : decode cX6_treat 158 = .ok (.aload 6, 2) := by decide +kernel
theorem dX6_treat_160 : decode cX6_treat 160 = .ok (.iload_n 3, 1) := by decide +kernel
theorem dX6_treat_161 : decode cX6_treat 161 = .ok (.putfield 137, 3) := by decide +kernel
theorem dX6_treat_164 : decode cX6_treat 164 = .ok (.aload 6, 2) := by decide +kernel
theorem dX6_treat_166 : decode cX6_treat 166 = .ok (.iload 5, 2) := by decide +kernel
theorem dX6_treat_168 : decode cX6_treat 168 = .ok (.putfield 140, 3) := by decide +kernel
theorem dX6_treat_171 : decode cX6_treat 171 = .ok (.aload 6, 2) := by decide +kernel
theorem dX6_treat_173 : decode cX6_treat 173 = .ok (.getfield 143, 3) := by decide +kernel
theorem dX6_treat_176 : decode cX6_treat 176 = .ok (.ireturn, 1) := by decide +kernel
theorem dX6_cancel_0 : decode cX6_cancel 0 = .ok (.iload_n 1, 1) := by decide +kernel
theorem dX6_cancel_1 : decode cX6_cancel 1 = .ok (.aload_n 0, 1) := by decide +kernel
theorem dX6_cancel_2 : decode cX6_cancel 2 = .ok (.getfield 108, 3) := by decide +kernel
theorem dX6_cancel_5 : decode cX6_cancel 5 = .ok (.invokestatic 60, 3) := by decide +kernel
theorem dX6_cancel_8 : decode cX6_cancel 8 = .ok (.aload_n 0, 1) := by decide +kernel
theorem dX6_cancel_9 : decode cX6_cancel 9 = .ok (.getfield 39, 3) := by decide +kernel
theorem dX6_cancel_12 : decode cX6_cancel 12 = .ok (.iload_n 1, 1) := by decide +kernel
theorem dX6_cancel_13 : decode cX6_cancel 13 = .ok (.aaload, 1) := by decide +kernel
theorem dX6_cancel_14 : decode cX6_cancel 14 = .ok (.astore_n 2, 1) := by decide +kernel
theorem dX6_cancel_15 : decode cX6_cancel 15 = .ok (.aload_n 2, 1) := by decide +kernel
theorem dX6_cancel_16 : decode cX6_cancel 16 = .ok (.invokevirtual 146, 3) := by decide +kernel
theorem dX6_cancel_19 : decode cX6_cancel 19 = .ok (.ifCond .ne 7, 3) := by decide +kernel
theorem dX6_cancel_22 : decode cX6_cancel 22 = .ok (.iconst 1, 1) := by decide +kernel
theorem dX6_cancel_23 : decode cX6_cancel 23 = .ok (.goto 4, 3) := by decide +kernel
theorem dX6_cancel_26 : decode cX6_cancel 26 = .ok (.iconst 0, 1) := by decide +kernel
theorem dX6_cancel_27 : decode cX6_cancel 27 = .ok (.invokestatic 97, 3) := by decide +kernel
theorem dX6_cancel_30 : decode cX6_cancel 30 = .ok (.aload_n 2, 1) := by decide +kernel
theorem dX6_cancel_31 : decode cX6_cancel 31 = .ok (.getfield 120, 3) := by decide +kernel
theorem dX6_cancel_34 : decode cX6_cancel 34 = .ok (.istore_n 3, 1) := by decide +kernel
theorem dX6_cancel_35 : decode cX6_cancel 35 = .ok (.aload_n 2, 1) := by decide +kernel
theorem dX6_cancel_36 : decode cX6_cancel 36 = .ok (.iconst 4, 1) := by decide +kernel
theorem dX6_cancel_37 : decode cX6_cancel 37 = .ok (.putfield 120, 3) := by decide +kernel
theorem dX6_cancel_40 : decode cX6_cancel 40 = .ok (.iload_n 3, 1) := by decide +kernel
theorem dX6_cancel_41 : decode cX6_cancel 41 = .ok (.ireturn, 1) := by decide +kernel
theorem dX6_release_0 : decode cX6_release 0 = .ok (.iload_n 1, 1) := by decide +kernel
theorem dX6_release_1 : decode cX6_release 1 = .ok (.iconst 1, 1) := by decide +kernel
theorem dX6_release_2 : decode cX6_release 2 = .ok (.ldc 96, 2) := by decide +kernel
theorem dX6_release_4 : decode cX6_release 4 = .ok (.invokestatic 43, 3) := by decide +kernel
theorem dX6_release_7 : decode cX6_release 7 = .ok (.aload_n 0, 1) := by decide +kernel
theorem dX6_release_8 : decode cX6_release 8 = .ok (.getfield 64, 3) := by decide +kernel
theorem dX6_release_11 : decode cX6_release 11 = .ok (.sipush 1440, 3) := by decide +kernel
theorem dX6_release_14 : decode cX6_release 14 = .ok (.idiv, 1) := by decide +kernel
theorem dX6_release_15 : decode cX6_release 15 = .ok (.istore_n 2, 1) := by decide +kernel
theorem dX6_release_16 : decode cX6_release 16 = .ok (.aload_n 0, 1) := by decide +kernel
theorem dX6_release_17 : decode cX6_release 17 = .ok (.getfield 33, 3) := by decide +kernel
theorem dX6_release_20 : decode cX6_release 20 = .ok (.iload_n 2, 1) := by decide +kernel
theorem dX6_release_21 : decode cX6_release 21 = .ok (.invokevirtual 153, 3) := by decide +kernel
theorem dX6_release_24 : decode cX6_release 24 = .ok (.iload_n 1, 1) := by decide +kernel
theorem dX6_release_25 : decode cX6_release 25 = .ok (.iadd, 1) := by decide +kernel
theorem dX6_release_26 : decode cX6_release 26 = .ok (.istore_n 3, 1) := by decide +kernel
theorem dX6_release_27 : decode cX6_release 27 = .ok (.iload_n 1, 1) := by decide +kernel
theorem dX6_release_28 : decode cX6_release 28 = .ok (.aload_n 0, 1) := by decide +kernel
theorem dX6_release_29 : decode cX6_release 29 = .ok (.getfield 33, 3) := by decide +kernel
theorem dX6_release_32 : decode cX6_release 32 = .ok (.getfield 130, 3) := by decide +kernel
theorem dX6_release_35 : decode cX6_release 35 = .ok (.if_icmp .gt 18, 3) := by decide +kernel
theorem dX6_release_38 : decode cX6_release 38 = .ok (.iload_n 3, 1) := by decide +kernel
theorem dX6_release_39 : decode cX6_release 39 = .ok (.aload_n 0, 1) := by decide +kernel
theorem dX6_release_40 : decode cX6_release 40 = .ok (.getfield 33, 3) := by decide +kernel
theorem dX6_release_43 : decode cX6_release 43 = .ok (.getfield 150, 3) := by decide +kernel
theorem dX6_release_46 : decode cX6_release 46 = .ok (.if_icmp .gt 7, 3) := by decide +kernel
theorem dX6_release_49 : decode cX6_release 49 = .ok (.iconst 1, 1) := by decide +kernel
theorem dX6_release_50 : decode cX6_release 50 = .ok (.goto 4, 3) := by decide +kernel
theorem dX6_release_53 : decode cX6_release 53 = .ok (.iconst 0, 1) := by decide +kernel
theorem dX6_release_54 : decode cX6_release 54 = .ok (.invokestatic 97, 3) := by decide +kernel
theorem dX6_release_57 : decode cX6_release 57 = .ok (.aload_n 0, 1) := by decide +kernel
theorem dX6_release_58 : decode cX6_release 58 = .ok (.getfield 33, 3) := by decide +kernel
theorem dX6_release_61 : decode cX6_release 61 = .ok (.dup, 1) := by decide +kernel
theorem dX6_release_62 : decode cX6_release 62 = .ok (.getfield 130, 3) := by decide +kernel
theorem dX6_release_65 : decode cX6_release 65 = .ok (.iload_n 1, 1) := by decide +kernel
theorem dX6_release_66 : decode cX6_release 66 = .ok (.isub, 1) := by decide +kernel
theorem dX6_release_67 : decode cX6_release 67 = .ok (.putfield 130, 3) := by decide +kernel
theorem dX6_release_70 : decode cX6_release 70 = .ok (.aload_n 0, 1) := by decide +kernel
theorem dX6_release_71 : decode cX6_release 71 = .ok (.getfield 33, 3) := by decide +kernel
theorem dX6_release_74 : decode cX6_release 74 = .ok (.dup, 1) := by decide +kernel
theorem dX6_release_75 : decode cX6_release 75 = .ok (.getfield 157, 3) := by decide +kernel
theorem dX6_release_78 : decode cX6_release 78 = .ok (.iload_n 1, 1) := by decide +kernel
theorem dX6_release_79 : decode cX6_release 79 = .ok (.iadd, 1) := by decide +kernel
theorem dX6_release_80 : decode cX6_release 80 = .ok (.putfield 157, 3) := by decide +kernel
theorem dX6_release_83 : decode cX6_release 83 = .ok (.aload_n 0, 1) := by decide +kernel
theorem dX6_release_84 : decode cX6_release 84 = .ok (.getfield 33, 3) := by decide +kernel
theorem dX6_release_87 : decode cX6_release 87 = .ok (.iload_n 2, 1) := by decide +kernel
theorem dX6_release_88 : decode cX6_release 88 = .ok (.putfield 160, 3) := by decide +kernel
theorem dX6_release_91 : decode cX6_release 91 = .ok (.aload_n 0, 1) := by decide +kernel
theorem dX6_release_92 : decode cX6_release 92 = .ok (.getfield 33, 3) := by decide +kernel
theorem dX6_release_95 : decode cX6_release 95 = .ok (.iload_n 3, 1) := by decide +kernel
theorem dX6_release_96 : decode cX6_release 96 = .ok (.putfield 163, 3) := by decide +kernel
theorem dX6_release_99 : decode cX6_release 99 = .ok (.iload_n 3, 1) := by decide +kernel
theorem dX6_release_100 : decode cX6_release 100 = .ok (.ireturn, 1) := by decide +kernel
theorem dX6_pass_0 : decode cX6_pass 0 = .ok (.iload_n 1, 1) := by decide +kernel
theorem dX6_pass_1 : decode cX6_pass 1 = .ok (.iconst 1, 1) := by decide +kernel
theorem dX6_pass_2 : decode cX6_pass 2 = .ok (.sipush 500, 3) := by decide +kernel
theorem dX6_pass_5 : decode cX6_pass 5 = .ok (.invokestatic 43, 3) := by decide +kernel
theorem dX6_pass_8 : decode cX6_pass 8 = .ok (.iconst 0, 1) := by decide +kernel
theorem dX6_pass_9 : decode cX6_pass 9 = .ok (.istore_n 2, 1) := by decide +kernel
theorem dX6_pass_10 : decode cX6_pass 10 = .ok (.iload_n 2, 1) := by decide +kernel
theorem dX6_pass_11 : decode cX6_pass 11 = .ok (.iload_n 1, 1) := by decide +kernel
theorem dX6_pass_12 : decode cX6_pass 12 = .ok (.if_icmp .ge 13, 3) := by decide +kernel
theorem dX6_pass_15 : decode cX6_pass 15 = .ok (.aload_n 0, 1) := by decide +kernel
theorem dX6_pass_16 : decode cX6_pass 16 = .ok (.invokevirtual 166, 3) := by decide +kernel
theorem dX6_pass_19 : decode cX6_pass 19 = .ok (.iinc 2 1, 3) := by decide +kernel
theorem dX6_pass_22 : decode cX6_pass 22 = .ok (.goto (-12), 3) := by decide +kernel
theorem dX6_pass_25 : decode cX6_pass 25 = .ok (.aload_n 0, 1) := by decide +kernel
theorem dX6_pass_26 : decode cX6_pass 26 = .ok (.getfield 64, 3) := by decide +kernel
theorem dX6_pass_29 : decode cX6_pass 29 = .ok (.ireturn, 1) := by decide +kernel
theorem dX6_code_0 : decode cX6_code 0 = .ok (.iload_n 1, 1) := by decide +kernel
theorem dX6_code_1 : decode cX6_code 1 = .ok (.iconst 3, 1) := by decide +kernel
theorem dX6_code_2 : decode cX6_code 2 = .ok (.invokestatic 60, 3) := by decide +kernel
theorem dX6_code_5 : decode cX6_code 5 = .ok (.aload_n 0, 1) := by decide +kernel
theorem dX6_code_6 : decode cX6_code 6 = .ok (.getfield 19, 3) := by decide +kernel
theorem dX6_code_9 : decode cX6_code 9 = .ok (.getfield 67, 3) := by decide +kernel
theorem dX6_code_12 : decode cX6_code 12 = .ok (.iload_n 1, 1) := by decide +kernel
theorem dX6_code_13 : decode cX6_code 13 = .ok (.aaload, 1) := by decide +kernel
theorem dX6_code_14 : decode cX6_code 14 = .ok (.aload_n 0, 1) := by decide +kernel
theorem dX6_code_15 : decode cX6_code 15 = .ok (.getfield 64, 3) := by decide +kernel
theorem dX6_code_18 : decode cX6_code 18 = .ok (.aload_n 0, 1) := by decide +kernel
theorem dX6_code_19 : decode cX6_code 19 = .ok (.getfield 10, 3) := by decide +kernel
theorem dX6_code_22 : decode cX6_code 22 = .ok (.invokevirtual 88, 3) := by decide +kernel
theorem dX6_code_25 : decode cX6_code 25 = .ok (.ireturn, 1) := by decide +kernel
theorem dX6_thirdOf_0 : decode cX6_thirdOf 0 = .ok (.iload_n 1, 1) := by decide +kernel
theorem dX6_thirdOf_1 : decode cX6_thirdOf 1 = .ok (.iconst 3, 1) := by decide +kernel
theorem dX6_thirdOf_2 : decode cX6_thirdOf 2 = .ok (.invokestatic 60, 3) := by decide +kernel
theorem dX6_thirdOf_5 : decode cX6_thirdOf 5 = .ok (.iload_n 2, 1) := by decide +kernel
theorem dX6_thirdOf_6 : decode cX6_thirdOf 6 = .ok (.iconst 0, 1) := by decide +kernel
theorem dX6_thirdOf_7 : decode cX6_thirdOf 7 = .ok (.iconst 3, 1) := by decide +kernel
theorem dX6_thirdOf_8 : decode cX6_thirdOf 8 = .ok (.invokestatic 43, 3) := by decide +kernel
theorem dX6_thirdOf_11 : decode cX6_thirdOf 11 = .ok (.aload_n 0, 1) := by decide +kernel
theorem dX6_thirdOf_12 : decode cX6_thirdOf 12 = .ok (.getfield 19, 3) := by decide +kernel
theorem dX6_thirdOf_15 : decode cX6_thirdOf 15 = .ok (.getfield 67, 3) := by decide +kernel
theorem dX6_thirdOf_18 : decode cX6_thirdOf 18 = .ok (.iload_n 1, 1) := by decide +kernel
theorem dX6_thirdOf_19 : decode cX6_thirdOf 19 = .ok (.aaload, 1) := by decide +kernel
theorem dX6_thirdOf_20 : decode cX6_thirdOf 20 = .ok (.astore_n 3, 1) := by decide +kernel
theorem dX6_thirdOf_21 : decode cX6_thirdOf 21 = .ok (.iload_n 2, 1) := by decide +kernel
theorem dX6_thirdOf_22 : decode cX6_thirdOf 22 = .ok (.tableswitch 53 0 2 #[26, 31, 36], 26) := by decide +kernel
theorem dX6_thirdOf_48 : decode cX6_thirdOf 48 = .ok (.aload_n 3, 1) := by decide +kernel
theorem dX6_thirdOf_49 : decode cX6_thirdOf 49 = .ok (.getfield 169, 3) := by decide +kernel
theorem dX6_thirdOf_52 : decode cX6_thirdOf 52 = .ok (.ireturn, 1) := by decide +kernel
theorem dX6_thirdOf_53 : decode cX6_thirdOf 53 = .ok (.aload_n 3, 1) := by decide +kernel
theorem dX6_thirdOf_54 : decode cX6_thirdOf 54 = .ok (.getfield 172, 3) := by decide +kernel
theorem dX6_thirdOf_57 : decode cX6_thirdOf 57 = .ok (.ireturn, 1) := by decide +kernel
theorem dX6_thirdOf_58 : decode cX6_thirdOf 58 = .ok (.aload_n 3, 1) := by decide +kernel
theorem dX6_thirdOf_59 : decode cX6_thirdOf 59 = .ok (.aload_n 0, 1) := by decide +kernel
theorem dX6_thirdOf_60 : decode cX6_thirdOf 60 = .ok (.getfield 64, 3) := by decide +kernel
theorem dX6_thirdOf_63 : decode cX6_thirdOf 63 = .ok (.invokevirtual 175, 3) := by decide +kernel
theorem dX6_thirdOf_66 : decode cX6_thirdOf 66 = .ok (.ifCond .eq 7, 3) := by decide +kernel
theorem dX6_thirdOf_69 : decode cX6_thirdOf 69 = .ok (.iconst 1, 1) := by decide +kernel
theorem dX6_thirdOf_70 : decode cX6_thirdOf 70 = .ok (.goto 4, 3) := by decide +kernel
theorem dX6_thirdOf_73 : decode cX6_thirdOf 73 = .ok (.iconst 0, 1) := by decide +kernel
theorem dX6_thirdOf_74 : decode cX6_thirdOf 74 = .ok (.ireturn, 1) := by decide +kernel
theorem dX6_thirdOf_75 : decode cX6_thirdOf 75 = .ok (.aload_n 3, 1) := by decide +kernel
theorem dX6_thirdOf_76 : decode cX6_thirdOf 76 = .ok (.aload_n 0, 1) := by decide +kernel
theorem dX6_thirdOf_77 : decode cX6_thirdOf 77 = .ok (.getfield 10, 3) := by decide +kernel
theorem dX6_thirdOf_80 : decode cX6_thirdOf 80 = .ok (.invokevirtual 178, 3) := by decide +kernel
theorem dX6_thirdOf_83 : decode cX6_thirdOf 83 = .ok (.ireturn, 1) := by decide +kernel
theorem dX6_isGood_0 : decode cX6_isGood 0 = .ok (.aload_n 0, 1) := by decide +kernel
theorem dX6_isGood_1 : decode cX6_isGood 1 = .ok (.getfield 19, 3) := by decide +kernel
theorem dX6_isGood_4 : decode cX6_isGood 4 = .ok (.aload_n 0, 1) := by decide +kernel
theorem dX6_isGood_5 : decode cX6_isGood 5 = .ok (.getfield 64, 3) := by decide +kernel
theorem dX6_isGood_8 : decode cX6_isGood 8 = .ok (.aload_n 0, 1) := by decide +kernel
theorem dX6_isGood_9 : decode cX6_isGood 9 = .ok (.getfield 10, 3) := by decide +kernel
theorem dX6_isGood_12 : decode cX6_isGood 12 = .ok (.invokevirtual 182, 3) := by decide +kernel
theorem dX6_isGood_15 : decode cX6_isGood 15 = .ok (.ireturn, 1) := by decide +kernel
theorem dX6_aircraftOf_0 : decode cX6_aircraftOf 0 = .ok (.iload_n 1, 1) := by decide +kernel
theorem dX6_aircraftOf_1 : decode cX6_aircraftOf 1 = .ok (.aload_n 0, 1) := by decide +kernel
theorem dX6_aircraftOf_2 : decode cX6_aircraftOf 2 = .ok (.getfield 108, 3) := by decide +kernel
theorem dX6_aircraftOf_5 : decode cX6_aircraftOf 5 = .ok (.invokestatic 60, 3) := by decide +kernel
theorem dX6_aircraftOf_8 : decode cX6_aircraftOf 8 = .ok (.iload_n 2, 1) := by decide +kernel
theorem dX6_aircraftOf_9 : decode cX6_aircraftOf 9 = .ok (.iconst 0, 1) := by decide +kernel
theorem dX6_aircraftOf_10 : decode cX6_aircraftOf 10 = .ok (.iconst 4, 1) := by decide +kernel
theorem dX6_aircraftOf_11 : decode cX6_aircraftOf 11 = .ok (.invokestatic 43, 3) := by decide +kernel
theorem dX6_aircraftOf_14 : decode cX6_aircraftOf 14 = .ok (.aload_n 0, 1) := by decide +kernel
theorem dX6_aircraftOf_15 : decode cX6_aircraftOf 15 = .ok (.getfield 39, 3) := by decide +kernel
theorem dX6_aircraftOf_18 : decode cX6_aircraftOf 18 = .ok (.iload_n 1, 1) := by decide +kernel
theorem dX6_aircraftOf_19 : decode cX6_aircraftOf 19 = .ok (.aaload, 1) := by decide +kernel
theorem dX6_aircraftOf_20 : decode cX6_aircraftOf 20 = .ok (.astore_n 3, 1) := by decide +kernel
theorem dX6_aircraftOf_21 : decode cX6_aircraftOf 21 = .ok (.iload_n 2, 1) := by decide +kernel
theorem dX6_aircraftOf_22 : decode cX6_aircraftOf 22 = .ok (.tableswitch 50 0 3 #[30, 35, 40, 45], 30) := by decide +kernel
theorem dX6_aircraftOf_52 : decode cX6_aircraftOf 52 = .ok (.aload_n 3, 1) := by decide +kernel
theorem dX6_aircraftOf_53 : decode cX6_aircraftOf 53 = .ok (.getfield 120, 3) := by decide +kernel
theorem dX6_aircraftOf_56 : decode cX6_aircraftOf 56 = .ok (.ireturn, 1) := by decide +kernel
theorem dX6_aircraftOf_57 : decode cX6_aircraftOf 57 = .ok (.aload_n 3, 1) := by decide +kernel
theorem dX6_aircraftOf_58 : decode cX6_aircraftOf 58 = .ok (.getfield 186, 3) := by decide +kernel
theorem dX6_aircraftOf_61 : decode cX6_aircraftOf 61 = .ok (.ireturn, 1) := by decide +kernel
theorem dX6_aircraftOf_62 : decode cX6_aircraftOf 62 = .ok (.aload_n 3, 1) := by decide +kernel
theorem dX6_aircraftOf_63 : decode cX6_aircraftOf 63 = .ok (.getfield 189, 3) := by decide +kernel
theorem dX6_aircraftOf_66 : decode cX6_aircraftOf 66 = .ok (.ireturn, 1) := by decide +kernel
theorem dX6_aircraftOf_67 : decode cX6_aircraftOf 67 = .ok (.aload_n 3, 1) := by decide +kernel
theorem dX6_aircraftOf_68 : decode cX6_aircraftOf 68 = .ok (.getfield 192, 3) := by decide +kernel
theorem dX6_aircraftOf_71 : decode cX6_aircraftOf 71 = .ok (.ireturn, 1) := by decide +kernel
theorem dX6_aircraftOf_72 : decode cX6_aircraftOf 72 = .ok (.aload_n 3, 1) := by decide +kernel
theorem dX6_aircraftOf_73 : decode cX6_aircraftOf 73 = .ok (.getfield 120, 3) := by decide +kernel
theorem dX6_aircraftOf_76 : decode cX6_aircraftOf 76 = .ok (.iconst 1, 1) := by decide +kernel
theorem dX6_aircraftOf_77 : decode cX6_aircraftOf 77 = .ok (.if_icmp .ne 10, 3) := by decide +kernel
theorem dX6_aircraftOf_80 : decode cX6_aircraftOf 80 = .ok (.aload_n 3, 1) := by decide +kernel
theorem dX6_aircraftOf_81 : decode cX6_aircraftOf 81 = .ok (.getfield 195, 3) := by decide +kernel
theorem dX6_aircraftOf_84 : decode cX6_aircraftOf 84 = .ok (.goto 4, 3) := by decide +kernel
theorem dX6_aircraftOf_87 : decode cX6_aircraftOf 87 = .ok (.iconst (-1), 1) := by decide +kernel
theorem dX6_aircraftOf_88 : decode cX6_aircraftOf 88 = .ok (.ireturn, 1) := by decide +kernel
theorem dX6_clock_0 : decode cX6_clock 0 = .ok (.iload_n 1, 1) := by decide +kernel
theorem dX6_clock_1 : decode cX6_clock 1 = .ok (.aload_n 0, 1) := by decide +kernel
theorem dX6_clock_2 : decode cX6_clock 2 = .ok (.getfield 108, 3) := by decide +kernel
theorem dX6_clock_5 : decode cX6_clock 5 = .ok (.invokestatic 60, 3) := by decide +kernel
theorem dX6_clock_8 : decode cX6_clock 8 = .ok (.aload_n 0, 1) := by decide +kernel
theorem dX6_clock_9 : decode cX6_clock 9 = .ok (.getfield 39, 3) := by decide +kernel
theorem dX6_clock_12 : decode cX6_clock 12 = .ok (.iload_n 1, 1) := by decide +kernel
theorem dX6_clock_13 : decode cX6_clock 13 = .ok (.aaload, 1) := by decide +kernel
theorem dX6_clock_14 : decode cX6_clock 14 = .ok (.getfield 189, 3) := by decide +kernel
theorem dX6_clock_17 : decode cX6_clock 17 = .ok (.ifCond .le 7, 3) := by decide +kernel
theorem dX6_clock_20 : decode cX6_clock 20 = .ok (.iconst 1, 1) := by decide +kernel
theorem dX6_clock_21 : decode cX6_clock 21 = .ok (.goto 4, 3) := by decide +kernel
theorem dX6_clock_24 : decode cX6_clock 24 = .ok (.iconst 0, 1) := by decide +kernel
theorem dX6_clock_25 : decode cX6_clock 25 = .ok (.invokestatic 97, 3) := by decide +kernel
theorem dX6_clock_28 : decode cX6_clock 28 = .ok (.aload_n 0, 1) := by decide +kernel
theorem dX6_clock_29 : decode cX6_clock 29 = .ok (.aload_n 0, 1) := by decide +kernel
theorem dX6_clock_30 : decode cX6_clock 30 = .ok (.getfield 39, 3) := by decide +kernel
theorem dX6_clock_33 : decode cX6_clock 33 = .ok (.iload_n 1, 1) := by decide +kernel
theorem dX6_clock_34 : decode cX6_clock 34 = .ok (.aaload, 1) := by decide +kernel
theorem dX6_clock_35 : decode cX6_clock 35 = .ok (.invokevirtual 198, 3) := by decide +kernel
theorem dX6_clock_38 : decode cX6_clock 38 = .ok (.dreturn, 1) := by decide +kernel
theorem dX6_whyNot_0 : decode cX6_whyNot 0 = .ok (.iload_n 1, 1) := by decide +kernel
theorem dX6_whyNot_1 : decode cX6_whyNot 1 = .ok (.aload_n 0, 1) := by decide +kernel
theorem dX6_whyNot_2 : decode cX6_whyNot 2 = .ok (.getfield 108, 3) := by decide +kernel
theorem dX6_whyNot_5 : decode cX6_whyNot 5 = .ok (.invokestatic 60, 3) := by decide +kernel
theorem dX6_whyNot_8 : decode cX6_whyNot 8 = .ok (.aload_n 0, 1) := by decide +kernel
theorem dX6_whyNot_9 : decode cX6_whyNot 9 = .ok (.getfield 39, 3) := by decide +kernel
theorem dX6_whyNot_12 : decode cX6_whyNot 12 = .ok (.iload_n 1, 1) := by decide +kernel
theorem dX6_whyNot_13 : decode cX6_whyNot 13 = .ok (.aaload, 1) := by decide +kernel
theorem dX6_whyNot_14 : decode cX6_whyNot 14 = .ok (.astore_n 2, 1) := by decide +kernel
theorem dX6_whyNot_15 : decode cX6_whyNot 15 = .ok (.aload_n 2, 1) := by decide +kernel
theorem dX6_whyNot_16 : decode cX6_whyNot 16 = .ok (.getfield 120, 3) := by decide +kernel
theorem dX6_whyNot_19 : decode cX6_whyNot 19 = .ok (.iconst 2, 1) := by decide +kernel
theorem dX6_whyNot_20 : decode cX6_whyNot 20 = .ok (.if_icmp .eq 5, 3) := by decide +kernel
theorem dX6_whyNot_23 : decode cX6_whyNot 23 = .ok (.iconst 1, 1) := by decide +kernel
theorem dX6_whyNot_24 : decode cX6_whyNot 24 = .ok (.ireturn, 1) := by decide +kernel
theorem dX6_whyNot_25 : decode cX6_whyNot 25 = .ok (.aload_n 2, 1) := by decide +kernel
theorem dX6_whyNot_26 : decode cX6_whyNot 26 = .ok (.getfield 202, 3) := by decide +kernel
theorem dX6_whyNot_29 : decode cX6_whyNot 29 = .ok (.aload_n 0, 1) := by decide +kernel
theorem dX6_whyNot_30 : decode cX6_whyNot 30 = .ok (.getfield 64, 3) := by decide +kernel
theorem dX6_whyNot_33 : decode cX6_whyNot 33 = .ok (.if_icmp .le 5, 3) := by decide +kernel
theorem dX6_whyNot_36 : decode cX6_whyNot 36 = .ok (.iconst 2, 1) := by decide +kernel
theorem dX6_whyNot_37 : decode cX6_whyNot 37 = .ok (.ireturn, 1) := by decide +kernel
theorem dX6_whyNot_38 : decode cX6_whyNot 38 = .ok (.aload_n 0, 1) := by decide +kernel
theorem dX6_whyNot_39 : decode cX6_whyNot 39 = .ok (.aload_n 2, 1) := by decide +kernel
theorem dX6_whyNot_40 : decode cX6_whyNot 40 = .ok (.invokevirtual 198, 3) := by decide +kernel
theorem dX6_whyNot_43 : decode cX6_whyNot 43 = .ok (.dconst 0, 1) := by decide +kernel
theorem dX6_whyNot_44 : decode cX6_whyNot 44 = .ok (.dcmp .g, 1) := by decide +kernel
theorem dX6_whyNot_45 : decode cX6_whyNot 45 = .ok (.ifCond .ge 5, 3) := by decide +kernel
theorem dX6_whyNot_48 : decode cX6_whyNot 48 = .ok (.iconst 3, 1) := by decide +kernel
theorem dX6_whyNot_49 : decode cX6_whyNot 49 = .ok (.ireturn, 1) := by decide +kernel
theorem dX6_whyNot_50 : decode cX6_whyNot 50 = .ok (.aload_n 0, 1) := by decide +kernel
theorem dX6_whyNot_51 : decode cX6_whyNot 51 = .ok (.getfield 19, 3) := by decide +kernel
theorem dX6_whyNot_54 : decode cX6_whyNot 54 = .ok (.aload_n 0, 1) := by decide +kernel
theorem dX6_whyNot_55 : decode cX6_whyNot 55 = .ok (.getfield 64, 3) := by decide +kernel
theorem dX6_whyNot_58 : decode cX6_whyNot 58 = .ok (.invokevirtual 205, 3) := by decide +kernel
theorem dX6_whyNot_61 : decode cX6_whyNot 61 = .ok (.ifCond .eq 5, 3) := by decide +kernel
theorem dX6_whyNot_64 : decode cX6_whyNot 64 = .ok (.iconst 4, 1) := by decide +kernel
theorem dX6_whyNot_65 : decode cX6_whyNot 65 = .ok (.ireturn, 1) := by decide +kernel
theorem dX6_whyNot_66 : decode cX6_whyNot 66 = .ok (.aload_n 0, 1) := by decide +kernel
theorem dX6_whyNot_67 : decode cX6_whyNot 67 = .ok (.getfield 19, 3) := by decide +kernel
theorem dX6_whyNot_70 : decode cX6_whyNot 70 = .ok (.aload_n 0, 1) := by decide +kernel
theorem dX6_whyNot_71 : decode cX6_whyNot 71 = .ok (.getfield 64, 3) := by decide +kernel
theorem dX6_whyNot_74 : decode cX6_whyNot 74 = .ok (.aload_n 0, 1) := by decide +kernel
theorem dX6_whyNot_75 : decode cX6_whyNot 75 = .ok (.getfield 10, 3) := by decide +kernel
theorem dX6_whyNot_78 : decode cX6_whyNot 78 = .ok (.invokevirtual 208, 3) := by decide +kernel
theorem dX6_whyNot_81 : decode cX6_whyNot 81 = .ok (.ifCond .eq 7, 3) := by decide +kernel
theorem dX6_whyNot_84 : decode cX6_whyNot 84 = .ok (.iconst 0, 1) := by decide +kernel
theorem dX6_whyNot_85 : decode cX6_whyNot 85 = .ok (.goto 4, 3) := by decide +kernel
theorem dX6_whyNot_88 : decode cX6_whyNot 88 = .ok (.iconst 5, 1) := by decide +kernel
theorem dX6_whyNot_89 : decode cX6_whyNot 89 = .ok (.ireturn, 1) := by decide +kernel
theorem dX6_queue_0 : decode cX6_queue 0 = .ok (.iload_n 1, 1) := by decide +kernel
theorem dX6_queue_1 : decode cX6_queue 1 = .ok (.ifCond .ge 13, 3) := by decide +kernel
theorem dX6_queue_4 : decode cX6_queue 4 = .ok (.new 211, 3) := by decide +kernel
theorem dX6_queue_7 : decode cX6_queue 7 = .ok (.dup, 1) := by decide +kernel
theorem dX6_queue_8 : decode cX6_queue 8 = .ok (.ldc 213, 2) := by decide +kernel
theorem dX6_queue_10 : decode cX6_queue 10 = .ok (.invokespecial 215, 3) := by decide +kernel
theorem dX6_queue_13 : decode cX6_queue 13 = .ok (.athrow, 1) := by decide +kernel
theorem dX6_queue_14 : decode cX6_queue 14 = .ok (.iconst 0, 1) := by decide +kernel
theorem dX6_queue_15 : decode cX6_queue 15 = .ok (.istore_n 2, 1) := by decide +kernel
theorem dX6_queue_16 : decode cX6_queue 16 = .ok (.iload_n 2, 1) := by decide +kernel
theorem dX6_queue_17 : decode cX6_queue 17 = .ok (.aload_n 0, 1) := by decide +kernel
theorem dX6_queue_18 : decode cX6_queue 18 = .ok (.getfield 108, 3) := by decide +kernel
theorem dX6_queue_21 : decode cX6_queue 21 = .ok (.if_icmp .ge 33, 3) := by decide +kernel
theorem dX6_queue_24 : decode cX6_queue 24 = .ok (.aload_n 0, 1) := by decide +kernel
theorem dX6_queue_25 : decode cX6_queue 25 = .ok (.getfield 39, 3) := by decide +kernel
theorem dX6_queue_28 : decode cX6_queue 28 = .ok (.iload_n 2, 1) := by decide +kernel
theorem dX6_queue_29 : decode cX6_queue 29 = .ok (.aaload, 1) := by decide +kernel
theorem dX6_queue_30 : decode cX6_queue 30 = .ok (.getfield 120, 3) := by decide +kernel
theorem dX6_queue_33 : decode cX6_queue 33 = .ok (.iconst 2, 1) := by decide +kernel
theorem dX6_queue_34 : decode cX6_queue 34 = .ok (.if_icmp .ne 14, 3) := by decide +kernel
theorem dX6_queue_37 : decode cX6_queue 37 = .ok (.aload_n 0, 1) := by decide +kernel
theorem dX6_queue_38 : decode cX6_queue 38 = .ok (.iload_n 2, 1) := by decide +kernel
theorem dX6_queue_39 : decode cX6_queue 39 = .ok (.invokevirtual 218, 3) := by decide +kernel
theorem dX6_queue_42 : decode cX6_queue 42 = .ok (.iload_n 1, 1) := by decide +kernel
theorem dX6_queue_43 : decode cX6_queue 43 = .ok (.if_icmp .ne 5, 3) := by decide +kernel
theorem dX6_queue_46 : decode cX6_queue 46 = .ok (.iload_n 2, 1) := by decide +kernel
theorem dX6_queue_47 : decode cX6_queue 47 = .ok (.ireturn, 1) := by decide +kernel
theorem dX6_queue_48 : decode cX6_queue 48 = .ok (.iinc 2 1, 3) := by decide +kernel
theorem dX6_queue_51 : decode cX6_queue 51 = .ok (.goto (-35), 3) := by decide +kernel
theorem dX6_queue_54 : decode cX6_queue 54 = .ok (.iconst (-1), 1) := by decide +kernel
theorem dX6_queue_55 : decode cX6_queue 55 = .ok (.ireturn, 1) := by decide +kernel
theorem dX6_sum_0 : decode cX6_sum 0 = .ok (.iload_n 1, 1) := by decide +kernel
theorem dX6_sum_1 : decode cX6_sum 1 = .ok (.iconst 0, 1) := by decide +kernel
theorem dX6_sum_2 : decode cX6_sum 2 = .ok (.bipush 6, 2) := by decide +kernel
theorem dX6_sum_4 : decode cX6_sum 4 = .ok (.invokestatic 43, 3) := by decide +kernel
theorem dX6_sum_7 : decode cX6_sum 7 = .ok (.iload_n 1, 1) := by decide +kernel
theorem dX6_sum_8 : decode cX6_sum 8 = .ok (.tableswitch 85 0 5 #[40, 48, 56, 61, 69, 77], 40) := by decide +kernel
theorem dX6_sum_48 : decode cX6_sum 48 = .ok (.aload_n 0, 1) := by decide +kernel
theorem dX6_sum_49 : decode cX6_sum 49 = .ok (.getfield 26, 3) := by decide +kernel
theorem dX6_sum_52 : decode cX6_sum 52 = .ok (.getfield 101, 3) := by decide +kernel
theorem dX6_sum_55 : decode cX6_sum 55 = .ok (.ireturn, 1) := by decide +kernel
theorem dX6_sum_56 : decode cX6_sum 56 = .ok (.aload_n 0, 1) := by decide +kernel
theorem dX6_sum_57 : decode cX6_sum 57 = .ok (.getfield 26, 3) := by decide +kernel
theorem dX6_sum_60 : decode cX6_sum 60 = .ok (.invokevirtual 221, 3) := by decide +kernel
theorem dX6_sum_63 : decode cX6_sum 63 = .ok (.ireturn, 1) := by decide +kernel
theorem dX6_sum_64 : decode cX6_sum 64 = .ok (.aload_n 0, 1) := by decide +kernel
theorem dX6_sum_65 : decode cX6_sum 65 = .ok (.invokevirtual 225, 3) := by decide +kernel
theorem dX6_sum_68 : decode cX6_sum 68 = .ok (.ireturn, 1) := by decide +kernel
theorem dX6_sum_69 : decode cX6_sum 69 = .ok (.aload_n 0, 1) := by decide +kernel
theorem dX6_sum_70 : decode cX6_sum 70 = .ok (.getfield 33, 3) := by decide +kernel
theorem dX6_sum_73 : decode cX6_sum 73 = .ok (.getfield 130, 3) := by decide +kernel
theorem dX6_sum_76 : decode cX6_sum 76 = .ok (.ireturn, 1) := by decide +kernel
theorem dX6_sum_77 : decode cX6_sum 77 = .ok (.aload_n 0, 1) := by decide +kernel
theorem dX6_sum_78 : decode cX6_sum 78 = .ok (.getfield 33, 3) := by decide +kernel
theorem dX6_sum_81 : decode cX6_sum 81 = .ok (.getfield 228, 3) := by decide +kernel
theorem dX6_sum_84 : decode cX6_sum 84 = .ok (.ireturn, 1) := by decide +kernel
theorem dX6_sum_85 : decode cX6_sum 85 = .ok (.aload_n 0, 1) := by decide +kernel
theorem dX6_sum_86 : decode cX6_sum 86 = .ok (.getfield 33, 3) := by decide +kernel
theorem dX6_sum_89 : decode cX6_sum 89 = .ok (.getfield 157, 3) := by decide +kernel
theorem dX6_sum_92 : decode cX6_sum 92 = .ok (.ireturn, 1) := by decide +kernel
theorem dX6_sum_93 : decode cX6_sum 93 = .ok (.aload_n 0, 1) := by decide +kernel
theorem dX6_sum_94 : decode cX6_sum 94 = .ok (.getfield 19, 3) := by decide +kernel
theorem dX6_sum_97 : decode cX6_sum 97 = .ok (.getfield 231, 3) := by decide +kernel
theorem dX6_sum_100 : decode cX6_sum 100 = .ok (.ireturn, 1) := by decide +kernel
theorem dX6_liveMinute_0 : decode cX6_liveMinute 0 = .ok (.aload_n 0, 1) := by decide +kernel
theorem dX6_liveMinute_1 : decode cX6_liveMinute 1 = .ok (.dup, 1) := by decide +kernel
theorem dX6_liveMinute_2 : decode cX6_liveMinute 2 = .ok (.getfield 64, 3) := by decide +kernel
theorem dX6_liveMinute_5 : decode cX6_liveMinute 5 = .ok (.iconst 1, 1) := by decide +kernel
theorem dX6_liveMinute_6 : decode cX6_liveMinute 6 = .ok (.iadd, 1) := by decide +kernel
theorem dX6_liveMinute_7 : decode cX6_liveMinute 7 = .ok (.putfield 64, 3) := by decide +kernel
theorem dX6_liveMinute_10 : decode cX6_liveMinute 10 = .ok (.aload_n 0, 1) := by decide +kernel
theorem dX6_liveMinute_11 : decode cX6_liveMinute 11 = .ok (.getfield 19, 3) := by decide +kernel
theorem dX6_liveMinute_14 : decode cX6_liveMinute 14 = .ok (.aload_n 0, 1) := by decide +kernel
theorem dX6_liveMinute_15 : decode cX6_liveMinute 15 = .ok (.getfield 64, 3) := by decide +kernel
theorem dX6_liveMinute_18 : decode cX6_liveMinute 18 = .ok (.aload_n 0, 1) := by decide +kernel
theorem dX6_liveMinute_19 : decode cX6_liveMinute 19 = .ok (.getfield 10, 3) := by decide +kernel
theorem dX6_liveMinute_22 : decode cX6_liveMinute 22 = .ok (.invokevirtual 234, 3) := by decide +kernel
theorem dX6_liveMinute_25 : decode cX6_liveMinute 25 = .ok (.aload_n 0, 1) := by decide +kernel
theorem dX6_liveMinute_26 : decode cX6_liveMinute 26 = .ok (.invokevirtual 237, 3) := by decide +kernel
theorem dX6_liveMinute_29 : decode cX6_liveMinute 29 = .ok (.aload_n 0, 1) := by decide +kernel
theorem dX6_liveMinute_30 : decode cX6_liveMinute 30 = .ok (.getfield 33, 3) := by decide +kernel
theorem dX6_liveMinute_33 : decode cX6_liveMinute 33 = .ok (.invokevirtual 240, 3) := by decide +kernel
theorem dX6_liveMinute_36 : decode cX6_liveMinute 36 = .ok (.aload_n 0, 1) := by decide +kernel
theorem dX6_liveMinute_37 : decode cX6_liveMinute 37 = .ok (.invokevirtual 242, 3) := by decide +kernel
theorem dX6_liveMinute_40 : decode cX6_liveMinute 40 = .ok (.aload_n 0, 1) := by decide +kernel
theorem dX6_liveMinute_41 : decode cX6_liveMinute 41 = .ok (.invokevirtual 245, 3) := by decide +kernel
theorem dX6_liveMinute_44 : decode cX6_liveMinute 44 = .ok (.aload_n 0, 1) := by decide +kernel
theorem dX6_liveMinute_45 : decode cX6_liveMinute 45 = .ok (.getfield 19, 3) := by decide +kernel
theorem dX6_liveMinute_48 : decode cX6_liveMinute 48 = .ok (.aload_n 0, 1) := by decide +kernel
theorem dX6_liveMinute_49 : decode cX6_liveMinute 49 = .ok (.getfield 64, 3) := by decide +kernel
theorem dX6_liveMinute_52 : decode cX6_liveMinute 52 = .ok (.aload_n 0, 1) := by decide +kernel
theorem dX6_liveMinute_53 : decode cX6_liveMinute 53 = .ok (.getfield 10, 3) := by decide +kernel
theorem dX6_liveMinute_56 : decode cX6_liveMinute 56 = .ok (.invokevirtual 182, 3) := by decide +kernel
theorem dX6_liveMinute_59 : decode cX6_liveMinute 59 = .ok (.ifCond .eq 7, 3) := by decide +kernel
theorem dX6_liveMinute_62 : decode cX6_liveMinute 62 = .ok (.aload_n 0, 1) := by decide +kernel
theorem dX6_liveMinute_63 : decode cX6_liveMinute 63 = .ok (.invokevirtual 248, 3) := by decide +kernel
theorem dX6_liveMinute_66 : decode cX6_liveMinute 66 = .ok (.return_, 1) := by decide +kernel
theorem dX6_endTreatments_0 : decode cX6_endTreatments 0 = .ok (.iconst 0, 1) := by decide +kernel
theorem dX6_endTreatments_1 : decode cX6_endTreatments 1 = .ok (.istore_n 1, 1) := by decide +kernel
theorem dX6_endTreatments_2 : decode cX6_endTreatments 2 = .ok (.iload_n 1, 1) := by decide +kernel
theorem dX6_endTreatments_3 : decode cX6_endTreatments 3 = .ok (.aload_n 0, 1) := by decide +kernel
theorem dX6_endTreatments_4 : decode cX6_endTreatments 4 = .ok (.getfield 108, 3) := by decide +kernel
theorem dX6_endTreatments_7 : decode cX6_endTreatments 7 = .ok (.if_icmp .ge 48, 3) := by decide +kernel
theorem dX6_endTreatments_10 : decode cX6_endTreatments 10 = .ok (.aload_n 0, 1) := by decide +kernel
theorem dX6_endTreatments_11 : decode cX6_endTreatments 11 = .ok (.getfield 39, 3) := by decide +kernel
theorem dX6_endTreatments_14 : decode cX6_endTreatments 14 = .ok (.iload_n 1, 1) := by decide +kernel
theorem dX6_endTreatments_15 : decode cX6_endTreatments 15 = .ok (.aaload, 1) := by decide +kernel
theorem dX6_endTreatments_16 : decode cX6_endTreatments 16 = .ok (.getfield 120, 3) := by decide +kernel
theorem dX6_endTreatments_19 : decode cX6_endTreatments 19 = .ok (.iconst 1, 1) := by decide +kernel
theorem dX6_endTreatments_20 : decode cX6_endTreatments 20 = .ok (.if_icmp .ne 29, 3) := by decide +kernel
theorem dX6_endTreatments_23 : decode cX6_endTreatments 23 = .ok (.aload_n 0, 1) := by decide +kernel
theorem dX6_endTreatments_24 : decode cX6_endTreatments 24 = .ok (.getfield 39, 3) := by decide +kernel
theorem dX6_endTreatments_27 : decode cX6_endTreatments 27 = .ok (.iload_n 1, 1) := by decide +kernel
theorem dX6_endTreatments_28 : decode cX6_endTreatments 28 = .ok (.aaload, 1) := by decide +kernel
theorem dX6_endTreatments_29 : decode cX6_endTreatments 29 = .ok (.getfield 143, 3) := by decide +kernel
theorem dX6_endTreatments_32 : decode cX6_endTreatments 32 = .ok (.aload_n 0, 1) := by decide +kernel
theorem dX6_endTreatments_33 : decode cX6_endTreatments 33 = .ok (.getfield 64, 3) := by decide +kernel
theorem dX6_endTreatments_36 : decode cX6_endTreatments 36 = .ok (.if_icmp .gt 13, 3) := by decide +kernel
theorem dX6_endTreatments_39 : decode cX6_endTreatments 39 = .ok (.aload_n 0, 1) := by decide +kernel
theorem dX6_endTreatments_40 : decode cX6_endTreatments 40 = .ok (.getfield 39, 3) := by decide +kernel
theorem dX6_endTreatments_43 : decode cX6_endTreatments 43 = .ok (.iload_n 1, 1) := by decide +kernel
theorem dX6_endTreatments_44 : decode cX6_endTreatments 44 = .ok (.aaload, 1) := by decide +kernel
theorem dX6_endTreatments_45 : decode cX6_endTreatments 45 = .ok (.iconst 2, 1) := by decide +kernel
theorem dX6_endTreatments_46 : decode cX6_endTreatments 46 = .ok (.putfield 120, 3) := by decide +kernel
theorem dX6_endTreatments_49 : decode cX6_endTreatments 49 = .ok (.iinc 1 1, 3) := by decide +kernel
theorem dX6_endTreatments_52 : decode cX6_endTreatments 52 = .ok (.goto (-50), 3) := by decide +kernel
theorem dX6_endTreatments_55 : decode cX6_endTreatments 55 = .ok (.return_, 1) := by decide +kernel
theorem dX6_cancelBehindDuty_0 : decode cX6_cancelBehindDuty 0 = .ok (.iconst 0, 1) := by decide +kernel
theorem dX6_cancelBehindDuty_1 : decode cX6_cancelBehindDuty 1 = .ok (.istore_n 1, 1) := by decide +kernel
theorem dX6_cancelBehindDuty_2 : decode cX6_cancelBehindDuty 2 = .ok (.iload_n 1, 1) := by decide +kernel
theorem dX6_cancelBehindDuty_3 : decode cX6_cancelBehindDuty 3 = .ok (.aload_n 0, 1) := by decide +kernel
theorem dX6_cancelBehindDuty_4 : decode cX6_cancelBehindDuty 4 = .ok (.getfield 108, 3) := by decide +kernel
theorem dX6_cancelBehindDuty_7 : decode cX6_cancelBehindDuty 7 = .ok (.if_icmp .ge 47, 3) := by decide +kernel
theorem dX6_cancelBehindDuty_10 : decode cX6_cancelBehindDuty 10 = .ok (.aload_n 0, 1) := by decide +kernel
theorem dX6_cancelBehindDuty_11 : decode cX6_cancelBehindDuty 11 = .ok (.getfield 39, 3) := by decide +kernel
theorem dX6_cancelBehindDuty_14 : decode cX6_cancelBehindDuty 14 = .ok (.iload_n 1, 1) := by decide +kernel
theorem dX6_cancelBehindDuty_15 : decode cX6_cancelBehindDuty 15 = .ok (.aaload, 1) := by decide +kernel
theorem dX6_cancelBehindDuty_16 : decode cX6_cancelBehindDuty 16 = .ok (.invokevirtual 146, 3) := by decide +kernel
theorem dX6_cancelBehindDuty_19 : decode cX6_cancelBehindDuty 19 = .ok (.ifCond .ne 29, 3) := by decide +kernel
theorem dX6_cancelBehindDuty_22 : decode cX6_cancelBehindDuty 22 = .ok (.aload_n 0, 1) := by decide +kernel
theorem dX6_cancelBehindDuty_23 : decode cX6_cancelBehindDuty 23 = .ok (.getfield 39, 3) := by decide +kernel
theorem dX6_cancelBehindDuty_26 : decode cX6_cancelBehindDuty 26 = .ok (.iload_n 1, 1) := by decide +kernel
theorem dX6_cancelBehindDuty_27 : decode cX6_cancelBehindDuty 27 = .ok (.aaload, 1) := by decide +kernel
theorem dX6_cancelBehindDuty_28 : decode cX6_cancelBehindDuty 28 = .ok (.getfield 251, 3) := by decide +kernel
theorem dX6_cancelBehindDuty_31 : decode cX6_cancelBehindDuty 31 = .ok (.aload_n 0, 1) := by decide +kernel
theorem dX6_cancelBehindDuty_32 : decode cX6_cancelBehindDuty 32 = .ok (.getfield 64, 3) := by decide +kernel
theorem dX6_cancelBehindDuty_35 : decode cX6_cancelBehindDuty 35 = .ok (.if_icmp .ge 13, 3) := by decide +kernel
theorem dX6_cancelBehindDuty_38 : decode cX6_cancelBehindDuty 38 = .ok (.aload_n 0, 1) := by decide +kernel
theorem dX6_cancelBehindDuty_39 : decode cX6_cancelBehindDuty 39 = .ok (.getfield 39, 3) := by decide +kernel
theorem dX6_cancelBehindDuty_42 : decode cX6_cancelBehindDuty 42 = .ok (.iload_n 1, 1) := by decide +kernel
theorem dX6_cancelBehindDuty_43 : decode cX6_cancelBehindDuty 43 = .ok (.aaload, 1) := by decide +kernel
theorem dX6_cancelBehindDuty_44 : decode cX6_cancelBehindDuty 44 = .ok (.iconst 4, 1) := by decide +kernel
theorem dX6_cancelBehindDuty_45 : decode cX6_cancelBehindDuty 45 = .ok (.putfield 120, 3) := by decide +kernel
theorem dX6_cancelBehindDuty_48 : decode cX6_cancelBehindDuty 48 = .ok (.iinc 1 1, 3) := by decide +kernel
theorem dX6_cancelBehindDuty_51 : decode cX6_cancelBehindDuty 51 = .ok (.goto (-49), 3) := by decide +kernel
theorem dX6_cancelBehindDuty_54 : decode cX6_cancelBehindDuty 54 = .ok (.return_, 1) := by decide +kernel
theorem dX6_sendBackWithoutClock_0 : decode cX6_sendBackWithoutClock 0 = .ok (.iconst 0, 1) := by decide +kernel
theorem dX6_sendBackWithoutClock_1 : decode cX6_sendBackWithoutClock 1 = .ok (.istore_n 1, 1) := by decide +kernel
theorem dX6_sendBackWithoutClock_2 : decode cX6_sendBackWithoutClock 2 = .ok (.iload_n 1, 1) := by decide +kernel
theorem dX6_sendBackWithoutClock_3 : decode cX6_sendBackWithoutClock 3 = .ok (.aload_n 0, 1) := by decide +kernel
theorem dX6_sendBackWithoutClock_4 : decode cX6_sendBackWithoutClock 4 = .ok (.getfield 108, 3) := by decide +kernel
theorem dX6_sendBackWithoutClock_7 : decode cX6_sendBackWithoutClock 7 = .ok (.if_icmp .ge 47, 3) := by decide +kernel
theorem dX6_sendBackWithoutClock_10 : decode cX6_sendBackWithoutClock 10 = .ok (.aload_n 0, 1) := by decide +kernel
theorem dX6_sendBackWithoutClock_11 : decode cX6_sendBackWithoutClock 11 = .ok (.getfield 39, 3) := by decide +kernel
theorem dX6_sendBackWithoutClock_14 : decode cX6_sendBackWithoutClock 14 = .ok (.iload_n 1, 1) := by decide +kernel
theorem dX6_sendBackWithoutClock_15 : decode cX6_sendBackWithoutClock 15 = .ok (.aaload, 1) := by decide +kernel
theorem dX6_sendBackWithoutClock_16 : decode cX6_sendBackWithoutClock 16 = .ok (.getfield 120, 3) := by decide +kernel
theorem dX6_sendBackWithoutClock_19 : decode cX6_sendBackWithoutClock 19 = .ok (.iconst 2, 1) := by decide +kernel
theorem dX6_sendBackWithoutClock_20 : decode cX6_sendBackWithoutClock 20 = .ok (.if_icmp .ne 28, 3) := by decide +kernel
theorem dX6_sendBackWithoutClock_23 : decode cX6_sendBackWithoutClock 23 = .ok (.aload_n 0, 1) := by decide +kernel
theorem dX6_sendBackWithoutClock_24 : decode cX6_sendBackWithoutClock 24 = .ok (.aload_n 0, 1) := by decide +kernel
theorem dX6_sendBackWithoutClock_25 : decode cX6_sendBackWithoutClock 25 = .ok (.getfield 39, 3) := by decide +kernel
theorem dX6_sendBackWithoutClock_28 : decode cX6_sendBackWithoutClock 28 = .ok (.iload_n 1, 1) := by decide +kernel
theorem dX6_sendBackWithoutClock_29 : decode cX6_sendBackWithoutClock 29 = .ok (.aaload, 1) := by decide +kernel
theorem dX6_sendBackWithoutClock_30 : decode cX6_sendBackWithoutClock 30 = .ok (.invokevirtual 198, 3) := by decide +kernel
theorem dX6_sendBackWithoutClock_33 : decode cX6_sendBackWithoutClock 33 = .ok (.dconst 0, 1) := by decide +kernel
theorem dX6_sendBackWithoutClock_34 : decode cX6_sendBackWithoutClock 34 = .ok (.dcmp .g, 1) := by decide +kernel
theorem dX6_sendBackWithoutClock_35 : decode cX6_sendBackWithoutClock 35 = .ok (.ifCond .ge 13, 3) := by decide +kernel
theorem dX6_sendBackWithoutClock_38 : decode cX6_sendBackWithoutClock 38 = .ok (.aload_n 0, 1) := by decide +kernel
theorem dX6_sendBackWithoutClock_39 : decode cX6_sendBackWithoutClock 39 = .ok (.getfield 39, 3) := by decide +kernel
theorem dX6_sendBackWithoutClock_42 : decode cX6_sendBackWithoutClock 42 = .ok (.iload_n 1, 1) := by decide +kernel
theorem dX6_sendBackWithoutClock_43 : decode cX6_sendBackWithoutClock 43 = .ok (.aaload, 1) := by decide +kernel
theorem dX6_sendBackWithoutClock_44 : decode cX6_sendBackWithoutClock 44 = .ok (.iconst 0, 1) := by decide +kernel
theorem dX6_sendBackWithoutClock_45 : decode cX6_sendBackWithoutClock 45 = .ok (.putfield 120, 3) := by decide +kernel
theorem dX6_sendBackWithoutClock_48 : decode cX6_sendBackWithoutClock 48 = .ok (.iinc 1 1, 3) := by decide +kernel
theorem dX6_sendBackWithoutClock_51 : decode cX6_sendBackWithoutClock 51 = .ok (.goto (-49), 3) := by decide +kernel
theorem dX6_sendBackWithoutClock_54 : decode cX6_sendBackWithoutClock 54 = .ok (.return_, 1) := by decide +kernel
theorem dX6_letOneLeave_0 : decode cX6_letOneLeave 0 = .ok (.iconst (-1), 1) := by decide +kernel
theorem dX6_letOneLeave_1 : decode cX6_letOneLeave 1 = .ok (.istore_n 1, 1) := by decide +kernel
theorem dX6_letOneLeave_2 : decode cX6_letOneLeave 2 = .ok (.iconst 0, 1) := by decide +kernel
theorem dX6_letOneLeave_3 : decode cX6_letOneLeave 3 = .ok (.istore_n 2, 1) := by decide +kernel
theorem dX6_letOneLeave_4 : decode cX6_letOneLeave 4 = .ok (.iload_n 2, 1) := by decide +kernel
theorem dX6_letOneLeave_5 : decode cX6_letOneLeave 5 = .ok (.aload_n 0, 1) := by decide +kernel
theorem dX6_letOneLeave_6 : decode cX6_letOneLeave 6 = .ok (.getfield 108, 3) := by decide +kernel
theorem dX6_letOneLeave_9 : decode cX6_letOneLeave 9 = .ok (.if_icmp .ge 64, 3) := by decide +kernel
theorem dX6_letOneLeave_12 : decode cX6_letOneLeave 12 = .ok (.aload_n 0, 1) := by decide +kernel
theorem dX6_letOneLeave_13 : decode cX6_letOneLeave 13 = .ok (.getfield 39, 3) := by decide +kernel
theorem dX6_letOneLeave_16 : decode cX6_letOneLeave 16 = .ok (.iload_n 2, 1) := by decide +kernel
theorem dX6_letOneLeave_17 : decode cX6_letOneLeave 17 = .ok (.aaload, 1) := by decide +kernel
theorem dX6_letOneLeave_18 : decode cX6_letOneLeave 18 = .ok (.getfield 120, 3) := by decide +kernel
theorem dX6_letOneLeave_21 : decode cX6_letOneLeave 21 = .ok (.iconst 2, 1) := by decide +kernel
theorem dX6_letOneLeave_22 : decode cX6_letOneLeave 22 = .ok (.if_icmp .ne 23, 3) := by decide +kernel
theorem dX6_letOneLeave_25 : decode cX6_letOneLeave 25 = .ok (.aload_n 0, 1) := by decide +kernel
theorem dX6_letOneLeave_26 : decode cX6_letOneLeave 26 = .ok (.getfield 39, 3) := by decide +kernel
theorem dX6_letOneLeave_29 : decode cX6_letOneLeave 29 = .ok (.iload_n 2, 1) := by decide +kernel
theorem dX6_letOneLeave_30 : decode cX6_letOneLeave 30 = .ok (.aaload, 1) := by decide +kernel
theorem dX6_letOneLeave_31 : decode cX6_letOneLeave 31 = .ok (.getfield 202, 3) := by decide +kernel
theorem dX6_letOneLeave_34 : decode cX6_letOneLeave 34 = .ok (.aload_n 0, 1) := by decide +kernel
theorem dX6_letOneLeave_35 : decode cX6_letOneLeave 35 = .ok (.getfield 64, 3) := by decide +kernel
theorem dX6_letOneLeave_38 : decode cX6_letOneLeave 38 = .ok (.if_icmp .gt 7, 3) := by decide +kernel
theorem dX6_letOneLeave_41 : decode cX6_letOneLeave 41 = .ok (.iconst 1, 1) := by decide +kernel
theorem dX6_letOneLeave_42 : decode cX6_letOneLeave 42 = .ok (.goto 4, 3) := by decide +kernel
theorem dX6_letOneLeave_45 : decode cX6_letOneLeave 45 = .ok (.iconst 0, 1) := by decide +kernel
theorem dX6_letOneLeave_46 : decode cX6_letOneLeave 46 = .ok (.istore_n 3, 1) := by decide +kernel
theorem dX6_letOneLeave_47 : decode cX6_letOneLeave 47 = .ok (.iload_n 3, 1) := by decide +kernel
theorem dX6_letOneLeave_48 : decode cX6_letOneLeave 48 = .ok (.ifCond .eq 19, 3) := by decide +kernel
theorem dX6_letOneLeave_51 : decode cX6_letOneLeave 51 = .ok (.iload_n 1, 1) := by decide +kernel
theorem dX6_letOneLeave_52 : decode cX6_letOneLeave 52 = .ok (.iconst (-1), 1) := by decide +kernel
theorem dX6_letOneLeave_53 : decode cX6_letOneLeave 53 = .ok (.if_icmp .eq 12, 3) := by decide +kernel
theorem dX6_letOneLeave_56 : decode cX6_letOneLeave 56 = .ok (.aload_n 0, 1) := by decide +kernel
theorem dX6_letOneLeave_57 : decode cX6_letOneLeave 57 = .ok (.iload_n 2, 1) := by decide +kernel
theorem dX6_letOneLeave_58 : decode cX6_letOneLeave 58 = .ok (.iload_n 1, 1) := by decide +kernel
theorem dX6_letOneLeave_59 : decode cX6_letOneLeave 59 = .ok (.invokevirtual 254, 3) := by decide +kernel
theorem dX6_letOneLeave_62 : decode cX6_letOneLeave 62 = .ok (.ifCond .eq 5, 3) := by decide +kernel
theorem dX6_letOneLeave_65 : decode cX6_letOneLeave 65 = .ok (.iload_n 2, 1) := by decide +kernel
theorem dX6_letOneLeave_66 : decode cX6_letOneLeave 66 = .ok (.istore_n 1, 1) := by decide +kernel
theorem dX6_letOneLeave_67 : decode cX6_letOneLeave 67 = .ok (.iinc 2 1, 3) := by decide +kernel
theorem dX6_letOneLeave_70 : decode cX6_letOneLeave 70 = .ok (.goto (-66), 3) := by decide +kernel
theorem dX6_letOneLeave_73 : decode cX6_letOneLeave 73 = .ok (.iload_n 1, 1) := by decide +kernel
theorem dX6_letOneLeave_74 : decode cX6_letOneLeave 74 = .ok (.iconst (-1), 1) := by decide +kernel
theorem dX6_letOneLeave_75 : decode cX6_letOneLeave 75 = .ok (.if_icmp .eq 26, 3) := by decide +kernel
theorem dX6_letOneLeave_78 : decode cX6_letOneLeave 78 = .ok (.aload_n 0, 1) := by decide +kernel
theorem dX6_letOneLeave_79 : decode cX6_letOneLeave 79 = .ok (.getfield 39, 3) := by decide +kernel
theorem dX6_letOneLeave_82 : decode cX6_letOneLeave 82 = .ok (.iload_n 1, 1) := by decide +kernel
theorem dX6_letOneLeave_83 : decode cX6_letOneLeave 83 = .ok (.aaload, 1) := by decide +kernel
theorem dX6_letOneLeave_84 : decode cX6_letOneLeave 84 = .ok (.iconst 3, 1) := by decide +kernel
theorem dX6_letOneLeave_85 : decode cX6_letOneLeave 85 = .ok (.putfield 120, 3) := by decide +kernel
theorem dX6_letOneLeave_88 : decode cX6_letOneLeave 88 = .ok (.aload_n 0, 1) := by decide +kernel
theorem dX6_letOneLeave_89 : decode cX6_letOneLeave 89 = .ok (.getfield 39, 3) := by decide +kernel
theorem dX6_letOneLeave_92 : decode cX6_letOneLeave 92 = .ok (.iload_n 1, 1) := by decide +kernel
theorem dX6_letOneLeave_93 : decode cX6_letOneLeave 93 = .ok (.aaload, 1) := by decide +kernel
theorem dX6_letOneLeave_94 : decode cX6_letOneLeave 94 = .ok (.aload_n 0, 1) := by decide +kernel
theorem dX6_letOneLeave_95 : decode cX6_letOneLeave 95 = .ok (.getfield 64, 3) := by decide +kernel
theorem dX6_letOneLeave_98 : decode cX6_letOneLeave 98 = .ok (.putfield 186, 3) := by decide +kernel
theorem dX6_letOneLeave_101 : decode cX6_letOneLeave 101 = .ok (.return_, 1) := by decide +kernel
theorem dX6_padIsFree_0 : decode cX6_padIsFree 0 = .ok (.iconst 0, 1) := by decide +kernel
theorem dX6_padIsFree_1 : decode cX6_padIsFree 1 = .ok (.istore_n 2, 1) := by decide +kernel
theorem dX6_padIsFree_2 : decode cX6_padIsFree 2 = .ok (.iload_n 2, 1) := by decide +kernel
theorem dX6_padIsFree_3 : decode cX6_padIsFree 3 = .ok (.aload_n 0, 1) := by decide +kernel
theorem dX6_padIsFree_4 : decode cX6_padIsFree 4 = .ok (.getfield 108, 3) := by decide +kernel
theorem dX6_padIsFree_7 : decode cX6_padIsFree 7 = .ok (.if_icmp .ge 37, 3) := by decide +kernel
theorem dX6_padIsFree_10 : decode cX6_padIsFree 10 = .ok (.aload_n 0, 1) := by decide +kernel
theorem dX6_padIsFree_11 : decode cX6_padIsFree 11 = .ok (.getfield 39, 3) := by decide +kernel
theorem dX6_padIsFree_14 : decode cX6_padIsFree 14 = .ok (.iload_n 2, 1) := by decide +kernel
theorem dX6_padIsFree_15 : decode cX6_padIsFree 15 = .ok (.aaload, 1) := by decide +kernel
theorem dX6_padIsFree_16 : decode cX6_padIsFree 16 = .ok (.getfield 120, 3) := by decide +kernel
theorem dX6_padIsFree_19 : decode cX6_padIsFree 19 = .ok (.iconst 1, 1) := by decide +kernel
theorem dX6_padIsFree_20 : decode cX6_padIsFree 20 = .ok (.if_icmp .ne 18, 3) := by decide +kernel
theorem dX6_padIsFree_23 : decode cX6_padIsFree 23 = .ok (.aload_n 0, 1) := by decide +kernel
theorem dX6_padIsFree_24 : decode cX6_padIsFree 24 = .ok (.getfield 39, 3) := by decide +kernel
theorem dX6_padIsFree_27 : decode cX6_padIsFree 27 = .ok (.iload_n 2, 1) := by decide +kernel
theorem dX6_padIsFree_28 : decode cX6_padIsFree 28 = .ok (.aaload, 1) := by decide +kernel
theorem dX6_padIsFree_29 : decode cX6_padIsFree 29 = .ok (.getfield 195, 3) := by decide +kernel
theorem dX6_padIsFree_32 : decode cX6_padIsFree 32 = .ok (.iload_n 1, 1) := by decide +kernel
theorem dX6_padIsFree_33 : decode cX6_padIsFree 33 = .ok (.if_icmp .ne 5, 3) := by decide +kernel
theorem dX6_padIsFree_36 : decode cX6_padIsFree 36 = .ok (.iconst 0, 1) := by decide +kernel
theorem dX6_padIsFree_37 : decode cX6_padIsFree 37 = .ok (.ireturn, 1) := by decide +kernel
theorem dX6_padIsFree_38 : decode cX6_padIsFree 38 = .ok (.iinc 2 1, 3) := by decide +kernel
theorem dX6_padIsFree_41 : decode cX6_padIsFree 41 = .ok (.goto (-39), 3) := by decide +kernel
theorem dX6_padIsFree_44 : decode cX6_padIsFree 44 = .ok (.iconst 1, 1) := by decide +kernel
theorem dX6_padIsFree_45 : decode cX6_padIsFree 45 = .ok (.ireturn, 1) := by decide +kernel
theorem dX6_placeInQueue_0 : decode cX6_placeInQueue 0 = .ok (.iconst 0, 1) := by decide +kernel
theorem dX6_placeInQueue_1 : decode cX6_placeInQueue 1 = .ok (.istore_n 2, 1) := by decide +kernel
theorem dX6_placeInQueue_2 : decode cX6_placeInQueue 2 = .ok (.iconst 0, 1) := by decide +kernel
theorem dX6_placeInQueue_3 : decode cX6_placeInQueue 3 = .ok (.istore_n 3, 1) := by decide +kernel
theorem dX6_placeInQueue_4 : decode cX6_placeInQueue 4 = .ok (.iload_n 3, 1) := by decide +kernel
theorem dX6_placeInQueue_5 : decode cX6_placeInQueue 5 = .ok (.aload_n 0, 1) := by decide +kernel
theorem dX6_placeInQueue_6 : decode cX6_placeInQueue 6 = .ok (.getfield 108, 3) := by decide +kernel
theorem dX6_placeInQueue_9 : decode cX6_placeInQueue 9 = .ok (.if_icmp .ge 39, 3) := by decide +kernel
theorem dX6_placeInQueue_12 : decode cX6_placeInQueue 12 = .ok (.iload_n 3, 1) := by decide +kernel
theorem dX6_placeInQueue_13 : decode cX6_placeInQueue 13 = .ok (.iload_n 1, 1) := by decide +kernel
theorem dX6_placeInQueue_14 : decode cX6_placeInQueue 14 = .ok (.if_icmp .eq 28, 3) := by decide +kernel
theorem dX6_placeInQueue_17 : decode cX6_placeInQueue 17 = .ok (.aload_n 0, 1) := by decide +kernel
theorem dX6_placeInQueue_18 : decode cX6_placeInQueue 18 = .ok (.getfield 39, 3) := by decide +kernel
theorem dX6_placeInQueue_21 : decode cX6_placeInQueue 21 = .ok (.iload_n 3, 1) := by decide +kernel
theorem dX6_placeInQueue_22 : decode cX6_placeInQueue 22 = .ok (.aaload, 1) := by decide +kernel
theorem dX6_placeInQueue_23 : decode cX6_placeInQueue 23 = .ok (.getfield 120, 3) := by decide +kernel
theorem dX6_placeInQueue_26 : decode cX6_placeInQueue 26 = .ok (.iconst 2, 1) := by decide +kernel
theorem dX6_placeInQueue_27 : decode cX6_placeInQueue 27 = .ok (.if_icmp .ne 15, 3) := by decide +kernel
theorem dX6_placeInQueue_30 : decode cX6_placeInQueue 30 = .ok (.aload_n 0, 1) := by decide +kernel
theorem dX6_placeInQueue_31 : decode cX6_placeInQueue 31 = .ok (.iload_n 3, 1) := by decide +kernel
theorem dX6_placeInQueue_32 : decode cX6_placeInQueue 32 = .ok (.iload_n 1, 1) := by decide +kernel
theorem dX6_placeInQueue_33 : decode cX6_placeInQueue 33 = .ok (.invokevirtual 254, 3) := by decide +kernel
theorem dX6_placeInQueue_36 : decode cX6_placeInQueue 36 = .ok (.ifCond .eq 6, 3) := by decide +kernel
theorem dX6_placeInQueue_39 : decode cX6_placeInQueue 39 = .ok (.iinc 2 1, 3) := by decide +kernel
theorem dX6_placeInQueue_42 : decode cX6_placeInQueue 42 = .ok (.iinc 3 1, 3) := by decide +kernel
theorem dX6_placeInQueue_45 : decode cX6_placeInQueue 45 = .ok (.goto (-41), 3) := by decide +kernel
theorem dX6_placeInQueue_48 : decode cX6_placeInQueue 48 = .ok (.iload_n 2, 1) := by decide +kernel
theorem dX6_placeInQueue_49 : decode cX6_placeInQueue 49 = .ok (.ireturn, 1) := by decide +kernel
theorem dX6_goesAhead_0 : decode cX6_goesAhead 0 = .ok (.aload_n 0, 1) := by decide +kernel
theorem dX6_goesAhead_1 : decode cX6_goesAhead 1 = .ok (.aload_n 0, 1) := by decide +kernel
theorem dX6_goesAhead_2 : decode cX6_goesAhead 2 = .ok (.getfield 39, 3) := by decide +kernel
theorem dX6_goesAhead_5 : decode cX6_goesAhead 5 = .ok (.iload_n 1, 1) := by decide +kernel
theorem dX6_goesAhead_6 : decode cX6_goesAhead 6 = .ok (.aaload, 1) := by decide +kernel
theorem dX6_goesAhead_7 : decode cX6_goesAhead 7 = .ok (.invokevirtual 198, 3) := by decide +kernel
theorem dX6_goesAhead_10 : decode cX6_goesAhead 10 = .ok (.dstore_n 3, 1) := by decide +kernel
theorem dX6_goesAhead_11 : decode cX6_goesAhead 11 = .ok (.aload_n 0, 1) := by decide +kernel
theorem dX6_goesAhead_12 : decode cX6_goesAhead 12 = .ok (.aload_n 0, 1) := by decide +kernel
theorem dX6_goesAhead_13 : decode cX6_goesAhead 13 = .ok (.getfield 39, 3) := by decide +kernel
theorem dX6_goesAhead_16 : decode cX6_goesAhead 16 = .ok (.iload_n 2, 1) := by decide +kernel
theorem dX6_goesAhead_17 : decode cX6_goesAhead 17 = .ok (.aaload, 1) := by decide +kernel
theorem dX6_goesAhead_18 : decode cX6_goesAhead 18 = .ok (.invokevirtual 198, 3) := by decide +kernel
theorem dX6_goesAhead_21 : decode cX6_goesAhead 21 = .ok (.dstore 5, 2) := by decide +kernel
theorem dX6_goesAhead_23 : decode cX6_goesAhead 23 = .ok (.dload_n 3, 1) := by decide +kernel
theorem dX6_goesAhead_24 : decode cX6_goesAhead 24 = .ok (.dload 5, 2) := by decide +kernel
theorem dX6_goesAhead_26 : decode cX6_goesAhead 26 = .ok (.dcmp .g, 1) := by decide +kernel
theorem dX6_goesAhead_27 : decode cX6_goesAhead 27 = .ok (.ifCond .lt 15, 3) := by decide +kernel
theorem dX6_goesAhead_30 : decode cX6_goesAhead 30 = .ok (.dload_n 3, 1) := by decide +kernel
theorem dX6_goesAhead_31 : decode cX6_goesAhead 31 = .ok (.dload 5, 2) := by decide +kernel
theorem dX6_goesAhead_33 : decode cX6_goesAhead 33 = .ok (.dcmp .l, 1) := by decide +kernel
theorem dX6_goesAhead_34 : decode cX6_goesAhead 34 = .ok (.ifCond .ne 12, 3) := by decide +kernel
theorem dX6_goesAhead_37 : decode cX6_goesAhead 37 = .ok (.iload_n 1, 1) := by decide +kernel
theorem dX6_goesAhead_38 : decode cX6_goesAhead 38 = .ok (.iload_n 2, 1) := by decide +kernel
theorem dX6_goesAhead_39 : decode cX6_goesAhead 39 = .ok (.if_icmp .ge 7, 3) := by decide +kernel
theorem dX6_goesAhead_42 : decode cX6_goesAhead 42 = .ok (.iconst 1, 1) := by decide +kernel
theorem dX6_goesAhead_43 : decode cX6_goesAhead 43 = .ok (.goto 4, 3) := by decide +kernel
theorem dX6_goesAhead_46 : decode cX6_goesAhead 46 = .ok (.iconst 0, 1) := by decide +kernel
theorem dX6_goesAhead_47 : decode cX6_goesAhead 47 = .ok (.ireturn, 1) := by decide +kernel
theorem dX6_clockLeft_0 : decode cX6_clockLeft 0 = .ok (.aload_n 0, 1) := by decide +kernel
theorem dX6_clockLeft_1 : decode cX6_clockLeft 1 = .ok (.getfield 26, 3) := by decide +kernel
theorem dX6_clockLeft_4 : decode cX6_clockLeft 4 = .ok (.aload_n 1, 1) := by decide +kernel
theorem dX6_clockLeft_5 : decode cX6_clockLeft 5 = .ok (.getfield 137, 3) := by decide +kernel
theorem dX6_clockLeft_8 : decode cX6_clockLeft 8 = .ok (.aload_n 1, 1) := by decide +kernel
theorem dX6_clockLeft_9 : decode cX6_clockLeft 9 = .ok (.getfield 140, 3) := by decide +kernel
theorem dX6_clockLeft_12 : decode cX6_clockLeft 12 = .ok (.aload_n 0, 1) := by decide +kernel
theorem dX6_clockLeft_13 : decode cX6_clockLeft 13 = .ok (.getfield 10, 3) := by decide +kernel
theorem dX6_clockLeft_16 : decode cX6_clockLeft 16 = .ok (.invokevirtual 258, 3) := by decide +kernel
theorem dX6_clockLeft_19 : decode cX6_clockLeft 19 = .ok (.aload_n 0, 1) := by decide +kernel
theorem dX6_clockLeft_20 : decode cX6_clockLeft 20 = .ok (.getfield 64, 3) := by decide +kernel
theorem dX6_clockLeft_23 : decode cX6_clockLeft 23 = .ok (.aload_n 1, 1) := by decide +kernel
theorem dX6_clockLeft_24 : decode cX6_clockLeft 24 = .ok (.getfield 262, 3) := by decide +kernel
theorem dX6_clockLeft_27 : decode cX6_clockLeft 27 = .ok (.isub, 1) := by decide +kernel
theorem dX6_clockLeft_28 : decode cX6_clockLeft 28 = .ok (.i2d, 1) := by decide +kernel
theorem dX6_clockLeft_29 : decode cX6_clockLeft 29 = .ok (.dsub, 1) := by decide +kernel
theorem dX6_clockLeft_30 : decode cX6_clockLeft 30 = .ok (.dreturn, 1) := by decide +kernel
theorem dX6_litresOnFleet_0 : decode cX6_litresOnFleet 0 = .ok (.iconst 0, 1) := by decide +kernel
theorem dX6_litresOnFleet_1 : decode cX6_litresOnFleet 1 = .ok (.istore_n 1, 1) := by decide +kernel
theorem dX6_litresOnFleet_2 : decode cX6_litresOnFleet 2 = .ok (.iconst 0, 1) := by decide +kernel
theorem dX6_litresOnFleet_3 : decode cX6_litresOnFleet 3 = .ok (.istore_n 2, 1) := by decide +kernel
theorem dX6_litresOnFleet_4 : decode cX6_litresOnFleet 4 = .ok (.iload_n 2, 1) := by decide +kernel
theorem dX6_litresOnFleet_5 : decode cX6_litresOnFleet 5 = .ok (.aload_n 0, 1) := by decide +kernel
theorem dX6_litresOnFleet_6 : decode cX6_litresOnFleet 6 = .ok (.getfield 108, 3) := by decide +kernel
theorem dX6_litresOnFleet_9 : decode cX6_litresOnFleet 9 = .ok (.if_icmp .ge 21, 3) := by decide +kernel
theorem dX6_litresOnFleet_12 : decode cX6_litresOnFleet 12 = .ok (.iload_n 1, 1) := by decide +kernel
theorem dX6_litresOnFleet_13 : decode cX6_litresOnFleet 13 = .ok (.aload_n 0, 1) := by decide +kernel
theorem dX6_litresOnFleet_14 : decode cX6_litresOnFleet 14 = .ok (.getfield 39, 3) := by decide +kernel
theorem dX6_litresOnFleet_17 : decode cX6_litresOnFleet 17 = .ok (.iload_n 2, 1) := by decide +kernel
theorem dX6_litresOnFleet_18 : decode cX6_litresOnFleet 18 = .ok (.aaload, 1) := by decide +kernel
theorem dX6_litresOnFleet_19 : decode cX6_litresOnFleet 19 = .ok (.getfield 192, 3) := by decide +kernel
theorem dX6_litresOnFleet_22 : decode cX6_litresOnFleet 22 = .ok (.iadd, 1) := by decide +kernel
theorem dX6_litresOnFleet_23 : decode cX6_litresOnFleet 23 = .ok (.istore_n 1, 1) := by decide +kernel
theorem dX6_litresOnFleet_24 : decode cX6_litresOnFleet 24 = .ok (.iinc 2 1, 3) := by decide +kernel
theorem dX6_litresOnFleet_27 : decode cX6_litresOnFleet 27 = .ok (.goto (-23), 3) := by decide +kernel
theorem dX6_litresOnFleet_30 : decode cX6_litresOnFleet 30 = .ok (.iload_n 1, 1) := by decide +kernel
theorem dX6_litresOnFleet_31 : decode cX6_litresOnFleet 31 = .ok (.ireturn, 1) := by decide +kernel
theorem dX6_requireIndex_0 : decode cX6_requireIndex 0 = .ok (.iload_n 0, 1) := by decide +kernel
theorem dX6_requireIndex_1 : decode cX6_requireIndex 1 = .ok (.ifCond .lt 8, 3) := by decide +kernel
theorem dX6_requireIndex_4 : decode cX6_requireIndex 4 = .ok (.iload_n 0, 1) := by decide +kernel
theorem dX6_requireIndex_5 : decode cX6_requireIndex 5 = .ok (.iload_n 1, 1) := by decide +kernel
theorem dX6_requireIndex_6 : decode cX6_requireIndex 6 = .ok (.if_icmp .lt 14, 3) := by decide +kernel
theorem dX6_requireIndex_9 : decode cX6_requireIndex 9 = .ok (.new 211, 3) := by decide +kernel
theorem dX6_requireIndex_12 : decode cX6_requireIndex 12 = .ok (.dup, 1) := by decide +kernel
theorem dX6_requireIndex_13 : decode cX6_requireIndex 13 = .ok (.ldc_w 265, 3) := by decide +kernel
theorem dX6_requireIndex_16 : decode cX6_requireIndex 16 = .ok (.invokespecial 215, 3) := by decide +kernel
theorem dX6_requireIndex_19 : decode cX6_requireIndex 19 = .ok (.athrow, 1) := by decide +kernel
theorem dX6_requireIndex_20 : decode cX6_requireIndex 20 = .ok (.return_, 1) := by decide +kernel
theorem dX6_requireRange_0 : decode cX6_requireRange 0 = .ok (.iload_n 0, 1) := by decide +kernel
theorem dX6_requireRange_1 : decode cX6_requireRange 1 = .ok (.iload_n 1, 1) := by decide +kernel
theorem dX6_requireRange_2 : decode cX6_requireRange 2 = .ok (.if_icmp .lt 8, 3) := by decide +kernel
theorem dX6_requireRange_5 : decode cX6_requireRange 5 = .ok (.iload_n 0, 1) := by decide +kernel
theorem dX6_requireRange_6 : decode cX6_requireRange 6 = .ok (.iload_n 2, 1) := by decide +kernel
theorem dX6_requireRange_7 : decode cX6_requireRange 7 = .ok (.if_icmp .le 14, 3) := by decide +kernel
theorem dX6_requireRange_10 : decode cX6_requireRange 10 = .ok (.new 267, 3) := by decide +kernel
theorem dX6_requireRange_13 : decode cX6_requireRange 13 = .ok (.dup, 1) := by decide +kernel
theorem dX6_requireRange_14 : decode cX6_requireRange 14 = .ok (.ldc_w 269, 3) := by decide +kernel
theorem dX6_requireRange_17 : decode cX6_requireRange 17 = .ok (.invokespecial 271, 3) := by decide +kernel
theorem dX6_requireRange_20 : decode cX6_requireRange 20 = .ok (.athrow, 1) := by decide +kernel
theorem dX6_requireRange_21 : decode cX6_requireRange 21 = .ok (.return_, 1) := by decide +kernel
theorem dX6_requireStrength_0 : decode cX6_requireStrength 0 = .ok (.iload_n 0, 1) := by decide +kernel
theorem dX6_requireStrength_1 : decode cX6_requireStrength 1 = .ok (.bipush 50, 2) := by decide +kernel
theorem dX6_requireStrength_3 : decode cX6_requireStrength 3 = .ok (.if_icmp .eq 26, 3) := by decide +kernel
theorem dX6_requireStrength_6 : decode cX6_requireStrength 6 = .ok (.iload_n 0, 1) := by decide +kernel
theorem dX6_requireStrength_7 : decode cX6_requireStrength 7 = .ok (.bipush 75, 2) := by decide +kernel
theorem dX6_requireStrength_9 : decode cX6_requireStrength 9 = .ok (.if_icmp .eq 20, 3) := by decide +kernel
theorem dX6_requireStrength_12 : decode cX6_requireStrength 12 = .ok (.iload_n 0, 1) := by decide +kernel
theorem dX6_requireStrength_13 : decode cX6_requireStrength 13 = .ok (.bipush 100, 2) := by decide +kernel
theorem dX6_requireStrength_15 : decode cX6_requireStrength 15 = .ok (.if_icmp .eq 14, 3) := by decide +kernel
theorem dX6_requireStrength_18 : decode cX6_requireStrength 18 = .ok (.new 267, 3) := by decide +kernel
theorem dX6_requireStrength_21 : decode cX6_requireStrength 21 = .ok (.dup, 1) := by decide +kernel
theorem dX6_requireStrength_22 : decode cX6_requireStrength 22 = .ok (.ldc_w 272, 3) := by decide +kernel
theorem dX6_requireStrength_25 : decode cX6_requireStrength 25 = .ok (.invokespecial 271, 3) := by decide +kernel
theorem dX6_requireStrength_28 : decode cX6_requireStrength 28 = .ok (.athrow, 1) := by decide +kernel
theorem dX6_requireStrength_29 : decode cX6_requireStrength 29 = .ok (.return_, 1) := by decide +kernel
theorem dX6_requirePossible_0 : decode cX6_requirePossible 0 = .ok (.iload_n 0, 1) := by decide +kernel
theorem dX6_requirePossible_1 : decode cX6_requirePossible 1 = .ok (.ifCond .ne 14, 3) := by decide +kernel
theorem dX6_requirePossible_4 : decode cX6_requirePossible 4 = .ok (.new 274, 3) := by decide +kernel
theorem dX6_requirePossible_7 : decode cX6_requirePossible 7 = .ok (.dup, 1) := by decide +kernel
theorem dX6_requirePossible_8 : decode cX6_requirePossible 8 = .ok (.ldc_w 276, 3) := by decide +kernel
theorem dX6_requirePossible_11 : decode cX6_requirePossible 11 = .ok (.invokespecial 278, 3) := by decide +kernel
theorem dX6_requirePossible_14 : decode cX6_requirePossible 14 = .ok (.athrow, 1) := by decide +kernel
theorem dX6_requirePossible_15 : decode cX6_requirePossible 15 = .ok (.return_, 1) := by decide +kernel
theorem dJ9_max_7cf53_0 : decode cJ9_max_7cf53 0 = .ok (.iload_n 0, 1) := by decide +kernel
theorem dJ9_max_7cf53_1 : decode cJ9_max_7cf53 1 = .ok (.iload_n 1, 1) := by decide +kernel
theorem dJ9_max_7cf53_2 : decode cJ9_max_7cf53 2 = .ok (.if_icmp .lt 7, 3) := by decide +kernel
theorem dJ9_max_7cf53_5 : decode cJ9_max_7cf53 5 = .ok (.iload_n 0, 1) := by decide +kernel
theorem dJ9_max_7cf53_6 : decode cJ9_max_7cf53 6 = .ok (.goto 4, 3) := by decide +kernel
theorem dJ9_max_7cf53_9 : decode cJ9_max_7cf53 9 = .ok (.iload_n 1, 1) := by decide +kernel
theorem dJ9_max_7cf53_10 : decode cJ9_max_7cf53 10 = .ok (.ireturn, 1) := by decide +kernel
theorem dJ9_min_7cf53_0 : decode cJ9_min_7cf53 0 = .ok (.iload_n 0, 1) := by decide +kernel
theorem dJ9_min_7cf53_1 : decode cJ9_min_7cf53 1 = .ok (.iload_n 1, 1) := by decide +kernel
theorem dJ9_min_7cf53_2 : decode cJ9_min_7cf53 2 = .ok (.if_icmp .gt 7, 3) := by decide +kernel
theorem dJ9_min_7cf53_5 : decode cJ9_min_7cf53 5 = .ok (.iload_n 0, 1) := by decide +kernel
theorem dJ9_min_7cf53_6 : decode cJ9_min_7cf53 6 = .ok (.goto 4, 3) := by decide +kernel
theorem dJ9_min_7cf53_9 : decode cJ9_min_7cf53 9 = .ok (.iload_n 1, 1) := by decide +kernel
theorem dJ9_min_7cf53_10 : decode cJ9_min_7cf53 10 = .ok (.ireturn, 1) := by decide +kernel
theorem dL_cell_0 : decode cL_cell 0 = .ok (.iload_n 1, 1) := by decide +kernel
theorem dL_cell_1 : decode cL_cell 1 = .ok (.aload_n 0, 1) := by decide +kernel
theorem dL_cell_2 : decode cL_cell 2 = .ok (.arraylength, 1) := by decide +kernel
theorem dL_cell_3 : decode cL_cell 3 = .ok (.if_icmp .ge 9, 3) := by decide +kernel
theorem dL_cell_6 : decode cL_cell 6 = .ok (.aload_n 0, 1) := by decide +kernel
theorem dL_cell_7 : decode cL_cell 7 = .ok (.iload_n 1, 1) := by decide +kernel
theorem dL_cell_8 : decode cL_cell 8 = .ok (.iaload, 1) := by decide +kernel
theorem dL_cell_9 : decode cL_cell 9 = .ok (.goto 15, 3) := by decide +kernel
theorem dL_cell_12 : decode cL_cell 12 = .ok (.sipush 7919, 3) := by decide +kernel
theorem dL_cell_15 : decode cL_cell 15 = .ok (.iload_n 1, 1) := by decide +kernel
theorem dL_cell_16 : decode cL_cell 16 = .ok (.iconst 3, 1) := by decide +kernel
theorem dL_cell_17 : decode cL_cell 17 = .ok (.iadd, 1) := by decide +kernel
theorem dL_cell_18 : decode cL_cell 18 = .ok (.imul, 1) := by decide +kernel
theorem dL_cell_19 : decode cL_cell 19 = .ok (.iload_n 1, 1) := by decide +kernel
theorem dL_cell_20 : decode cL_cell 20 = .ok (.bipush 11, 2) := by decide +kernel
theorem dL_cell_22 : decode cL_cell 22 = .ok (.iadd, 1) := by decide +kernel
theorem dL_cell_23 : decode cL_cell 23 = .ok (.imul, 1) := by decide +kernel
theorem dL_cell_24 : decode cL_cell 24 = .ok (.ireturn, 1) := by decide +kernel
theorem dL_low_0 : decode cL_low 0 = .ok (.iload_n 0, 1) := by decide +kernel
theorem dL_low_1 : decode cL_low 1 = .ok (.ldc 7, 2) := by decide +kernel
theorem dL_low_3 : decode cL_low 3 = .ok (.iand, 1) := by decide +kernel
theorem dL_low_4 : decode cL_low 4 = .ok (.iload_n 1, 1) := by decide +kernel
theorem dL_low_5 : decode cL_low 5 = .ok (.irem, 1) := by decide +kernel
theorem dL_low_6 : decode cL_low 6 = .ok (.ireturn, 1) := by decide +kernel
theorem dL_isOrdered_0 : decode cL_isOrdered 0 = .ok (.iconst 0, 1) := by decide +kernel
theorem dL_isOrdered_1 : decode cL_isOrdered 1 = .ok (.istore_n 2, 1) := by decide +kernel
theorem dL_isOrdered_2 : decode cL_isOrdered 2 = .ok (.iconst 0, 1) := by decide +kernel
theorem dL_isOrdered_3 : decode cL_isOrdered 3 = .ok (.istore_n 3, 1) := by decide +kernel
theorem dL_isOrdered_4 : decode cL_isOrdered 4 = .ok (.iload_n 3, 1) := by decide +kernel
theorem dL_isOrdered_5 : decode cL_isOrdered 5 = .ok (.iload_n 1, 1) := by decide +kernel
theorem dL_isOrdered_6 : decode cL_isOrdered 6 = .ok (.if_icmp .ge 27, 3) := by decide +kernel
theorem dL_isOrdered_9 : decode cL_isOrdered 9 = .ok (.iload_n 2, 1) := by decide +kernel
theorem dL_isOrdered_10 : decode cL_isOrdered 10 = .ok (.aload_n 0, 1) := by decide +kernel
theorem dL_isOrdered_11 : decode cL_isOrdered 11 = .ok (.iload_n 3, 1) := by decide +kernel
theorem dL_isOrdered_12 : decode cL_isOrdered 12 = .ok (.iconst 0, 1) := by decide +kernel
theorem dL_isOrdered_13 : decode cL_isOrdered 13 = .ok (.invokevirtual 8, 3) := by decide +kernel
theorem dL_isOrdered_16 : decode cL_isOrdered 16 = .ok (.iconst 2, 1) := by decide +kernel
theorem dL_isOrdered_17 : decode cL_isOrdered 17 = .ok (.if_icmp .ne 7, 3) := by decide +kernel
theorem dL_isOrdered_20 : decode cL_isOrdered 20 = .ok (.iconst 1, 1) := by decide +kernel
theorem dL_isOrdered_21 : decode cL_isOrdered 21 = .ok (.goto 4, 3) := by decide +kernel
theorem dL_isOrdered_24 : decode cL_isOrdered 24 = .ok (.iconst 0, 1) := by decide +kernel
theorem dL_isOrdered_25 : decode cL_isOrdered 25 = .ok (.iadd, 1) := by decide +kernel
theorem dL_isOrdered_26 : decode cL_isOrdered 26 = .ok (.istore_n 2, 1) := by decide +kernel
theorem dL_isOrdered_27 : decode cL_isOrdered 27 = .ok (.iinc 3 1, 3) := by decide +kernel
theorem dL_isOrdered_30 : decode cL_isOrdered 30 = .ok (.goto (-26), 3) := by decide +kernel
theorem dL_isOrdered_33 : decode cL_isOrdered 33 = .ok (.aload_n 0, 1) := by decide +kernel
theorem dL_isOrdered_34 : decode cL_isOrdered 34 = .ok (.iload_n 2, 1) := by decide +kernel
theorem dL_isOrdered_35 : decode cL_isOrdered 35 = .ok (.invokevirtual 14, 3) := by decide +kernel
theorem dL_isOrdered_38 : decode cL_isOrdered 38 = .ok (.iconst (-1), 1) := by decide +kernel
theorem dL_isOrdered_39 : decode cL_isOrdered 39 = .ok (.if_icmp .ne 7, 3) := by decide +kernel
theorem dL_isOrdered_42 : decode cL_isOrdered 42 = .ok (.iconst 1, 1) := by decide +kernel
theorem dL_isOrdered_43 : decode cL_isOrdered 43 = .ok (.goto 4, 3) := by decide +kernel
theorem dL_isOrdered_46 : decode cL_isOrdered 46 = .ok (.iconst 0, 1) := by decide +kernel
theorem dL_isOrdered_47 : decode cL_isOrdered 47 = .ok (.istore_n 3, 1) := by decide +kernel
theorem dL_isOrdered_48 : decode cL_isOrdered 48 = .ok (.iconst 0, 1) := by decide +kernel
theorem dL_isOrdered_49 : decode cL_isOrdered 49 = .ok (.istore 4, 2) := by decide +kernel
theorem dL_isOrdered_51 : decode cL_isOrdered 51 = .ok (.iload 4, 2) := by decide +kernel
theorem dL_isOrdered_53 : decode cL_isOrdered 53 = .ok (.iload_n 2, 1) := by decide +kernel
theorem dL_isOrdered_54 : decode cL_isOrdered 54 = .ok (.if_icmp .ge 151, 3) := by decide +kernel
theorem dL_isOrdered_57 : decode cL_isOrdered 57 = .ok (.iload_n 3, 1) := by decide +kernel
theorem dL_isOrdered_58 : decode cL_isOrdered 58 = .ok (.ifCond .eq 147, 3) := by decide +kernel
theorem dL_isOrdered_61 : decode cL_isOrdered 61 = .ok (.aload_n 0, 1) := by decide +kernel
theorem dL_isOrdered_62 : decode cL_isOrdered 62 = .ok (.iload 4, 2) := by decide +kernel
theorem dL_isOrdered_64 : decode cL_isOrdered 64 = .ok (.invokevirtual 14, 3) := by decide +kernel
theorem dL_isOrdered_67 : decode cL_isOrdered 67 = .ok (.istore 5, 2) := by decide +kernel
theorem dL_isOrdered_69 : decode cL_isOrdered 69 = .ok (.iload 5, 2) := by decide +kernel
theorem dL_isOrdered_71 : decode cL_isOrdered 71 = .ok (.ifCond .lt 62, 3) := by decide +kernel
theorem dL_isOrdered_74 : decode cL_isOrdered 74 = .ok (.aload_n 0, 1) := by decide +kernel
theorem dL_isOrdered_75 : decode cL_isOrdered 75 = .ok (.iload 5, 2) := by decide +kernel
theorem dL_isOrdered_77 : decode cL_isOrdered 77 = .ok (.iconst 0, 1) := by decide +kernel
theorem dL_isOrdered_78 : decode cL_isOrdered 78 = .ok (.invokevirtual 8, 3) := by decide +kernel
theorem dL_isOrdered_81 : decode cL_isOrdered 81 = .ok (.iconst 2, 1) := by decide +kernel
theorem dL_isOrdered_82 : decode cL_isOrdered 82 = .ok (.if_icmp .ne 51, 3) := by decide +kernel
theorem dL_isOrdered_85 : decode cL_isOrdered 85 = .ok (.aload_n 0, 1) := by decide +kernel
theorem dL_isOrdered_86 : decode cL_isOrdered 86 = .ok (.iload 5, 2) := by decide +kernel
theorem dL_isOrdered_88 : decode cL_isOrdered 88 = .ok (.invokevirtual 18, 3) := by decide +kernel
theorem dL_isOrdered_91 : decode cL_isOrdered 91 = .ok (.iconst 3, 1) := by decide +kernel
theorem dL_isOrdered_92 : decode cL_isOrdered 92 = .ok (.if_icmp .ne 7, 3) := by decide +kernel
theorem dL_isOrdered_95 : decode cL_isOrdered 95 = .ok (.iconst 1, 1) := by decide +kernel
theorem dL_isOrdered_96 : decode cL_isOrdered 96 = .ok (.goto 4, 3) := by decide +kernel
theorem dL_isOrdered_99 : decode cL_isOrdered 99 = .ok (.iconst 0, 1) := by decide +kernel
theorem dL_isOrdered_100 : decode cL_isOrdered 100 = .ok (.aload_n 0, 1) := by decide +kernel
theorem dL_isOrdered_101 : decode cL_isOrdered 101 = .ok (.iload 5, 2) := by decide +kernel
theorem dL_isOrdered_103 : decode cL_isOrdered 103 = .ok (.invokevirtual 21, 3) := by decide +kernel
theorem dL_isOrdered_106 : decode cL_isOrdered 106 = .ok (.dconst 0, 1) := by decide +kernel
theorem dL_isOrdered_107 : decode cL_isOrdered 107 = .ok (.dcmp .g, 1) := by decide +kernel
theorem dL_isOrdered_108 : decode cL_isOrdered 108 = .ok (.ifCond .ge 17, 3) := by decide +kernel
theorem dL_isOrdered_111 : decode cL_isOrdered 111 = .ok (.aload_n 0, 1) := by decide +kernel
theorem dL_isOrdered_112 : decode cL_isOrdered 112 = .ok (.iload 5, 2) := by decide +kernel
theorem dL_isOrdered_114 : decode cL_isOrdered 114 = .ok (.invokevirtual 18, 3) := by decide +kernel
theorem dL_isOrdered_117 : decode cL_isOrdered 117 = .ok (.iconst 2, 1) := by decide +kernel
theorem dL_isOrdered_118 : decode cL_isOrdered 118 = .ok (.if_icmp .eq 7, 3) := by decide +kernel
theorem dL_isOrdered_121 : decode cL_isOrdered 121 = .ok (.iconst 1, 1) := by decide +kernel
theorem dL_isOrdered_122 : decode cL_isOrdered 122 = .ok (.goto 4, 3) := by decide +kernel
theorem dL_isOrdered_125 : decode cL_isOrdered 125 = .ok (.iconst 0, 1) := by decide +kernel
theorem dL_isOrdered_126 : decode cL_isOrdered 126 = .ok (.if_icmp .ne 7, 3) := by decide +kernel
theorem dL_isOrdered_129 : decode cL_isOrdered 129 = .ok (.iconst 1, 1) := by decide +kernel
theorem dL_isOrdered_130 : decode cL_isOrdered 130 = .ok (.goto 4, 3) := by decide +kernel
theorem dL_isOrdered_133 : decode cL_isOrdered 133 = .ok (.iconst 0, 1) := by decide +kernel
theorem dL_isOrdered_134 : decode cL_isOrdered 134 = .ok (.istore_n 3, 1) := by decide +kernel
theorem dL_isOrdered_135 : decode cL_isOrdered 135 = .ok (.iload 4, 2) := by decide +kernel
theorem dL_isOrdered_137 : decode cL_isOrdered 137 = .ok (.ifCond .le 62, 3) := by decide +kernel
theorem dL_isOrdered_140 : decode cL_isOrdered 140 = .ok (.iload_n 3, 1) := by decide +kernel
theorem dL_isOrdered_141 : decode cL_isOrdered 141 = .ok (.ifCond .eq 58, 3) := by decide +kernel
theorem dL_isOrdered_144 : decode cL_isOrdered 144 = .ok (.aload_n 0, 1) := by decide +kernel
theorem dL_isOrdered_145 : decode cL_isOrdered 145 = .ok (.iload 4, 2) := by decide +kernel
theorem dL_isOrdered_147 : decode cL_isOrdered 147 = .ok (.iconst 1, 1) := by decide +kernel
theorem dL_isOrdered_148 : decode cL_isOrdered 148 = .ok (.isub, 1) := by decide +kernel
theorem dL_isOrdered_149 : decode cL_isOrdered 149 = .ok (.invokevirtual 14, 3) := by decide +kernel
theorem dL_isOrdered_152 : decode cL_isOrdered 152 = .ok (.istore 6, 2) := by decide +kernel
theorem dL_isOrdered_154 : decode cL_isOrdered 154 = .ok (.aload_n 0, 1) := by decide +kernel
theorem dL_isOrdered_155 : decode cL_isOrdered 155 = .ok (.iload 6, 2) := by decide +kernel
theorem dL_isOrdered_157 : decode cL_isOrdered 157 = .ok (.invokevirtual 21, 3) := by decide +kernel
theorem dL_isOrdered_160 : decode cL_isOrdered 160 = .ok (.aload_n 0, 1) := by decide +kernel
theorem dL_isOrdered_161 : decode cL_isOrdered 161 = .ok (.iload 5, 2) := by decide +kernel
theorem dL_isOrdered_163 : decode cL_isOrdered 163 = .ok (.invokevirtual 21, 3) := by decide +kernel
theorem dL_isOrdered_166 : decode cL_isOrdered 166 = .ok (.dcmp .g, 1) := by decide +kernel
theorem dL_isOrdered_167 : decode cL_isOrdered 167 = .ok (.ifCond .lt 26, 3) := by decide +kernel
theorem dL_isOrdered_170 : decode cL_isOrdered 170 = .ok (.aload_n 0, 1) := by decide +kernel
theorem dL_isOrdered_171 : decode cL_isOrdered 171 = .ok (.iload 6, 2) := by decide +kernel
theorem dL_isOrdered_173 : decode cL_isOrdered 173 = .ok (.invokevirtual 21, 3) := by decide +kernel
theorem dL_isOrdered_176 : decode cL_isOrdered 176 = .ok (.aload_n 0, 1) := by decide +kernel
theorem dL_isOrdered_177 : decode cL_isOrdered 177 = .ok (.iload 5, 2) := by decide +kernel
theorem dL_isOrdered_179 : decode cL_isOrdered 179 = .ok (.invokevirtual 21, 3) := by decide +kernel
theorem dL_isOrdered_182 : decode cL_isOrdered 182 = .ok (.dcmp .l, 1) := by decide +kernel
theorem dL_isOrdered_183 : decode cL_isOrdered 183 = .ok (.ifCond .ne 14, 3) := by decide +kernel
theorem dL_isOrdered_186 : decode cL_isOrdered 186 = .ok (.iload 6, 2) := by decide +kernel
theorem dL_isOrdered_188 : decode cL_isOrdered 188 = .ok (.iload 5, 2) := by decide +kernel
theorem dL_isOrdered_190 : decode cL_isOrdered 190 = .ok (.if_icmp .ge 7, 3) := by decide +kernel
theorem dL_isOrdered_193 : decode cL_isOrdered 193 = .ok (.iconst 1, 1) := by decide +kernel
theorem dL_isOrdered_194 : decode cL_isOrdered 194 = .ok (.goto 4, 3) := by decide +kernel
theorem dL_isOrdered_197 : decode cL_isOrdered 197 = .ok (.iconst 0, 1) := by decide +kernel
theorem dL_isOrdered_198 : decode cL_isOrdered 198 = .ok (.istore_n 3, 1) := by decide +kernel
theorem dL_isOrdered_199 : decode cL_isOrdered 199 = .ok (.iinc 4 1, 3) := by decide +kernel
theorem dL_isOrdered_202 : decode cL_isOrdered 202 = .ok (.goto (-151), 3) := by decide +kernel
theorem dL_isOrdered_205 : decode cL_isOrdered 205 = .ok (.iload_n 3, 1) := by decide +kernel
theorem dL_isOrdered_206 : decode cL_isOrdered 206 = .ok (.ireturn, 1) := by decide +kernel
