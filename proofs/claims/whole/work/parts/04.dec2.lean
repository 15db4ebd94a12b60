theorem dX7_close_26 : decode cX7_close 26 = .ok (.iconst 1, 1) := by decide +kernel
theorem dX7_close_27 : decode cX7_close 27 = .ok (.putfield 74, 3) := by decide +kernel
theorem dX7_close_30 : decode cX7_close 30 = .ok (.aload_n 0, 1) := by decide +kernel
theorem dX7_close_31 : decode cX7_close 31 = .ok (.getfield 74, 3) := by decide +kernel
theorem dX7_close_34 : decode cX7_close 34 = .ok (.ifCond .le 5, 3) := by decide +kernel
theorem dX7_close_37 : decode cX7_close 37 = .ok (.iconst 0, 1) := by decide +kernel
theorem dX7_close_38 : decode cX7_close 38 = .ok (.ireturn, 1) := by decide +kernel
theorem dX7_close_39 : decode cX7_close 39 = .ok (.aload_n 0, 1) := by decide +kernel
theorem dX7_close_40 : decode cX7_close 40 = .ok (.aload_n 0, 1) := by decide +kernel
theorem dX7_close_41 : decode cX7_close 41 = .ok (.getfield 100, 3) := by decide +kernel
theorem dX7_close_44 : decode cX7_close 44 = .ok (.iload_n 1, 1) := by decide +kernel
theorem dX7_close_45 : decode cX7_close 45 = .ok (.iadd, 1) := by decide +kernel
theorem dX7_close_46 : decode cX7_close 46 = .ok (.putfield 25, 3) := by decide +kernel
theorem dX7_close_49 : decode cX7_close 49 = .ok (.aload_n 0, 1) := by decide +kernel
theorem dX7_close_50 : decode cX7_close 50 = .ok (.iload_n 2, 1) := by decide +kernel
theorem dX7_close_51 : decode cX7_close 51 = .ok (.putfield 103, 3) := by decide +kernel
theorem dX7_close_54 : decode cX7_close 54 = .ok (.aload_n 0, 1) := by decide +kernel
theorem dX7_close_55 : decode cX7_close 55 = .ok (.getfield 25, 3) := by decide +kernel
theorem dX7_close_58 : decode cX7_close 58 = .ok (.ireturn, 1) := by decide +kernel
theorem dX7_isClosed_0 : decode cX7_isClosed 0 = .ok (.aload_n 0, 1) := by decide +kernel
theorem dX7_isClosed_1 : decode cX7_isClosed 1 = .ok (.getfield 100, 3) := by decide +kernel
theorem dX7_isClosed_4 : decode cX7_isClosed 4 = .ok (.aload_n 0, 1) := by decide +kernel
theorem dX7_isClosed_5 : decode cX7_isClosed 5 = .ok (.getfield 25, 3) := by decide +kernel
theorem dX7_isClosed_8 : decode cX7_isClosed 8 = .ok (.if_icmp .gt 7, 3) := by decide +kernel
theorem dX7_isClosed_11 : decode cX7_isClosed 11 = .ok (.iconst 1, 1) := by decide +kernel
theorem dX7_isClosed_12 : decode cX7_isClosed 12 = .ok (.goto 4, 3) := by decide +kernel
theorem dX7_isClosed_15 : decode cX7_isClosed 15 = .ok (.iconst 0, 1) := by decide +kernel
theorem dX7_isClosed_16 : decode cX7_isClosed 16 = .ok (.ireturn, 1) := by decide +kernel
theorem dX7_lies_0 : decode cX7_lies 0 = .ok (.aload_n 0, 1) := by decide +kernel
theorem dX7_lies_1 : decode cX7_lies 1 = .ok (.getfield 7, 3) := by decide +kernel
theorem dX7_lies_4 : decode cX7_lies 4 = .ok (.iload_n 1, 1) := by decide +kernel
theorem dX7_lies_5 : decode cX7_lies 5 = .ok (.iaload, 1) := by decide +kernel
theorem dX7_lies_6 : decode cX7_lies 6 = .ok (.ifCond .eq 13, 3) := by decide +kernel
theorem dX7_lies_9 : decode cX7_lies 9 = .ok (.aload_n 0, 1) := by decide +kernel
theorem dX7_lies_10 : decode cX7_lies 10 = .ok (.getfield 7, 3) := by decide +kernel
theorem dX7_lies_13 : decode cX7_lies 13 = .ok (.iload_n 1, 1) := by decide +kernel
theorem dX7_lies_14 : decode cX7_lies 14 = .ok (.iaload, 1) := by decide +kernel
theorem dX7_lies_15 : decode cX7_lies 15 = .ok (.iconst 1, 1) := by decide +kernel
theorem dX7_lies_16 : decode cX7_lies 16 = .ok (.if_icmp .ne 19, 3) := by decide +kernel
theorem dX7_lies_19 : decode cX7_lies 19 = .ok (.aload_n 0, 1) := by decide +kernel
theorem dX7_lies_20 : decode cX7_lies 20 = .ok (.getfield 7, 3) := by decide +kernel
theorem dX7_lies_23 : decode cX7_lies 23 = .ok (.iload_n 1, 1) := by decide +kernel
theorem dX7_lies_24 : decode cX7_lies 24 = .ok (.iaload, 1) := by decide +kernel
theorem dX7_lies_25 : decode cX7_lies 25 = .ok (.ifCond .ne 8, 3) := by decide +kernel
theorem dX7_lies_28 : decode cX7_lies 28 = .ok (.bipush 6, 2) := by decide +kernel
theorem dX7_lies_30 : decode cX7_lies 30 = .ok (.goto 4, 3) := by decide +kernel
theorem dX7_lies_33 : decode cX7_lies 33 = .ok (.iconst 5, 1) := by decide +kernel
theorem dX7_lies_34 : decode cX7_lies 34 = .ok (.ireturn, 1) := by decide +kernel
theorem dX7_lies_35 : decode cX7_lies 35 = .ok (.aload_n 0, 1) := by decide +kernel
theorem dX7_lies_36 : decode cX7_lies 36 = .ok (.getfield 7, 3) := by decide +kernel
theorem dX7_lies_39 : decode cX7_lies 39 = .ok (.iload_n 1, 1) := by decide +kernel
theorem dX7_lies_40 : decode cX7_lies 40 = .ok (.iaload, 1) := by decide +kernel
theorem dX7_lies_41 : decode cX7_lies 41 = .ok (.iconst 3, 1) := by decide +kernel
theorem dX7_lies_42 : decode cX7_lies 42 = .ok (.if_icmp .ne 18, 3) := by decide +kernel
theorem dX7_lies_45 : decode cX7_lies 45 = .ok (.aload_n 0, 1) := by decide +kernel
theorem dX7_lies_46 : decode cX7_lies 46 = .ok (.getfield 84, 3) := by decide +kernel
theorem dX7_lies_49 : decode cX7_lies 49 = .ok (.bipush (-30), 2) := by decide +kernel
theorem dX7_lies_51 : decode cX7_lies 51 = .ok (.if_icmp .ge 7, 3) := by decide +kernel
theorem dX7_lies_54 : decode cX7_lies 54 = .ok (.iconst 1, 1) := by decide +kernel
theorem dX7_lies_55 : decode cX7_lies 55 = .ok (.goto 4, 3) := by decide +kernel
theorem dX7_lies_58 : decode cX7_lies 58 = .ok (.iconst 0, 1) := by decide +kernel
theorem dX7_lies_59 : decode cX7_lies 59 = .ok (.ireturn, 1) := by decide +kernel
theorem dX7_lies_60 : decode cX7_lies 60 = .ok (.aload_n 0, 1) := by decide +kernel
theorem dX7_lies_61 : decode cX7_lies 61 = .ok (.getfield 13, 3) := by decide +kernel
theorem dX7_lies_64 : decode cX7_lies 64 = .ok (.iload_n 1, 1) := by decide +kernel
theorem dX7_lies_65 : decode cX7_lies 65 = .ok (.iaload, 1) := by decide +kernel
theorem dX7_lies_66 : decode cX7_lies 66 = .ok (.bipush 30, 2) := by decide +kernel
theorem dX7_lies_68 : decode cX7_lies 68 = .ok (.if_icmp .gt 16, 3) := by decide +kernel
theorem dX7_lies_71 : decode cX7_lies 71 = .ok (.aload_n 0, 1) := by decide +kernel
theorem dX7_lies_72 : decode cX7_lies 72 = .ok (.getfield 84, 3) := by decide +kernel
theorem dX7_lies_75 : decode cX7_lies 75 = .ok (.bipush (-30), 2) := by decide +kernel
theorem dX7_lies_77 : decode cX7_lies 77 = .ok (.if_icmp .ge 7, 3) := by decide +kernel
theorem dX7_lies_80 : decode cX7_lies 80 = .ok (.iconst 5, 1) := by decide +kernel
theorem dX7_lies_81 : decode cX7_lies 81 = .ok (.goto 19, 3) := by decide +kernel
theorem dX7_lies_84 : decode cX7_lies 84 = .ok (.aload_n 0, 1) := by decide +kernel
theorem dX7_lies_85 : decode cX7_lies 85 = .ok (.getfield 13, 3) := by decide +kernel
theorem dX7_lies_88 : decode cX7_lies 88 = .ok (.iload_n 1, 1) := by decide +kernel
theorem dX7_lies_89 : decode cX7_lies 89 = .ok (.iaload, 1) := by decide +kernel
theorem dX7_lies_90 : decode cX7_lies 90 = .ok (.bipush 100, 2) := by decide +kernel
theorem dX7_lies_92 : decode cX7_lies 92 = .ok (.if_icmp .gt 7, 3) := by decide +kernel
theorem dX7_lies_95 : decode cX7_lies 95 = .ok (.iconst 3, 1) := by decide +kernel
theorem dX7_lies_96 : decode cX7_lies 96 = .ok (.goto 4, 3) := by decide +kernel
theorem dX7_lies_99 : decode cX7_lies 99 = .ok (.iconst 2, 1) := by decide +kernel
theorem dX7_lies_100 : decode cX7_lies 100 = .ok (.ireturn, 1) := by decide +kernel
theorem dX7_codeOf_0 : decode cX7_codeOf 0 = .ok (.aload_n 0, 1) := by decide +kernel
theorem dX7_codeOf_1 : decode cX7_codeOf 1 = .ok (.iload_n 1, 1) := by decide +kernel
theorem dX7_codeOf_2 : decode cX7_codeOf 2 = .ok (.invokevirtual 106, 3) := by decide +kernel
theorem dX7_codeOf_5 : decode cX7_codeOf 5 = .ok (.istore_n 2, 1) := by decide +kernel
theorem dX7_codeOf_6 : decode cX7_codeOf 6 = .ok (.aload_n 0, 1) := by decide +kernel
theorem dX7_codeOf_7 : decode cX7_codeOf 7 = .ok (.getfield 100, 3) := by decide +kernel
theorem dX7_codeOf_10 : decode cX7_codeOf 10 = .ok (.aload_n 0, 1) := by decide +kernel
theorem dX7_codeOf_11 : decode cX7_codeOf 11 = .ok (.getfield 22, 3) := by decide +kernel
theorem dX7_codeOf_14 : decode cX7_codeOf 14 = .ok (.iload_n 1, 1) := by decide +kernel
theorem dX7_codeOf_15 : decode cX7_codeOf 15 = .ok (.iaload, 1) := by decide +kernel
theorem dX7_codeOf_16 : decode cX7_codeOf 16 = .ok (.isub, 1) := by decide +kernel
theorem dX7_codeOf_17 : decode cX7_codeOf 17 = .ok (.bipush 30, 2) := by decide +kernel
theorem dX7_codeOf_19 : decode cX7_codeOf 19 = .ok (.if_icmp .gt 22, 3) := by decide +kernel
theorem dX7_codeOf_22 : decode cX7_codeOf 22 = .ok (.aload_n 0, 1) := by decide +kernel
theorem dX7_codeOf_23 : decode cX7_codeOf 23 = .ok (.getfield 19, 3) := by decide +kernel
theorem dX7_codeOf_26 : decode cX7_codeOf 26 = .ok (.iload_n 1, 1) := by decide +kernel
theorem dX7_codeOf_27 : decode cX7_codeOf 27 = .ok (.iaload, 1) := by decide +kernel
theorem dX7_codeOf_28 : decode cX7_codeOf 28 = .ok (.iload_n 2, 1) := by decide +kernel
theorem dX7_codeOf_29 : decode cX7_codeOf 29 = .ok (.if_icmp .ge 12, 3) := by decide +kernel
theorem dX7_codeOf_32 : decode cX7_codeOf 32 = .ok (.aload_n 0, 1) := by decide +kernel
theorem dX7_codeOf_33 : decode cX7_codeOf 33 = .ok (.getfield 19, 3) := by decide +kernel
theorem dX7_codeOf_36 : decode cX7_codeOf 36 = .ok (.iload_n 1, 1) := by decide +kernel
theorem dX7_codeOf_37 : decode cX7_codeOf 37 = .ok (.iaload, 1) := by decide +kernel
theorem dX7_codeOf_38 : decode cX7_codeOf 38 = .ok (.goto 4, 3) := by decide +kernel
theorem dX7_codeOf_41 : decode cX7_codeOf 41 = .ok (.iload_n 2, 1) := by decide +kernel
theorem dX7_codeOf_42 : decode cX7_codeOf 42 = .ok (.ireturn, 1) := by decide +kernel
theorem dX7_pilot_0 : decode cX7_pilot 0 = .ok (.aload_n 0, 1) := by decide +kernel
theorem dX7_pilot_1 : decode cX7_pilot 1 = .ok (.iload_n 1, 1) := by decide +kernel
theorem dX7_pilot_2 : decode cX7_pilot 2 = .ok (.invokestatic 96, 3) := by decide +kernel
theorem dX7_pilot_5 : decode cX7_pilot 5 = .ok (.ifCond .ne 7, 3) := by decide +kernel
theorem dX7_pilot_8 : decode cX7_pilot 8 = .ok (.iconst 1, 1) := by decide +kernel
theorem dX7_pilot_9 : decode cX7_pilot 9 = .ok (.goto 18, 3) := by decide +kernel
theorem dX7_pilot_12 : decode cX7_pilot 12 = .ok (.iload_n 2, 1) := by decide +kernel
theorem dX7_pilot_13 : decode cX7_pilot 13 = .ok (.iconst 0, 1) := by decide +kernel
theorem dX7_pilot_14 : decode cX7_pilot 14 = .ok (.bipush 6, 2) := by decide +kernel
theorem dX7_pilot_16 : decode cX7_pilot 16 = .ok (.invokestatic 77, 3) := by decide +kernel
theorem dX7_pilot_19 : decode cX7_pilot 19 = .ok (.ifCond .eq 7, 3) := by decide +kernel
theorem dX7_pilot_22 : decode cX7_pilot 22 = .ok (.iconst 0, 1) := by decide +kernel
theorem dX7_pilot_23 : decode cX7_pilot 23 = .ok (.goto 4, 3) := by decide +kernel
theorem dX7_pilot_26 : decode cX7_pilot 26 = .ok (.iconst 2, 1) := by decide +kernel
theorem dX7_pilot_27 : decode cX7_pilot 27 = .ok (.putfield 74, 3) := by decide +kernel
theorem dX7_pilot_30 : decode cX7_pilot 30 = .ok (.aload_n 0, 1) := by decide +kernel
theorem dX7_pilot_31 : decode cX7_pilot 31 = .ok (.getfield 74, 3) := by decide +kernel
theorem dX7_pilot_34 : decode cX7_pilot 34 = .ok (.ifCond .le 5, 3) := by decide +kernel
theorem dX7_pilot_37 : decode cX7_pilot 37 = .ok (.iconst 0, 1) := by decide +kernel
theorem dX7_pilot_38 : decode cX7_pilot 38 = .ok (.ireturn, 1) := by decide +kernel
theorem dX7_pilot_39 : decode cX7_pilot 39 = .ok (.aload_n 0, 1) := by decide +kernel
theorem dX7_pilot_40 : decode cX7_pilot 40 = .ok (.getfield 19, 3) := by decide +kernel
theorem dX7_pilot_43 : decode cX7_pilot 43 = .ok (.iload_n 1, 1) := by decide +kernel
theorem dX7_pilot_44 : decode cX7_pilot 44 = .ok (.iload_n 2, 1) := by decide +kernel
theorem dX7_pilot_45 : decode cX7_pilot 45 = .ok (.iastore, 1) := by decide +kernel
theorem dX7_pilot_46 : decode cX7_pilot 46 = .ok (.aload_n 0, 1) := by decide +kernel
theorem dX7_pilot_47 : decode cX7_pilot 47 = .ok (.getfield 22, 3) := by decide +kernel
theorem dX7_pilot_50 : decode cX7_pilot 50 = .ok (.iload_n 1, 1) := by decide +kernel
theorem dX7_pilot_51 : decode cX7_pilot 51 = .ok (.aload_n 0, 1) := by decide +kernel
theorem dX7_pilot_52 : decode cX7_pilot 52 = .ok (.getfield 100, 3) := by decide +kernel
theorem dX7_pilot_55 : decode cX7_pilot 55 = .ok (.iastore, 1) := by decide +kernel
theorem dX7_pilot_56 : decode cX7_pilot 56 = .ok (.aload_n 0, 1) := by decide +kernel
theorem dX7_pilot_57 : decode cX7_pilot 57 = .ok (.iload_n 1, 1) := by decide +kernel
theorem dX7_pilot_58 : decode cX7_pilot 58 = .ok (.invokevirtual 110, 3) := by decide +kernel
theorem dX7_pilot_61 : decode cX7_pilot 61 = .ok (.ireturn, 1) := by decide +kernel
theorem dX7_areEnough_0 : decode cX7_areEnough 0 = .ok (.aload_n 0, 1) := by decide +kernel
theorem dX7_areEnough_1 : decode cX7_areEnough 1 = .ok (.getfield 93, 3) := by decide +kernel
theorem dX7_areEnough_4 : decode cX7_areEnough 4 = .ok (.bipush 10, 2) := by decide +kernel
theorem dX7_areEnough_6 : decode cX7_areEnough 6 = .ok (.if_icmp .gt 7, 3) := by decide +kernel
theorem dX7_areEnough_9 : decode cX7_areEnough 9 = .ok (.iconst 1, 1) := by decide +kernel
theorem dX7_areEnough_10 : decode cX7_areEnough 10 = .ok (.goto 31, 3) := by decide +kernel
theorem dX7_areEnough_13 : decode cX7_areEnough 13 = .ok (.aload_n 0, 1) := by decide +kernel
theorem dX7_areEnough_14 : decode cX7_areEnough 14 = .ok (.getfield 93, 3) := by decide +kernel
theorem dX7_areEnough_17 : decode cX7_areEnough 17 = .ok (.bipush 20, 2) := by decide +kernel
theorem dX7_areEnough_19 : decode cX7_areEnough 19 = .ok (.if_icmp .gt 7, 3) := by decide +kernel
theorem dX7_areEnough_22 : decode cX7_areEnough 22 = .ok (.iconst 3, 1) := by decide +kernel
theorem dX7_areEnough_23 : decode cX7_areEnough 23 = .ok (.goto 18, 3) := by decide +kernel
theorem dX7_areEnough_26 : decode cX7_areEnough 26 = .ok (.aload_n 0, 1) := by decide +kernel
theorem dX7_areEnough_27 : decode cX7_areEnough 27 = .ok (.getfield 93, 3) := by decide +kernel
theorem dX7_areEnough_30 : decode cX7_areEnough 30 = .ok (.bipush 30, 2) := by decide +kernel
theorem dX7_areEnough_32 : decode cX7_areEnough 32 = .ok (.if_icmp .gt 7, 3) := by decide +kernel
theorem dX7_areEnough_35 : decode cX7_areEnough 35 = .ok (.iconst 5, 1) := by decide +kernel
theorem dX7_areEnough_36 : decode cX7_areEnough 36 = .ok (.goto 5, 3) := by decide +kernel
theorem dX7_areEnough_39 : decode cX7_areEnough 39 = .ok (.bipush 7, 2) := by decide +kernel
theorem dX7_areEnough_41 : decode cX7_areEnough 41 = .ok (.istore_n 1, 1) := by decide +kernel
theorem dX7_areEnough_42 : decode cX7_areEnough 42 = .ok (.aload_n 0, 1) := by decide +kernel
theorem dX7_areEnough_43 : decode cX7_areEnough 43 = .ok (.iconst 0, 1) := by decide +kernel
theorem dX7_areEnough_44 : decode cX7_areEnough 44 = .ok (.invokevirtual 110, 3) := by decide +kernel
theorem dX7_areEnough_47 : decode cX7_areEnough 47 = .ok (.iload_n 1, 1) := by decide +kernel
theorem dX7_areEnough_48 : decode cX7_areEnough 48 = .ok (.if_icmp .lt 25, 3) := by decide +kernel
theorem dX7_areEnough_51 : decode cX7_areEnough 51 = .ok (.aload_n 0, 1) := by decide +kernel
theorem dX7_areEnough_52 : decode cX7_areEnough 52 = .ok (.iconst 1, 1) := by decide +kernel
theorem dX7_areEnough_53 : decode cX7_areEnough 53 = .ok (.invokevirtual 110, 3) := by decide +kernel
theorem dX7_areEnough_56 : decode cX7_areEnough 56 = .ok (.iload_n 1, 1) := by decide +kernel
theorem dX7_areEnough_57 : decode cX7_areEnough 57 = .ok (.if_icmp .lt 16, 3) := by decide +kernel
theorem dX7_areEnough_60 : decode cX7_areEnough 60 = .ok (.aload_n 0, 1) := by decide +kernel
theorem dX7_areEnough_61 : decode cX7_areEnough 61 = .ok (.iconst 2, 1) := by decide +kernel
theorem dX7_areEnough_62 : decode cX7_areEnough 62 = .ok (.invokevirtual 110, 3) := by decide +kernel
theorem dX7_areEnough_65 : decode cX7_areEnough 65 = .ok (.iload_n 1, 1) := by decide +kernel
theorem dX7_areEnough_66 : decode cX7_areEnough 66 = .ok (.if_icmp .lt 7, 3) := by decide +kernel
theorem dX7_areEnough_69 : decode cX7_areEnough 69 = .ok (.iconst 1, 1) := by decide +kernel
theorem dX7_areEnough_70 : decode cX7_areEnough 70 = .ok (.goto 4, 3) := by decide +kernel
theorem dX7_areEnough_73 : decode cX7_areEnough 73 = .ok (.iconst 0, 1) := by decide +kernel
theorem dX7_areEnough_74 : decode cX7_areEnough 74 = .ok (.ireturn, 1) := by decide +kernel
theorem dX7_supply_0 : decode cX7_supply 0 = .ok (.aload_n 0, 1) := by decide +kernel
theorem dX7_supply_1 : decode cX7_supply 1 = .ok (.iload_n 1, 1) := by decide +kernel
theorem dX7_supply_2 : decode cX7_supply 2 = .ok (.invokestatic 113, 3) := by decide +kernel
theorem dX7_supply_5 : decode cX7_supply 5 = .ok (.ifCond .ne 7, 3) := by decide +kernel
theorem dX7_supply_8 : decode cX7_supply 8 = .ok (.iconst 1, 1) := by decide +kernel
theorem dX7_supply_9 : decode cX7_supply 9 = .ok (.goto 36, 3) := by decide +kernel
theorem dX7_supply_12 : decode cX7_supply 12 = .ok (.iload_n 2, 1) := by decide +kernel
theorem dX7_supply_13 : decode cX7_supply 13 = .ok (.iconst 1, 1) := by decide +kernel
theorem dX7_supply_14 : decode cX7_supply 14 = .ok (.sipush 10000, 3) := by decide +kernel
theorem dX7_supply_17 : decode cX7_supply 17 = .ok (.invokestatic 77, 3) := by decide +kernel
theorem dX7_supply_20 : decode cX7_supply 20 = .ok (.ifCond .ne 7, 3) := by decide +kernel
theorem dX7_supply_23 : decode cX7_supply 23 = .ok (.iconst 2, 1) := by decide +kernel
theorem dX7_supply_24 : decode cX7_supply 24 = .ok (.goto 21, 3) := by decide +kernel
theorem dX7_supply_27 : decode cX7_supply 27 = .ok (.aload_n 0, 1) := by decide +kernel
theorem dX7_supply_28 : decode cX7_supply 28 = .ok (.getfield 29, 3) := by decide +kernel
theorem dX7_supply_31 : decode cX7_supply 31 = .ok (.iload_n 1, 1) := by decide +kernel
theorem dX7_supply_32 : decode cX7_supply 32 = .ok (.iaload, 1) := by decide +kernel
theorem dX7_supply_33 : decode cX7_supply 33 = .ok (.iload_n 2, 1) := by decide +kernel
theorem dX7_supply_34 : decode cX7_supply 34 = .ok (.iadd, 1) := by decide +kernel
theorem dX7_supply_35 : decode cX7_supply 35 = .ok (.ldc 116, 2) := by decide +kernel
theorem dX7_supply_37 : decode cX7_supply 37 = .ok (.if_icmp .le 7, 3) := by decide +kernel
theorem dX7_supply_40 : decode cX7_supply 40 = .ok (.iconst 3, 1) := by decide +kernel
theorem dX7_supply_41 : decode cX7_supply 41 = .ok (.goto 4, 3) := by decide +kernel
theorem dX7_supply_44 : decode cX7_supply 44 = .ok (.iconst 0, 1) := by decide +kernel
theorem dX7_supply_45 : decode cX7_supply 45 = .ok (.putfield 74, 3) := by decide +kernel
theorem dX7_supply_48 : decode cX7_supply 48 = .ok (.aload_n 0, 1) := by decide +kernel
theorem dX7_supply_49 : decode cX7_supply 49 = .ok (.getfield 74, 3) := by decide +kernel
theorem dX7_supply_52 : decode cX7_supply 52 = .ok (.ifCond .le 5, 3) := by decide +kernel
theorem dX7_supply_55 : decode cX7_supply 55 = .ok (.iconst 0, 1) := by decide +kernel
theorem dX7_supply_56 : decode cX7_supply 56 = .ok (.ireturn, 1) := by decide +kernel
theorem dX7_supply_57 : decode cX7_supply 57 = .ok (.aload_n 0, 1) := by decide +kernel
theorem dX7_supply_58 : decode cX7_supply 58 = .ok (.getfield 29, 3) := by decide +kernel
theorem dX7_supply_61 : decode cX7_supply 61 = .ok (.iload_n 1, 1) := by decide +kernel
theorem dX7_supply_62 : decode cX7_supply 62 = .ok (.dup2, 1) := by decide +kernel
theorem dX7_supply_63 : decode cX7_supply 63 = .ok (.iaload, 1) := by decide +kernel
theorem dX7_supply_64 : decode cX7_supply 64 = .ok (.iload_n 2, 1) := by decide +kernel
theorem dX7_supply_65 : decode cX7_supply 65 = .ok (.iadd, 1) := by decide +kernel
theorem dX7_supply_66 : decode cX7_supply 66 = .ok (.iastore, 1) := by decide +kernel
theorem dX7_supply_67 : decode cX7_supply 67 = .ok (.aload_n 0, 1) := by decide +kernel
theorem dX7_supply_68 : decode cX7_supply 68 = .ok (.dup, 1) := by decide +kernel
theorem dX7_supply_69 : decode cX7_supply 69 = .ok (.getfield 117, 3) := by decide +kernel
theorem dX7_supply_72 : decode cX7_supply 72 = .ok (.iload_n 2, 1) := by decide +kernel
theorem dX7_supply_73 : decode cX7_supply 73 = .ok (.iadd, 1) := by decide +kernel
theorem dX7_supply_74 : decode cX7_supply 74 = .ok (.putfield 117, 3) := by decide +kernel
theorem dX7_supply_77 : decode cX7_supply 77 = .ok (.aload_n 0, 1) := by decide +kernel
theorem dX7_supply_78 : decode cX7_supply 78 = .ok (.getfield 29, 3) := by decide +kernel
theorem dX7_supply_81 : decode cX7_supply 81 = .ok (.iload_n 1, 1) := by decide +kernel
theorem dX7_supply_82 : decode cX7_supply 82 = .ok (.iaload, 1) := by decide +kernel
theorem dX7_supply_83 : decode cX7_supply 83 = .ok (.ireturn, 1) := by decide +kernel
theorem dX7_table_0 : decode cX7_table 0 = .ok (.aload_n 0, 1) := by decide +kernel
theorem dX7_table_1 : decode cX7_table 1 = .ok (.iload_n 1, 1) := by decide +kernel
theorem dX7_table_2 : decode cX7_table 2 = .ok (.invokestatic 113, 3) := by decide +kernel
theorem dX7_table_5 : decode cX7_table 5 = .ok (.ifCond .ne 7, 3) := by decide +kernel
theorem dX7_table_8 : decode cX7_table 8 = .ok (.iconst 1, 1) := by decide +kernel
theorem dX7_table_9 : decode cX7_table 9 = .ok (.goto 28, 3) := by decide +kernel
theorem dX7_table_12 : decode cX7_table 12 = .ok (.iload_n 2, 1) := by decide +kernel
theorem dX7_table_13 : decode cX7_table 13 = .ok (.iconst 1, 1) := by decide +kernel
theorem dX7_table_14 : decode cX7_table 14 = .ok (.iconst 3, 1) := by decide +kernel
theorem dX7_table_15 : decode cX7_table 15 = .ok (.invokestatic 77, 3) := by decide +kernel
theorem dX7_table_18 : decode cX7_table 18 = .ok (.ifCond .eq 18, 3) := by decide +kernel
theorem dX7_table_21 : decode cX7_table 21 = .ok (.iload_n 3, 1) := by decide +kernel
theorem dX7_table_22 : decode cX7_table 22 = .ok (.iconst 1, 1) := by decide +kernel
theorem dX7_table_23 : decode cX7_table 23 = .ok (.sipush 1000, 3) := by decide +kernel
theorem dX7_table_26 : decode cX7_table 26 = .ok (.invokestatic 77, 3) := by decide +kernel
theorem dX7_table_29 : decode cX7_table 29 = .ok (.ifCond .eq 7, 3) := by decide +kernel
theorem dX7_table_32 : decode cX7_table 32 = .ok (.iconst 0, 1) := by decide +kernel
theorem dX7_table_33 : decode cX7_table 33 = .ok (.goto 4, 3) := by decide +kernel
theorem dX7_table_36 : decode cX7_table 36 = .ok (.iconst 2, 1) := by decide +kernel
theorem dX7_table_37 : decode cX7_table 37 = .ok (.putfield 74, 3) := by decide +kernel
theorem dX7_table_40 : decode cX7_table 40 = .ok (.aload_n 0, 1) := by decide +kernel
theorem dX7_table_41 : decode cX7_table 41 = .ok (.getfield 74, 3) := by decide +kernel
theorem dX7_table_44 : decode cX7_table 44 = .ok (.ifCond .le 5, 3) := by decide +kernel
theorem dX7_table_47 : decode cX7_table 47 = .ok (.iconst 0, 1) := by decide +kernel
theorem dX7_table_48 : decode cX7_table 48 = .ok (.ireturn, 1) := by decide +kernel
theorem dX7_table_49 : decode cX7_table 49 = .ok (.aload_n 0, 1) := by decide +kernel
theorem dX7_table_50 : decode cX7_table 50 = .ok (.getfield 32, 3) := by decide +kernel
theorem dX7_table_53 : decode cX7_table 53 = .ok (.iconst 4, 1) := by decide +kernel
theorem dX7_table_54 : decode cX7_table 54 = .ok (.iload_n 1, 1) := by decide +kernel
theorem dX7_table_55 : decode cX7_table 55 = .ok (.imul, 1) := by decide +kernel
theorem dX7_table_56 : decode cX7_table 56 = .ok (.iload_n 2, 1) := by decide +kernel
theorem dX7_table_57 : decode cX7_table 57 = .ok (.iadd, 1) := by decide +kernel
theorem dX7_table_58 : decode cX7_table 58 = .ok (.iaload, 1) := by decide +kernel
theorem dX7_table_59 : decode cX7_table 59 = .ok (.istore 4, 2) := by decide +kernel
theorem dX7_table_61 : decode cX7_table 61 = .ok (.aload_n 0, 1) := by decide +kernel
theorem dX7_table_62 : decode cX7_table 62 = .ok (.getfield 32, 3) := by decide +kernel
theorem dX7_table_65 : decode cX7_table 65 = .ok (.iconst 4, 1) := by decide +kernel
theorem dX7_table_66 : decode cX7_table 66 = .ok (.iload_n 1, 1) := by decide +kernel
theorem dX7_table_67 : decode cX7_table 67 = .ok (.imul, 1) := by decide +kernel
theorem dX7_table_68 : decode cX7_table 68 = .ok (.iload_n 2, 1) := by decide +kernel
theorem dX7_table_69 : decode cX7_table 69 = .ok (.iadd, 1) := by decide +kernel
theorem dX7_table_70 : decode cX7_table 70 = .ok (.iload_n 3, 1) := by decide +kernel
theorem dX7_table_71 : decode cX7_table 71 = .ok (.iastore, 1) := by decide +kernel
theorem dX7_table_72 : decode cX7_table 72 = .ok (.iload 4, 2) := by decide +kernel
theorem dX7_table_74 : decode cX7_table 74 = .ok (.ireturn, 1) := by decide +kernel
theorem dX7_aircraft_0 : decode cX7_aircraft 0 = .ok (.aload_n 0, 1) := by decide +kernel
theorem dX7_aircraft_1 : decode cX7_aircraft 1 = .ok (.iload_n 1, 1) := by decide +kernel
theorem dX7_aircraft_2 : decode cX7_aircraft 2 = .ok (.bipush 10, 2) := by decide +kernel
theorem dX7_aircraft_4 : decode cX7_aircraft 4 = .ok (.bipush 80, 2) := by decide +kernel
theorem dX7_aircraft_6 : decode cX7_aircraft 6 = .ok (.invokestatic 77, 3) := by decide +kernel
theorem dX7_aircraft_9 : decode cX7_aircraft 9 = .ok (.ifCond .eq 25, 3) := by decide +kernel
theorem dX7_aircraft_12 : decode cX7_aircraft 12 = .ok (.iload_n 2, 1) := by decide +kernel
theorem dX7_aircraft_13 : decode cX7_aircraft 13 = .ok (.iconst 0, 1) := by decide +kernel
theorem dX7_aircraft_14 : decode cX7_aircraft 14 = .ok (.sipush 2000, 3) := by decide +kernel
theorem dX7_aircraft_17 : decode cX7_aircraft 17 = .ok (.invokestatic 77, 3) := by decide +kernel
theorem dX7_aircraft_20 : decode cX7_aircraft 20 = .ok (.ifCond .eq 14, 3) := by decide +kernel
theorem dX7_aircraft_23 : decode cX7_aircraft 23 = .ok (.iload_n 3, 1) := by decide +kernel
theorem dX7_aircraft_24 : decode cX7_aircraft 24 = .ok (.iconst 0, 1) := by decide +kernel
theorem dX7_aircraft_25 : decode cX7_aircraft 25 = .ok (.sipush 2000, 3) := by decide +kernel
theorem dX7_aircraft_28 : decode cX7_aircraft 28 = .ok (.invokestatic 77, 3) := by decide +kernel
theorem dX7_aircraft_31 : decode cX7_aircraft 31 = .ok (.ifCond .ne 7, 3) := by decide +kernel
theorem dX7_aircraft_34 : decode cX7_aircraft 34 = .ok (.iconst 1, 1) := by decide +kernel
theorem dX7_aircraft_35 : decode cX7_aircraft 35 = .ok (.goto 17, 3) := by decide +kernel
theorem dX7_aircraft_38 : decode cX7_aircraft 38 = .ok (.aload_n 0, 1) := by decide +kernel
theorem dX7_aircraft_39 : decode cX7_aircraft 39 = .ok (.getfield 81, 3) := by decide +kernel
theorem dX7_aircraft_42 : decode cX7_aircraft 42 = .ok (.bipush 20, 2) := by decide +kernel
theorem dX7_aircraft_44 : decode cX7_aircraft 44 = .ok (.if_icmp .ne 7, 3) := by decide +kernel
theorem dX7_aircraft_47 : decode cX7_aircraft 47 = .ok (.iconst 2, 1) := by decide +kernel
theorem dX7_aircraft_48 : decode cX7_aircraft 48 = .ok (.goto 4, 3) := by decide +kernel
theorem dX7_aircraft_51 : decode cX7_aircraft 51 = .ok (.iconst 0, 1) := by decide +kernel
theorem dX7_aircraft_52 : decode cX7_aircraft 52 = .ok (.putfield 74, 3) := by decide +kernel
theorem dX7_aircraft_55 : decode cX7_aircraft 55 = .ok (.aload_n 0, 1) := by decide +kernel
theorem dX7_aircraft_56 : decode cX7_aircraft 56 = .ok (.getfield 74, 3) := by decide +kernel
theorem dX7_aircraft_59 : decode cX7_aircraft 59 = .ok (.ifCond .le 5, 3) := by decide +kernel
theorem dX7_aircraft_62 : decode cX7_aircraft 62 = .ok (.iconst 0, 1) := by decide +kernel
theorem dX7_aircraft_63 : decode cX7_aircraft 63 = .ok (.ireturn, 1) := by decide +kernel
theorem dX7_aircraft_64 : decode cX7_aircraft 64 = .ok (.aload_n 0, 1) := by decide +kernel
theorem dX7_aircraft_65 : decode cX7_aircraft 65 = .ok (.getfield 35, 3) := by decide +kernel
theorem dX7_aircraft_68 : decode cX7_aircraft 68 = .ok (.aload_n 0, 1) := by decide +kernel
theorem dX7_aircraft_69 : decode cX7_aircraft 69 = .ok (.getfield 81, 3) := by decide +kernel
theorem dX7_aircraft_72 : decode cX7_aircraft 72 = .ok (.iload_n 1, 1) := by decide +kernel
theorem dX7_aircraft_73 : decode cX7_aircraft 73 = .ok (.iastore, 1) := by decide +kernel
theorem dX7_aircraft_74 : decode cX7_aircraft 74 = .ok (.aload_n 0, 1) := by decide +kernel
theorem dX7_aircraft_75 : decode cX7_aircraft 75 = .ok (.getfield 38, 3) := by decide +kernel
theorem dX7_aircraft_78 : decode cX7_aircraft 78 = .ok (.aload_n 0, 1) := by decide +kernel
theorem dX7_aircraft_79 : decode cX7_aircraft 79 = .ok (.getfield 81, 3) := by decide +kernel
theorem dX7_aircraft_82 : decode cX7_aircraft 82 = .ok (.aload_n 0, 1) := by decide +kernel
theorem dX7_aircraft_83 : decode cX7_aircraft 83 = .ok (.getfield 100, 3) := by decide +kernel
theorem dX7_aircraft_86 : decode cX7_aircraft 86 = .ok (.iload_n 2, 1) := by decide +kernel
theorem dX7_aircraft_87 : decode cX7_aircraft 87 = .ok (.iadd, 1) := by decide +kernel
theorem dX7_aircraft_88 : decode cX7_aircraft 88 = .ok (.iastore, 1) := by decide +kernel
theorem dX7_aircraft_89 : decode cX7_aircraft 89 = .ok (.aload_n 0, 1) := by decide +kernel
theorem dX7_aircraft_90 : decode cX7_aircraft 90 = .ok (.getfield 41, 3) := by decide +kernel
theorem dX7_aircraft_93 : decode cX7_aircraft 93 = .ok (.aload_n 0, 1) := by decide +kernel
theorem dX7_aircraft_94 : decode cX7_aircraft 94 = .ok (.getfield 81, 3) := by decide +kernel
theorem dX7_aircraft_97 : decode cX7_aircraft 97 = .ok (.aload_n 0, 1) := by decide +kernel
theorem dX7_aircraft_98 : decode cX7_aircraft 98 = .ok (.getfield 100, 3) := by decide +kernel
theorem dX7_aircraft_101 : decode cX7_aircraft 101 = .ok (.iload_n 3, 1) := by decide +kernel
theorem dX7_aircraft_102 : decode cX7_aircraft 102 = .ok (.iadd, 1) := by decide +kernel
theorem dX7_aircraft_103 : decode cX7_aircraft 103 = .ok (.iastore, 1) := by decide +kernel
theorem dX7_aircraft_104 : decode cX7_aircraft 104 = .ok (.aload_n 0, 1) := by decide +kernel
theorem dX7_aircraft_105 : decode cX7_aircraft 105 = .ok (.getfield 47, 3) := by decide +kernel
theorem dX7_aircraft_108 : decode cX7_aircraft 108 = .ok (.aload_n 0, 1) := by decide +kernel
theorem dX7_aircraft_109 : decode cX7_aircraft 109 = .ok (.getfield 81, 3) := by decide +kernel
theorem dX7_aircraft_112 : decode cX7_aircraft 112 = .ok (.iconst (-1), 1) := by decide +kernel
theorem dX7_aircraft_113 : decode cX7_aircraft 113 = .ok (.iastore, 1) := by decide +kernel
theorem dX7_aircraft_114 : decode cX7_aircraft 114 = .ok (.aload_n 0, 1) := by decide +kernel
theorem dX7_aircraft_115 : decode cX7_aircraft 115 = .ok (.getfield 56, 3) := by decide +kernel
theorem dX7_aircraft_118 : decode cX7_aircraft 118 = .ok (.aload_n 0, 1) := by decide +kernel
theorem dX7_aircraft_119 : decode cX7_aircraft 119 = .ok (.getfield 81, 3) := by decide +kernel
theorem dX7_aircraft_122 : decode cX7_aircraft 122 = .ok (.iconst (-1), 1) := by decide +kernel
theorem dX7_aircraft_123 : decode cX7_aircraft 123 = .ok (.iastore, 1) := by decide +kernel
theorem dX7_aircraft_124 : decode cX7_aircraft 124 = .ok (.aload_n 0, 1) := by decide +kernel
theorem dX7_aircraft_125 : decode cX7_aircraft 125 = .ok (.dup, 1) := by decide +kernel
theorem dX7_aircraft_126 : decode cX7_aircraft 126 = .ok (.getfield 81, 3) := by decide +kernel
theorem dX7_aircraft_129 : decode cX7_aircraft 129 = .ok (.iconst 1, 1) := by decide +kernel
theorem dX7_aircraft_130 : decode cX7_aircraft 130 = .ok (.iadd, 1) := by decide +kernel
theorem dX7_aircraft_131 : decode cX7_aircraft 131 = .ok (.putfield 81, 3) := by decide +kernel
theorem dX7_aircraft_134 : decode cX7_aircraft 134 = .ok (.aload_n 0, 1) := by decide +kernel
theorem dX7_aircraft_135 : decode cX7_aircraft 135 = .ok (.getfield 81, 3) := by decide +kernel
theorem dX7_aircraft_138 : decode cX7_aircraft 138 = .ok (.iconst 1, 1) := by decide +kernel
theorem dX7_aircraft_139 : decode cX7_aircraft 139 = .ok (.isub, 1) := by decide +kernel
theorem dX7_aircraft_140 : decode cX7_aircraft 140 = .ok (.ireturn, 1) := by decide +kernel
theorem dX7_isFree_0 : decode cX7_isFree 0 = .ok (.iconst 1, 1) := by decide +kernel
theorem dX7_isFree_1 : decode cX7_isFree 1 = .ok (.istore_n 2, 1) := by decide +kernel
theorem dX7_isFree_2 : decode cX7_isFree 2 = .ok (.iconst 0, 1) := by decide +kernel
theorem dX7_isFree_3 : decode cX7_isFree 3 = .ok (.istore_n 3, 1) := by decide +kernel
theorem dX7_isFree_4 : decode cX7_isFree 4 = .ok (.iload_n 3, 1) := by decide +kernel
theorem dX7_isFree_5 : decode cX7_isFree 5 = .ok (.aload_n 0, 1) := by decide +kernel
theorem dX7_isFree_6 : decode cX7_isFree 6 = .ok (.getfield 81, 3) := by decide +kernel
theorem dX7_isFree_9 : decode cX7_isFree 9 = .ok (.if_icmp .ge 29, 3) := by decide +kernel
theorem dX7_isFree_12 : decode cX7_isFree 12 = .ok (.iload_n 2, 1) := by decide +kernel
theorem dX7_isFree_13 : decode cX7_isFree 13 = .ok (.ifCond .eq 17, 3) := by decide +kernel
theorem dX7_isFree_16 : decode cX7_isFree 16 = .ok (.aload_n 0, 1) := by decide +kernel
theorem dX7_isFree_17 : decode cX7_isFree 17 = .ok (.getfield 56, 3) := by decide +kernel
theorem dX7_isFree_20 : decode cX7_isFree 20 = .ok (.iload_n 3, 1) := by decide +kernel
theorem dX7_isFree_21 : decode cX7_isFree 21 = .ok (.iaload, 1) := by decide +kernel
theorem dX7_isFree_22 : decode cX7_isFree 22 = .ok (.iload_n 1, 1) := by decide +kernel
theorem dX7_isFree_23 : decode cX7_isFree 23 = .ok (.if_icmp .eq 7, 3) := by decide +kernel
theorem dX7_isFree_26 : decode cX7_isFree 26 = .ok (.iconst 1, 1) := by decide +kernel
theorem dX7_isFree_27 : decode cX7_isFree 27 = .ok (.goto 4, 3) := by decide +kernel
theorem dX7_isFree_30 : decode cX7_isFree 30 = .ok (.iconst 0, 1) := by decide +kernel
theorem dX7_isFree_31 : decode cX7_isFree 31 = .ok (.istore_n 2, 1) := by decide +kernel
theorem dX7_isFree_32 : decode cX7_isFree 32 = .ok (.iinc 3 1, 3) := by decide +kernel
theorem dX7_isFree_35 : decode cX7_isFree 35 = .ok (.goto (-31), 3) := by decide +kernel
theorem dX7_isFree_38 : decode cX7_isFree 38 = .ok (.iload_n 2, 1) := by decide +kernel
theorem dX7_isFree_39 : decode cX7_isFree 39 = .ok (.ireturn, 1) := by decide +kernel
theorem dX7_treat_0 : decode cX7_treat 0 = .ok (.aload_n 0, 1) := by decide +kernel
theorem dX7_treat_1 : decode cX7_treat 1 = .ok (.aload_n 0, 1) := by decide +kernel
theorem dX7_treat_2 : decode cX7_treat 2 = .ok (.iload_n 1, 1) := by decide +kernel
theorem dX7_treat_3 : decode cX7_treat 3 = .ok (.invokevirtual 120, 3) := by decide +kernel
theorem dX7_treat_6 : decode cX7_treat 6 = .ok (.ifCond .eq 19, 3) := by decide +kernel
theorem dX7_treat_9 : decode cX7_treat 9 = .ok (.iload_n 2, 1) := by decide +kernel
theorem dX7_treat_10 : decode cX7_treat 10 = .ok (.iconst 0, 1) := by decide +kernel
theorem dX7_treat_11 : decode cX7_treat 11 = .ok (.iconst 2, 1) := by decide +kernel
theorem dX7_treat_12 : decode cX7_treat 12 = .ok (.invokestatic 77, 3) := by decide +kernel
theorem dX7_treat_15 : decode cX7_treat 15 = .ok (.ifCond .eq 10, 3) := by decide +kernel
theorem dX7_treat_18 : decode cX7_treat 18 = .ok (.iload_n 3, 1) := by decide +kernel
theorem dX7_treat_19 : decode cX7_treat 19 = .ok (.invokestatic 113, 3) := by decide +kernel
theorem dX7_treat_22 : decode cX7_treat 22 = .ok (.ifCond .ne 7, 3) := by decide +kernel
theorem dX7_treat_25 : decode cX7_treat 25 = .ok (.iconst 1, 1) := by decide +kernel
theorem dX7_treat_26 : decode cX7_treat 26 = .ok (.goto 42, 3) := by decide +kernel
theorem dX7_treat_29 : decode cX7_treat 29 = .ok (.iload 4, 2) := by decide +kernel
theorem dX7_treat_31 : decode cX7_treat 31 = .ok (.bipush 10, 2) := by decide +kernel
theorem dX7_treat_33 : decode cX7_treat 33 = .ok (.sipush 2000, 3) := by decide +kernel
theorem dX7_treat_36 : decode cX7_treat 36 = .ok (.invokestatic 77, 3) := by decide +kernel
theorem dX7_treat_39 : decode cX7_treat 39 = .ok (.ifCond .eq 24, 3) := by decide +kernel
theorem dX7_treat_42 : decode cX7_treat 42 = .ok (.iload 5, 2) := by decide +kernel
theorem dX7_treat_44 : decode cX7_treat 44 = .ok (.bipush 50, 2) := by decide +kernel
theorem dX7_treat_46 : decode cX7_treat 46 = .ok (.if_icmp .eq 21, 3) := by decide +kernel
theorem dX7_treat_49 : decode cX7_treat 49 = .ok (.iload 5, 2) := by decide +kernel
theorem dX7_treat_51 : decode cX7_treat 51 = .ok (.bipush 75, 2) := by decide +kernel
theorem dX7_treat_53 : decode cX7_treat 53 = .ok (.if_icmp .eq 14, 3) := by decide +kernel
theorem dX7_treat_56 : decode cX7_treat 56 = .ok (.iload 5, 2) := by decide +kernel
theorem dX7_treat_58 : decode cX7_treat 58 = .ok (.bipush 100, 2) := by decide +kernel
theorem dX7_treat_60 : decode cX7_treat 60 = .ok (.if_icmp .eq 7, 3) := by decide +kernel
theorem dX7_treat_63 : decode cX7_treat 63 = .ok (.iconst 2, 1) := by decide +kernel
theorem dX7_treat_64 : decode cX7_treat 64 = .ok (.goto 4, 3) := by decide +kernel
theorem dX7_treat_67 : decode cX7_treat 67 = .ok (.iconst 0, 1) := by decide +kernel
theorem dX7_treat_68 : decode cX7_treat 68 = .ok (.putfield 74, 3) := by decide +kernel
theorem dX7_treat_71 : decode cX7_treat 71 = .ok (.aload_n 0, 1) := by decide +kernel
theorem dX7_treat_72 : decode cX7_treat 72 = .ok (.getfield 74, 3) := by decide +kernel
theorem dX7_treat_75 : decode cX7_treat 75 = .ok (.ifCond .le 5, 3) := by decide +kernel
theorem dX7_treat_78 : decode cX7_treat 78 = .ok (.iconst 0, 1) := by decide +kernel
theorem dX7_treat_79 : decode cX7_treat 79 = .ok (.ireturn, 1) := by decide +kernel
theorem dX7_treat_80 : decode cX7_treat 80 = .ok (.aload_n 0, 1) := by decide +kernel
theorem dX7_treat_81 : decode cX7_treat 81 = .ok (.getfield 44, 3) := by decide +kernel
theorem dX7_treat_84 : decode cX7_treat 84 = .ok (.iload_n 1, 1) := by decide +kernel
theorem dX7_treat_85 : decode cX7_treat 85 = .ok (.iaload, 1) := by decide +kernel
theorem dX7_treat_86 : decode cX7_treat 86 = .ok (.ifCond .eq 13, 3) := by decide +kernel
theorem dX7_treat_89 : decode cX7_treat 89 = .ok (.aload_n 0, 1) := by decide +kernel
theorem dX7_treat_90 : decode cX7_treat 90 = .ok (.getfield 44, 3) := by decide +kernel
theorem dX7_treat_93 : decode cX7_treat 93 = .ok (.iload_n 1, 1) := by decide +kernel
theorem dX7_treat_94 : decode cX7_treat 94 = .ok (.iaload, 1) := by decide +kernel
theorem dX7_treat_95 : decode cX7_treat 95 = .ok (.iconst 2, 1) := by decide +kernel
theorem dX7_treat_96 : decode cX7_treat 96 = .ok (.if_icmp .ne 42, 3) := by decide +kernel
theorem dX7_treat_99 : decode cX7_treat 99 = .ok (.aload_n 0, 1) := by decide +kernel
theorem dX7_treat_100 : decode cX7_treat 100 = .ok (.iload_n 2, 1) := by decide +kernel
theorem dX7_treat_101 : decode cX7_treat 101 = .ok (.invokevirtual 123, 3) := by decide +kernel
theorem dX7_treat_104 : decode cX7_treat 104 = .ok (.ifCond .eq 34, 3) := by decide +kernel
theorem dX7_treat_107 : decode cX7_treat 107 = .ok (.aload_n 0, 1) := by decide +kernel
theorem dX7_treat_108 : decode cX7_treat 108 = .ok (.getfield 35, 3) := by decide +kernel
theorem dX7_treat_111 : decode cX7_treat 111 = .ok (.iload_n 1, 1) := by decide +kernel
theorem dX7_treat_112 : decode cX7_treat 112 = .ok (.iaload, 1) := by decide +kernel
theorem dX7_treat_113 : decode cX7_treat 113 = .ok (.bipush 40, 2) := by decide +kernel
theorem dX7_treat_115 : decode cX7_treat 115 = .ok (.bipush 20, 2) := by decide +kernel
theorem dX7_treat_117 : decode cX7_treat 117 = .ok (.iload_n 2, 1) := by decide +kernel
theorem dX7_treat_118 : decode cX7_treat 118 = .ok (.imul, 1) := by decide +kernel
theorem dX7_treat_119 : decode cX7_treat 119 = .ok (.iadd, 1) := by decide +kernel
theorem dX7_treat_120 : decode cX7_treat 120 = .ok (.if_icmp .gt 18, 3) := by decide +kernel
theorem dX7_treat_123 : decode cX7_treat 123 = .ok (.aload_n 0, 1) := by decide +kernel
theorem dX7_treat_124 : decode cX7_treat 124 = .ok (.getfield 29, 3) := by decide +kernel
theorem dX7_treat_127 : decode cX7_treat 127 = .ok (.iload_n 3, 1) := by decide +kernel
theorem dX7_treat_128 : decode cX7_treat 128 = .ok (.iaload, 1) := by decide +kernel
theorem dX7_treat_129 : decode cX7_treat 129 = .ok (.iload 4, 2) := by decide +kernel
theorem dX7_treat_131 : decode cX7_treat 131 = .ok (.if_icmp .lt 7, 3) := by decide +kernel
theorem dX7_treat_134 : decode cX7_treat 134 = .ok (.iconst 1, 1) := by decide +kernel
theorem dX7_treat_135 : decode cX7_treat 135 = .ok (.goto 4, 3) := by decide +kernel
theorem dX7_treat_138 : decode cX7_treat 138 = .ok (.iconst 0, 1) := by decide +kernel
theorem dX7_treat_139 : decode cX7_treat 139 = .ok (.istore 6, 2) := by decide +kernel
theorem dX7_treat_141 : decode cX7_treat 141 = .ok (.aload_n 0, 1) := by decide +kernel
theorem dX7_treat_142 : decode cX7_treat 142 = .ok (.iload 6, 2) := by decide +kernel
theorem dX7_treat_144 : decode cX7_treat 144 = .ok (.ifCond .eq 7, 3) := by decide +kernel
theorem dX7_treat_147 : decode cX7_treat 147 = .ok (.iconst 0, 1) := by decide +kernel
theorem dX7_treat_148 : decode cX7_treat 148 = .ok (.goto 4, 3) := by decide +kernel
theorem dX7_treat_151 : decode cX7_treat 151 = .ok (.iconst 3, 1) := by decide +kernel
theorem dX7_treat_152 : decode cX7_treat 152 = .ok (.putfield 74, 3) := by decide +kernel
theorem dX7_treat_155 : decode cX7_treat 155 = .ok (.aload_n 0, 1) := by decide +kernel
theorem dX7_treat_156 : decode cX7_treat 156 = .ok (.getfield 74, 3) := by decide +kernel
theorem dX7_treat_159 : decode cX7_treat 159 = .ok (.ifCond .le 5, 3) := by decide +kernel
theorem dX7_treat_162 : decode cX7_treat 162 = .ok (.iconst 0, 1) := by decide +kernel
theorem dX7_treat_163 : decode cX7_treat 163 = .ok (.ireturn, 1) := by decide +kernel
theorem dX7_treat_164 : decode cX7_treat 164 = .ok (.aload_n 0, 1) := by decide +kernel
theorem dX7_treat_165 : decode cX7_treat 165 = .ok (.getfield 44, 3) := by decide +kernel
theorem dX7_treat_168 : decode cX7_treat 168 = .ok (.iload_n 1, 1) := by decide +kernel
theorem dX7_treat_169 : decode cX7_treat 169 = .ok (.iconst 1, 1) := by decide +kernel
theorem dX7_treat_170 : decode cX7_treat 170 = .ok (.iastore, 1) := by decide +kernel
theorem dX7_treat_171 : decode cX7_treat 171 = .ok (.aload_n 0, 1) := by decide +kernel
theorem dX7_treat_172 : decode cX7_treat 172 = .ok (.getfield 56, 3) := by decide +kernel
theorem dX7_treat_175 : decode cX7_treat 175 = .ok (.iload_n 1, 1) := by decide +kernel
theorem dX7_treat_176 : decode cX7_treat 176 = .ok (.iload_n 2, 1) := by decide +kernel
theorem dX7_treat_177 : decode cX7_treat 177 = .ok (.iastore, 1) := by decide +kernel
theorem dX7_treat_178 : decode cX7_treat 178 = .ok (.aload_n 0, 1) := by decide +kernel
theorem dX7_treat_179 : decode cX7_treat 179 = .ok (.getfield 59, 3) := by decide +kernel
theorem dX7_treat_182 : decode cX7_treat 182 = .ok (.iload_n 1, 1) := by decide +kernel
theorem dX7_treat_183 : decode cX7_treat 183 = .ok (.aload_n 0, 1) := by decide +kernel
theorem dX7_treat_184 : decode cX7_treat 184 = .ok (.getfield 100, 3) := by decide +kernel
theorem dX7_treat_187 : decode cX7_treat 187 = .ok (.iconst 2, 1) := by decide +kernel
theorem dX7_treat_188 : decode cX7_treat 188 = .ok (.iadd, 1) := by decide +kernel
theorem dX7_treat_189 : decode cX7_treat 189 = .ok (.iload 4, 2) := by decide +kernel
theorem dX7_treat_191 : decode cX7_treat 191 = .ok (.bipush 100, 2) := by decide +kernel
theorem dX7_treat_193 : decode cX7_treat 193 = .ok (.idiv, 1) := by decide +kernel
theorem dX7_treat_194 : decode cX7_treat 194 = .ok (.iadd, 1) := by decide +kernel
theorem dX7_treat_195 : decode cX7_treat 195 = .ok (.iastore, 1) := by decide +kernel
theorem dX7_treat_196 : decode cX7_treat 196 = .ok (.aload_n 0, 1) := by decide +kernel
theorem dX7_treat_197 : decode cX7_treat 197 = .ok (.getfield 62, 3) := by decide +kernel
theorem dX7_treat_200 : decode cX7_treat 200 = .ok (.iload_n 1, 1) := by decide +kernel
theorem dX7_treat_201 : decode cX7_treat 201 = .ok (.aload_n 0, 1) := by decide +kernel
theorem dX7_treat_202 : decode cX7_treat 202 = .ok (.getfield 100, 3) := by decide +kernel
theorem dX7_treat_205 : decode cX7_treat 205 = .ok (.iastore, 1) := by decide +kernel
theorem dX7_treat_206 : decode cX7_treat 206 = .ok (.aload_n 0, 1) := by decide +kernel
theorem dX7_treat_207 : decode cX7_treat 207 = .ok (.getfield 65, 3) := by decide +kernel
theorem dX7_treat_210 : decode cX7_treat 210 = .ok (.iload_n 1, 1) := by decide +kernel
theorem dX7_treat_211 : decode cX7_treat 211 = .ok (.iload_n 3, 1) := by decide +kernel
theorem dX7_treat_212 : decode cX7_treat 212 = .ok (.iastore, 1) := by decide +kernel
theorem dX7_treat_213 : decode cX7_treat 213 = .ok (.aload_n 0, 1) := by decide +kernel
theorem dX7_treat_214 : decode cX7_treat 214 = .ok (.getfield 68, 3) := by decide +kernel
theorem dX7_treat_217 : decode cX7_treat 217 = .ok (.iload_n 1, 1) := by decide +kernel
theorem dX7_treat_218 : decode cX7_treat 218 = .ok (.iload 5, 2) := by decide +kernel
theorem dX7_treat_220 : decode cX7_treat 220 = .ok (.iastore, 1) := by decide +kernel
theorem dX7_treat_221 : decode cX7_treat 221 = .ok (.aload_n 0, 1) := by decide +kernel
theorem dX7_treat_222 : decode cX7_treat 222 = .ok (.getfield 50, 3) := by decide +kernel
theorem dX7_treat_225 : decode cX7_treat 225 = .ok (.iload_n 1, 1) := by decide +kernel
theorem dX7_treat_226 : decode cX7_treat 226 = .ok (.dup2, 1) := by decide +kernel
theorem dX7_treat_227 : decode cX7_treat 227 = .ok (.iaload, 1) := by decide +kernel
theorem dX7_treat_228 : decode cX7_treat 228 = .ok (.iconst 1, 1) := by decide +kernel
theorem dX7_treat_229 : decode cX7_treat 229 = .ok (.iadd, 1) := by decide +kernel
theorem dX7_treat_230 : decode cX7_treat 230 = .ok (.iastore, 1) := by decide +kernel
theorem dX7_treat_231 : decode cX7_treat 231 = .ok (.aload_n 0, 1) := by decide +kernel
theorem dX7_treat_232 : decode cX7_treat 232 = .ok (.getfield 29, 3) := by decide +kernel
theorem dX7_treat_235 : decode cX7_treat 235 = .ok (.iload_n 3, 1) := by decide +kernel
theorem dX7_treat_236 : decode cX7_treat 236 = .ok (.dup2, 1) := by decide +kernel
theorem dX7_treat_237 : decode cX7_treat 237 = .ok (.iaload, 1) := by decide +kernel
theorem dX7_treat_238 : decode cX7_treat 238 = .ok (.iload 4, 2) := by decide +kernel
theorem dX7_treat_240 : decode cX7_treat 240 = .ok (.isub, 1) := by decide +kernel
theorem dX7_treat_241 : decode cX7_treat 241 = .ok (.iastore, 1) := by decide +kernel
theorem dX7_treat_242 : decode cX7_treat 242 = .ok (.aload_n 0, 1) := by decide +kernel
theorem dX7_treat_243 : decode cX7_treat 243 = .ok (.getfield 53, 3) := by decide +kernel
theorem dX7_treat_246 : decode cX7_treat 246 = .ok (.iload_n 1, 1) := by decide +kernel
theorem dX7_treat_247 : decode cX7_treat 247 = .ok (.dup2, 1) := by decide +kernel
theorem dX7_treat_248 : decode cX7_treat 248 = .ok (.iaload, 1) := by decide +kernel
theorem dX7_treat_249 : decode cX7_treat 249 = .ok (.iload 4, 2) := by decide +kernel
theorem dX7_treat_251 : decode cX7_treat 251 = .ok (.bipush 20, 2) := by decide +kernel
theorem dX7_treat_253 : decode cX7_treat 253 = .ok (.imul, 1) := by decide +kernel
theorem dX7_treat_254 : decode cX7_treat 254 = .ok (.bipush 100, 2) := by decide +kernel
theorem dX7_treat_256 : decode cX7_treat 256 = .ok (.idiv, 1) := by decide +kernel
theorem dX7_treat_257 : decode cX7_treat 257 = .ok (.iadd, 1) := by decide +kernel
theorem dX7_treat_258 : decode cX7_treat 258 = .ok (.iastore, 1) := by decide +kernel
theorem dX7_treat_259 : decode cX7_treat 259 = .ok (.aload_n 0, 1) := by decide +kernel
theorem dX7_treat_260 : decode cX7_treat 260 = .ok (.dup, 1) := by decide +kernel
theorem dX7_treat_261 : decode cX7_treat 261 = .ok (.getfield 126, 3) := by decide +kernel
theorem dX7_treat_264 : decode cX7_treat 264 = .ok (.iload 4, 2) := by decide +kernel
theorem dX7_treat_266 : decode cX7_treat 266 = .ok (.iload 4, 2) := by decide +kernel
theorem dX7_treat_268 : decode cX7_treat 268 = .ok (.bipush 20, 2) := by decide +kernel
theorem dX7_treat_270 : decode cX7_treat 270 = .ok (.imul, 1) := by decide +kernel
theorem dX7_treat_271 : decode cX7_treat 271 = .ok (.bipush 100, 2) := by decide +kernel
theorem dX7_treat_273 : decode cX7_treat 273 = .ok (.idiv, 1) := by decide +kernel
theorem dX7_treat_274 : decode cX7_treat 274 = .ok (.isub, 1) := by decide +kernel
theorem dX7_treat_275 : decode cX7_treat 275 = .ok (.iadd, 1) := by decide +kernel
theorem dX7_treat_276 : decode cX7_treat 276 = .ok (.putfield 126, 3) := by decide +kernel
theorem dX7_treat_279 : decode cX7_treat 279 = .ok (.aload_n 0, 1) := by decide +kernel
theorem dX7_treat_280 : decode cX7_treat 280 = .ok (.getfield 59, 3) := by decide +kernel
theorem dX7_treat_283 : decode cX7_treat 283 = .ok (.iload_n 1, 1) := by decide +kernel
theorem dX7_treat_284 : decode cX7_treat 284 = .ok (.iaload, 1) := by decide +kernel
theorem dX7_treat_285 : decode cX7_treat 285 = .ok (.ireturn, 1) := by decide +kernel
theorem dX7_cancel_0 : decode cX7_cancel 0 = .ok (.aload_n 0, 1) := by decide +kernel
theorem dX7_cancel_1 : decode cX7_cancel 1 = .ok (.aload_n 0, 1) := by decide +kernel
theorem dX7_cancel_2 : decode cX7_cancel 2 = .ok (.iload_n 1, 1) := by decide +kernel
theorem dX7_cancel_3 : decode cX7_cancel 3 = .ok (.invokevirtual 120, 3) := by decide +kernel
theorem dX7_cancel_6 : decode cX7_cancel 6 = .ok (.ifCond .ne 7, 3) := by decide +kernel
theorem dX7_cancel_9 : decode cX7_cancel 9 = .ok (.iconst 1, 1) := by decide +kernel
theorem dX7_cancel_10 : decode cX7_cancel 10 = .ok (.goto 28, 3) := by decide +kernel
theorem dX7_cancel_13 : decode cX7_cancel 13 = .ok (.aload_n 0, 1) := by decide +kernel
theorem dX7_cancel_14 : decode cX7_cancel 14 = .ok (.getfield 44, 3) := by decide +kernel
theorem dX7_cancel_17 : decode cX7_cancel 17 = .ok (.iload_n 1, 1) := by decide +kernel
theorem dX7_cancel_18 : decode cX7_cancel 18 = .ok (.iaload, 1) := by decide +kernel
theorem dX7_cancel_19 : decode cX7_cancel 19 = .ok (.iconst 3, 1) := by decide +kernel
theorem dX7_cancel_20 : decode cX7_cancel 20 = .ok (.if_icmp .eq 13, 3) := by decide +kernel
theorem dX7_cancel_23 : decode cX7_cancel 23 = .ok (.aload_n 0, 1) := by decide +kernel
theorem dX7_cancel_24 : decode cX7_cancel 24 = .ok (.getfield 44, 3) := by decide +kernel
theorem dX7_cancel_27 : decode cX7_cancel 27 = .ok (.iload_n 1, 1) := by decide +kernel
theorem dX7_cancel_28 : decode cX7_cancel 28 = .ok (.iaload, 1) := by decide +kernel
theorem dX7_cancel_29 : decode cX7_cancel 29 = .ok (.iconst 4, 1) := by decide +kernel
theorem dX7_cancel_30 : decode cX7_cancel 30 = .ok (.if_icmp .ne 7, 3) := by decide +kernel
theorem dX7_cancel_33 : decode cX7_cancel 33 = .ok (.iconst 2, 1) := by decide +kernel
theorem dX7_cancel_34 : decode cX7_cancel 34 = .ok (.goto 4, 3) := by decide +kernel
theorem dX7_cancel_37 : decode cX7_cancel 37 = .ok (.iconst 0, 1) := by decide +kernel
theorem dX7_cancel_38 : decode cX7_cancel 38 = .ok (.putfield 74, 3) := by decide +kernel
theorem dX7_cancel_41 : decode cX7_cancel 41 = .ok (.aload_n 0, 1) := by decide +kernel
theorem dX7_cancel_42 : decode cX7_cancel 42 = .ok (.getfield 74, 3) := by decide +kernel
theorem dX7_cancel_45 : decode cX7_cancel 45 = .ok (.ifCond .le 5, 3) := by decide +kernel
theorem dX7_cancel_48 : decode cX7_cancel 48 = .ok (.iconst 0, 1) := by decide +kernel
theorem dX7_cancel_49 : decode cX7_cancel 49 = .ok (.ireturn, 1) := by decide +kernel
theorem dX7_cancel_50 : decode cX7_cancel 50 = .ok (.aload_n 0, 1) := by decide +kernel
theorem dX7_cancel_51 : decode cX7_cancel 51 = .ok (.getfield 44, 3) := by decide +kernel
theorem dX7_cancel_54 : decode cX7_cancel 54 = .ok (.iload_n 1, 1) := by decide +kernel
theorem dX7_cancel_55 : decode cX7_cancel 55 = .ok (.iaload, 1) := by decide +kernel
theorem dX7_cancel_56 : decode cX7_cancel 56 = .ok (.istore_n 2, 1) := by decide +kernel
theorem dX7_cancel_57 : decode cX7_cancel 57 = .ok (.aload_n 0, 1) := by decide +kernel
theorem dX7_cancel_58 : decode cX7_cancel 58 = .ok (.iload_n 1, 1) := by decide +kernel
theorem dX7_cancel_59 : decode cX7_cancel 59 = .ok (.invokevirtual 129, 3) := by decide +kernel
theorem dX7_cancel_62 : decode cX7_cancel 62 = .ok (.iload_n 2, 1) := by decide +kernel
theorem dX7_cancel_63 : decode cX7_cancel 63 = .ok (.ireturn, 1) := by decide +kernel
theorem dX7_cancels_0 : decode cX7_cancels 0 = .ok (.aload_n 0, 1) := by decide +kernel
theorem dX7_cancels_1 : decode cX7_cancels 1 = .ok (.getfield 44, 3) := by decide +kernel
theorem dX7_cancels_4 : decode cX7_cancels 4 = .ok (.iload_n 1, 1) := by decide +kernel
theorem dX7_cancels_5 : decode cX7_cancels 5 = .ok (.iconst 4, 1) := by decide +kernel
theorem dX7_cancels_6 : decode cX7_cancels 6 = .ok (.iastore, 1) := by decide +kernel
theorem dX7_cancels_7 : decode cX7_cancels 7 = .ok (.aload_n 0, 1) := by decide +kernel
theorem dX7_cancels_8 : decode cX7_cancels 8 = .ok (.getfield 56, 3) := by decide +kernel
theorem dX7_cancels_11 : decode cX7_cancels 11 = .ok (.iload_n 1, 1) := by decide +kernel
theorem dX7_cancels_12 : decode cX7_cancels 12 = .ok (.iconst (-1), 1) := by decide +kernel
theorem dX7_cancels_13 : decode cX7_cancels 13 = .ok (.iastore, 1) := by decide +kernel
theorem dX7_cancels_14 : decode cX7_cancels 14 = .ok (.return_, 1) := by decide +kernel
theorem dX7_permit_0 : decode cX7_permit 0 = .ok (.aload_n 0, 1) := by decide +kernel
theorem dX7_permit_1 : decode cX7_permit 1 = .ok (.iload_n 1, 1) := by decide +kernel
theorem dX7_permit_2 : decode cX7_permit 2 = .ok (.iconst 0, 1) := by decide +kernel
theorem dX7_permit_3 : decode cX7_permit 3 = .ok (.ldc 116, 2) := by decide +kernel
theorem dX7_permit_5 : decode cX7_permit 5 = .ok (.invokestatic 77, 3) := by decide +kernel
theorem dX7_permit_8 : decode cX7_permit 8 = .ok (.ifCond .eq 7, 3) := by decide +kernel
theorem dX7_permit_11 : decode cX7_permit 11 = .ok (.iconst 0, 1) := by decide +kernel
theorem dX7_permit_12 : decode cX7_permit 12 = .ok (.goto 4, 3) := by decide +kernel
theorem dX7_permit_15 : decode cX7_permit 15 = .ok (.iconst 1, 1) := by decide +kernel
theorem dX7_permit_16 : decode cX7_permit 16 = .ok (.putfield 74, 3) := by decide +kernel
theorem dX7_permit_19 : decode cX7_permit 19 = .ok (.aload_n 0, 1) := by decide +kernel
theorem dX7_permit_20 : decode cX7_permit 20 = .ok (.getfield 74, 3) := by decide +kernel
theorem dX7_permit_23 : decode cX7_permit 23 = .ok (.ifCond .le 5, 3) := by decide +kernel
theorem dX7_permit_26 : decode cX7_permit 26 = .ok (.iconst 0, 1) := by decide +kernel
theorem dX7_permit_27 : decode cX7_permit 27 = .ok (.ireturn, 1) := by decide +kernel
theorem dX7_permit_28 : decode cX7_permit 28 = .ok (.aload_n 0, 1) := by decide +kernel
theorem dX7_permit_29 : decode cX7_permit 29 = .ok (.getfield 71, 3) := by decide +kernel
theorem dX7_permit_32 : decode cX7_permit 32 = .ok (.istore_n 2, 1) := by decide +kernel
theorem dX7_permit_33 : decode cX7_permit 33 = .ok (.aload_n 0, 1) := by decide +kernel
theorem dX7_permit_34 : decode cX7_permit 34 = .ok (.iload_n 1, 1) := by decide +kernel
theorem dX7_permit_35 : decode cX7_permit 35 = .ok (.putfield 71, 3) := by decide +kernel
theorem dX7_permit_38 : decode cX7_permit 38 = .ok (.iload_n 2, 1) := by decide +kernel
theorem dX7_permit_39 : decode cX7_permit 39 = .ok (.ireturn, 1) := by decide +kernel
theorem dX7_release_0 : decode cX7_release 0 = .ok (.aload_n 0, 1) := by decide +kernel
theorem dX7_release_1 : decode cX7_release 1 = .ok (.iload_n 1, 1) := by decide +kernel
theorem dX7_release_2 : decode cX7_release 2 = .ok (.iconst 1, 1) := by decide +kernel
theorem dX7_release_3 : decode cX7_release 3 = .ok (.ldc 116, 2) := by decide +kernel
theorem dX7_release_5 : decode cX7_release 5 = .ok (.invokestatic 77, 3) := by decide +kernel
theorem dX7_release_8 : decode cX7_release 8 = .ok (.ifCond .ne 7, 3) := by decide +kernel
theorem dX7_release_11 : decode cX7_release 11 = .ok (.iconst 1, 1) := by decide +kernel
theorem dX7_release_12 : decode cX7_release 12 = .ok (.goto 29, 3) := by decide +kernel
theorem dX7_release_15 : decode cX7_release 15 = .ok (.iload_n 1, 1) := by decide +kernel
theorem dX7_release_16 : decode cX7_release 16 = .ok (.aload_n 0, 1) := by decide +kernel
theorem dX7_release_17 : decode cX7_release 17 = .ok (.getfield 126, 3) := by decide +kernel
theorem dX7_release_20 : decode cX7_release 20 = .ok (.if_icmp .gt 16, 3) := by decide +kernel
theorem dX7_release_23 : decode cX7_release 23 = .ok (.aload_n 0, 1) := by decide +kernel
theorem dX7_release_24 : decode cX7_release 24 = .ok (.getfield 133, 3) := by decide +kernel
theorem dX7_release_27 : decode cX7_release 27 = .ok (.iload_n 1, 1) := by decide +kernel
theorem dX7_release_28 : decode cX7_release 28 = .ok (.iadd, 1) := by decide +kernel
theorem dX7_release_29 : decode cX7_release 29 = .ok (.aload_n 0, 1) := by decide +kernel
theorem dX7_release_30 : decode cX7_release 30 = .ok (.getfield 71, 3) := by decide +kernel
theorem dX7_release_33 : decode cX7_release 33 = .ok (.if_icmp .le 7, 3) := by decide +kernel
theorem dX7_release_36 : decode cX7_release 36 = .ok (.iconst 2, 1) := by decide +kernel
theorem dX7_release_37 : decode cX7_release 37 = .ok (.goto 4, 3) := by decide +kernel
theorem dX7_release_40 : decode cX7_release 40 = .ok (.iconst 0, 1) := by decide +kernel
theorem dX7_release_41 : decode cX7_release 41 = .ok (.putfield 74, 3) := by decide +kernel
theorem dX7_release_44 : decode cX7_release 44 = .ok (.aload_n 0, 1) := by decide +kernel
theorem dX7_release_45 : decode cX7_release 45 = .ok (.getfield 74, 3) := by decide +kernel
theorem dX7_release_48 : decode cX7_release 48 = .ok (.ifCond .le 5, 3) := by decide +kernel
theorem dX7_release_51 : decode cX7_release 51 = .ok (.iconst 0, 1) := by decide +kernel
theorem dX7_release_52 : decode cX7_release 52 = .ok (.ireturn, 1) := by decide +kernel
theorem dX7_release_53 : decode cX7_release 53 = .ok (.aload_n 0, 1) := by decide +kernel
theorem dX7_release_54 : decode cX7_release 54 = .ok (.dup, 1) := by decide +kernel
theorem dX7_release_55 : decode cX7_release 55 = .ok (.getfield 126, 3) := by decide +kernel
theorem dX7_release_58 : decode cX7_release 58 = .ok (.iload_n 1, 1) := by decide +kernel
theorem dX7_release_59 : decode cX7_release 59 = .ok (.isub, 1) := by decide +kernel
theorem dX7_release_60 : decode cX7_release 60 = .ok (.putfield 126, 3) := by decide +kernel
theorem dX7_release_63 : decode cX7_release 63 = .ok (.aload_n 0, 1) := by decide +kernel
theorem dX7_release_64 : decode cX7_release 64 = .ok (.dup, 1) := by decide +kernel
theorem dX7_release_65 : decode cX7_release 65 = .ok (.getfield 136, 3) := by decide +kernel
theorem dX7_release_68 : decode cX7_release 68 = .ok (.iload_n 1, 1) := by decide +kernel
theorem dX7_release_69 : decode cX7_release 69 = .ok (.iadd, 1) := by decide +kernel
theorem dX7_release_70 : decode cX7_release 70 = .ok (.putfield 136, 3) := by decide +kernel
theorem dX7_release_73 : decode cX7_release 73 = .ok (.aload_n 0, 1) := by decide +kernel
theorem dX7_release_74 : decode cX7_release 74 = .ok (.dup, 1) := by decide +kernel
theorem dX7_release_75 : decode cX7_release 75 = .ok (.getfield 133, 3) := by decide +kernel
theorem dX7_release_78 : decode cX7_release 78 = .ok (.iload_n 1, 1) := by decide +kernel
theorem dX7_release_79 : decode cX7_release 79 = .ok (.iadd, 1) := by decide +kernel
theorem dX7_release_80 : decode cX7_release 80 = .ok (.putfield 133, 3) := by decide +kernel
theorem dX7_release_83 : decode cX7_release 83 = .ok (.aload_n 0, 1) := by decide +kernel
theorem dX7_release_84 : decode cX7_release 84 = .ok (.getfield 133, 3) := by decide +kernel
theorem dX7_release_87 : decode cX7_release 87 = .ok (.ireturn, 1) := by decide +kernel
theorem dX7_falls_0 : decode cX7_falls 0 = .ok (.aload_n 0, 1) := by decide +kernel
theorem dX7_falls_1 : decode cX7_falls 1 = .ok (.getfield 84, 3) := by decide +kernel
theorem dX7_falls_4 : decode cX7_falls 4 = .ok (.ifCond .ge 15, 3) := by decide +kernel
theorem dX7_falls_7 : decode cX7_falls 7 = .ok (.aload_n 0, 1) := by decide +kernel
theorem dX7_falls_8 : decode cX7_falls 8 = .ok (.iload_n 1, 1) := by decide +kernel
theorem dX7_falls_9 : decode cX7_falls 9 = .ok (.invokevirtual 139, 3) := by decide +kernel
theorem dX7_falls_12 : decode cX7_falls 12 = .ok (.ifCond .ne 7, 3) := by decide +kernel
theorem dX7_falls_15 : decode cX7_falls 15 = .ok (.iconst 1, 1) := by decide +kernel
theorem dX7_falls_16 : decode cX7_falls 16 = .ok (.goto 4, 3) := by decide +kernel
theorem dX7_falls_19 : decode cX7_falls 19 = .ok (.iconst 0, 1) := by decide +kernel
theorem dX7_falls_20 : decode cX7_falls 20 = .ok (.istore_n 2, 1) := by decide +kernel
theorem dX7_falls_21 : decode cX7_falls 21 = .ok (.aload_n 0, 1) := by decide +kernel
theorem dX7_falls_22 : decode cX7_falls 22 = .ok (.getfield 87, 3) := by decide +kernel
theorem dX7_falls_25 : decode cX7_falls 25 = .ok (.iconst 1, 1) := by decide +kernel
theorem dX7_falls_26 : decode cX7_falls 26 = .ok (.if_icmp .ne 40, 3) := by decide +kernel
theorem dX7_falls_29 : decode cX7_falls 29 = .ok (.aload_n 0, 1) := by decide +kernel
theorem dX7_falls_30 : decode cX7_falls 30 = .ok (.getfield 7, 3) := by decide +kernel
theorem dX7_falls_33 : decode cX7_falls 33 = .ok (.iload_n 1, 1) := by decide +kernel
theorem dX7_falls_34 : decode cX7_falls 34 = .ok (.aload_n 0, 1) := by decide +kernel
theorem dX7_falls_35 : decode cX7_falls 35 = .ok (.getfield 7, 3) := by decide +kernel
theorem dX7_falls_38 : decode cX7_falls 38 = .ok (.iload_n 1, 1) := by decide +kernel
theorem dX7_falls_39 : decode cX7_falls 39 = .ok (.iaload, 1) := by decide +kernel
theorem dX7_falls_40 : decode cX7_falls 40 = .ok (.iconst 3, 1) := by decide +kernel
theorem dX7_falls_41 : decode cX7_falls 41 = .ok (.if_icmp .ne 7, 3) := by decide +kernel
theorem dX7_falls_44 : decode cX7_falls 44 = .ok (.iconst 3, 1) := by decide +kernel
theorem dX7_falls_45 : decode cX7_falls 45 = .ok (.goto 4, 3) := by decide +kernel
theorem dX7_falls_48 : decode cX7_falls 48 = .ok (.iconst 2, 1) := by decide +kernel
theorem dX7_falls_49 : decode cX7_falls 49 = .ok (.iastore, 1) := by decide +kernel
theorem dX7_falls_50 : decode cX7_falls 50 = .ok (.aload_n 0, 1) := by decide +kernel
theorem dX7_falls_51 : decode cX7_falls 51 = .ok (.getfield 13, 3) := by decide +kernel
theorem dX7_falls_54 : decode cX7_falls 54 = .ok (.iload_n 1, 1) := by decide +kernel
theorem dX7_falls_55 : decode cX7_falls 55 = .ok (.dup2, 1) := by decide +kernel
theorem dX7_falls_56 : decode cX7_falls 56 = .ok (.iaload, 1) := by decide +kernel
theorem dX7_falls_57 : decode cX7_falls 57 = .ok (.aload_n 0, 1) := by decide +kernel
theorem dX7_falls_58 : decode cX7_falls 58 = .ok (.getfield 90, 3) := by decide +kernel
theorem dX7_falls_61 : decode cX7_falls 61 = .ok (.iadd, 1) := by decide +kernel
theorem dX7_falls_62 : decode cX7_falls 62 = .ok (.iastore, 1) := by decide +kernel
theorem dX7_falls_63 : decode cX7_falls 63 = .ok (.goto 101, 3) := by decide +kernel
theorem dX7_falls_66 : decode cX7_falls 66 = .ok (.aload_n 0, 1) := by decide +kernel
theorem dX7_falls_67 : decode cX7_falls 67 = .ok (.getfield 87, 3) := by decide +kernel
theorem dX7_falls_70 : decode cX7_falls 70 = .ok (.iconst 2, 1) := by decide +kernel
theorem dX7_falls_71 : decode cX7_falls 71 = .ok (.if_icmp .ne 30, 3) := by decide +kernel
theorem dX7_falls_74 : decode cX7_falls 74 = .ok (.iload_n 2, 1) := by decide +kernel
theorem dX7_falls_75 : decode cX7_falls 75 = .ok (.ifCond .eq 26, 3) := by decide +kernel
theorem dX7_falls_78 : decode cX7_falls 78 = .ok (.aload_n 0, 1) := by decide +kernel
theorem dX7_falls_79 : decode cX7_falls 79 = .ok (.getfield 7, 3) := by decide +kernel
theorem dX7_falls_82 : decode cX7_falls 82 = .ok (.iload_n 1, 1) := by decide +kernel
theorem dX7_falls_83 : decode cX7_falls 83 = .ok (.iconst 3, 1) := by decide +kernel
theorem dX7_falls_84 : decode cX7_falls 84 = .ok (.iastore, 1) := by decide +kernel
theorem dX7_falls_85 : decode cX7_falls 85 = .ok (.aload_n 0, 1) := by decide +kernel
theorem dX7_falls_86 : decode cX7_falls 86 = .ok (.getfield 13, 3) := by decide +kernel
theorem dX7_falls_89 : decode cX7_falls 89 = .ok (.iload_n 1, 1) := by decide +kernel
theorem dX7_falls_90 : decode cX7_falls 90 = .ok (.dup2, 1) := by decide +kernel
theorem dX7_falls_91 : decode cX7_falls 91 = .ok (.iaload, 1) := by decide +kernel
theorem dX7_falls_92 : decode cX7_falls 92 = .ok (.aload_n 0, 1) := by decide +kernel
theorem dX7_falls_93 : decode cX7_falls 93 = .ok (.getfield 90, 3) := by decide +kernel
theorem dX7_falls_96 : decode cX7_falls 96 = .ok (.iadd, 1) := by decide +kernel
theorem dX7_falls_97 : decode cX7_falls 97 = .ok (.iastore, 1) := by decide +kernel
theorem dX7_falls_98 : decode cX7_falls 98 = .ok (.goto 66, 3) := by decide +kernel
theorem dX7_falls_101 : decode cX7_falls 101 = .ok (.aload_n 0, 1) := by decide +kernel
theorem dX7_falls_102 : decode cX7_falls 102 = .ok (.getfield 87, 3) := by decide +kernel
theorem dX7_falls_105 : decode cX7_falls 105 = .ok (.iconst 2, 1) := by decide +kernel
theorem dX7_falls_106 : decode cX7_falls 106 = .ok (.if_icmp .ne 22, 3) := by decide +kernel
theorem dX7_falls_109 : decode cX7_falls 109 = .ok (.aload_n 0, 1) := by decide +kernel
theorem dX7_falls_110 : decode cX7_falls 110 = .ok (.getfield 7, 3) := by decide +kernel
theorem dX7_falls_113 : decode cX7_falls 113 = .ok (.iload_n 1, 1) := by decide +kernel
theorem dX7_falls_114 : decode cX7_falls 114 = .ok (.iaload, 1) := by decide +kernel
theorem dX7_falls_115 : decode cX7_falls 115 = .ok (.ifCond .ne 13, 3) := by decide +kernel
theorem dX7_falls_118 : decode cX7_falls 118 = .ok (.aload_n 0, 1) := by decide +kernel
theorem dX7_falls_119 : decode cX7_falls 119 = .ok (.getfield 7, 3) := by decide +kernel
theorem dX7_falls_122 : decode cX7_falls 122 = .ok (.iload_n 1, 1) := by decide +kernel
theorem dX7_falls_123 : decode cX7_falls 123 = .ok (.iconst 1, 1) := by decide +kernel
theorem dX7_falls_124 : decode cX7_falls 124 = .ok (.iastore, 1) := by decide +kernel
theorem dX7_falls_125 : decode cX7_falls 125 = .ok (.goto 39, 3) := by decide +kernel
theorem dX7_falls_128 : decode cX7_falls 128 = .ok (.aload_n 0, 1) := by decide +kernel
theorem dX7_falls_129 : decode cX7_falls 129 = .ok (.getfield 87, 3) := by decide +kernel
theorem dX7_falls_132 : decode cX7_falls 132 = .ok (.iconst 3, 1) := by decide +kernel
theorem dX7_falls_133 : decode cX7_falls 133 = .ok (.if_icmp .ne 31, 3) := by decide +kernel
theorem dX7_falls_136 : decode cX7_falls 136 = .ok (.iload_n 2, 1) := by decide +kernel
theorem dX7_falls_137 : decode cX7_falls 137 = .ok (.ifCond .eq 27, 3) := by decide +kernel
theorem dX7_falls_140 : decode cX7_falls 140 = .ok (.aload_n 0, 1) := by decide +kernel
theorem dX7_falls_141 : decode cX7_falls 141 = .ok (.getfield 7, 3) := by decide +kernel
theorem dX7_falls_144 : decode cX7_falls 144 = .ok (.iload_n 1, 1) := by decide +kernel
theorem dX7_falls_145 : decode cX7_falls 145 = .ok (.iaload, 1) := by decide +kernel
theorem dX7_falls_146 : decode cX7_falls 146 = .ok (.iconst 2, 1) := by decide +kernel
theorem dX7_falls_147 : decode cX7_falls 147 = .ok (.if_icmp .ge 17, 3) := by decide +kernel
theorem dX7_falls_150 : decode cX7_falls 150 = .ok (.aload_n 0, 1) := by decide +kernel
theorem dX7_falls_151 : decode cX7_falls 151 = .ok (.getfield 7, 3) := by decide +kernel
theorem dX7_falls_154 : decode cX7_falls 154 = .ok (.iload_n 1, 1) := by decide +kernel
theorem dX7_falls_155 : decode cX7_falls 155 = .ok (.iconst 3, 1) := by decide +kernel
theorem dX7_falls_156 : decode cX7_falls 156 = .ok (.iastore, 1) := by decide +kernel
theorem dX7_falls_157 : decode cX7_falls 157 = .ok (.aload_n 0, 1) := by decide +kernel
theorem dX7_falls_158 : decode cX7_falls 158 = .ok (.getfield 13, 3) := by decide +kernel
theorem dX7_falls_161 : decode cX7_falls 161 = .ok (.iload_n 1, 1) := by decide +kernel
theorem dX7_falls_162 : decode cX7_falls 162 = .ok (.iconst 1, 1) := by decide +kernel
theorem dX7_falls_163 : decode cX7_falls 163 = .ok (.iastore, 1) := by decide +kernel
theorem dX7_falls_164 : decode cX7_falls 164 = .ok (.aload_n 0, 1) := by decide +kernel
theorem dX7_falls_165 : decode cX7_falls 165 = .ok (.getfield 13, 3) := by decide +kernel
theorem dX7_falls_168 : decode cX7_falls 168 = .ok (.iload_n 1, 1) := by decide +kernel
theorem dX7_falls_169 : decode cX7_falls 169 = .ok (.aload_n 0, 1) := by decide +kernel
theorem dX7_falls_170 : decode cX7_falls 170 = .ok (.getfield 13, 3) := by decide +kernel
theorem dX7_falls_173 : decode cX7_falls 173 = .ok (.iload_n 1, 1) := by decide +kernel
theorem dX7_falls_174 : decode cX7_falls 174 = .ok (.iaload, 1) := by decide +kernel
theorem dX7_falls_175 : decode cX7_falls 175 = .ok (.sipush 5000, 3) := by decide +kernel
theorem dX7_falls_178 : decode cX7_falls 178 = .ok (.if_icmp .le 9, 3) := by decide +kernel
theorem dX7_falls_181 : decode cX7_falls 181 = .ok (.sipush 5000, 3) := by decide +kernel
theorem dX7_falls_184 : decode cX7_falls 184 = .ok (.goto 9, 3) := by decide +kernel
theorem dX7_falls_187 : decode cX7_falls 187 = .ok (.aload_n 0, 1) := by decide +kernel
theorem dX7_falls_188 : decode cX7_falls 188 = .ok (.getfield 13, 3) := by decide +kernel
theorem dX7_falls_191 : decode cX7_falls 191 = .ok (.iload_n 1, 1) := by decide +kernel
theorem dX7_falls_192 : decode cX7_falls 192 = .ok (.iaload, 1) := by decide +kernel
theorem dX7_falls_193 : decode cX7_falls 193 = .ok (.iastore, 1) := by decide +kernel
theorem dX7_falls_194 : decode cX7_falls 194 = .ok (.aload_n 0, 1) := by decide +kernel
theorem dX7_falls_195 : decode cX7_falls 195 = .ok (.getfield 84, 3) := by decide +kernel
theorem dX7_falls_198 : decode cX7_falls 198 = .ok (.bipush 20, 2) := by decide +kernel
theorem dX7_falls_200 : decode cX7_falls 200 = .ok (.if_icmp .le 66, 3) := by decide +kernel
theorem dX7_falls_203 : decode cX7_falls 203 = .ok (.aload_n 0, 1) := by decide +kernel
theorem dX7_falls_204 : decode cX7_falls 204 = .ok (.getfield 7, 3) := by decide +kernel
theorem dX7_falls_207 : decode cX7_falls 207 = .ok (.iload_n 1, 1) := by decide +kernel
theorem dX7_falls_208 : decode cX7_falls 208 = .ok (.iaload, 1) := by decide +kernel
theorem dX7_falls_209 : decode cX7_falls 209 = .ok (.iconst 2, 1) := by decide +kernel
theorem dX7_falls_210 : decode cX7_falls 210 = .ok (.if_icmp .lt 56, 3) := by decide +kernel
theorem dX7_falls_213 : decode cX7_falls 213 = .ok (.aload_n 0, 1) := by decide +kernel
theorem dX7_falls_214 : decode cX7_falls 214 = .ok (.getfield 13, 3) := by decide +kernel
theorem dX7_falls_217 : decode cX7_falls 217 = .ok (.iload_n 1, 1) := by decide +kernel
theorem dX7_falls_218 : decode cX7_falls 218 = .ok (.aload_n 0, 1) := by decide +kernel
theorem dX7_falls_219 : decode cX7_falls 219 = .ok (.getfield 13, 3) := by decide +kernel
theorem dX7_falls_222 : decode cX7_falls 222 = .ok (.iload_n 1, 1) := by decide +kernel
theorem dX7_falls_223 : decode cX7_falls 223 = .ok (.iaload, 1) := by decide +kernel
theorem dX7_falls_224 : decode cX7_falls 224 = .ok (.iconst 2, 1) := by decide +kernel
theorem dX7_falls_225 : decode cX7_falls 225 = .ok (.if_icmp .ge 7, 3) := by decide +kernel
theorem dX7_falls_228 : decode cX7_falls 228 = .ok (.iconst 0, 1) := by decide +kernel
theorem dX7_falls_229 : decode cX7_falls 229 = .ok (.goto 11, 3) := by decide +kernel
theorem dX7_falls_232 : decode cX7_falls 232 = .ok (.aload_n 0, 1) := by decide +kernel
theorem dX7_falls_233 : decode cX7_falls 233 = .ok (.getfield 13, 3) := by decide +kernel
theorem dX7_falls_236 : decode cX7_falls 236 = .ok (.iload_n 1, 1) := by decide +kernel
theorem dX7_falls_237 : decode cX7_falls 237 = .ok (.iaload, 1) := by decide +kernel
theorem dX7_falls_238 : decode cX7_falls 238 = .ok (.iconst 2, 1) := by decide +kernel
theorem dX7_falls_239 : decode cX7_falls 239 = .ok (.isub, 1) := by decide +kernel
theorem dX7_falls_240 : decode cX7_falls 240 = .ok (.iastore, 1) := by decide +kernel
theorem dX7_falls_241 : decode cX7_falls 241 = .ok (.aload_n 0, 1) := by decide +kernel
theorem dX7_falls_242 : decode cX7_falls 242 = .ok (.getfield 7, 3) := by decide +kernel
theorem dX7_falls_245 : decode cX7_falls 245 = .ok (.iload_n 1, 1) := by decide +kernel
theorem dX7_falls_246 : decode cX7_falls 246 = .ok (.aload_n 0, 1) := by decide +kernel
theorem dX7_falls_247 : decode cX7_falls 247 = .ok (.getfield 13, 3) := by decide +kernel
theorem dX7_falls_250 : decode cX7_falls 250 = .ok (.iload_n 1, 1) := by decide +kernel
theorem dX7_falls_251 : decode cX7_falls 251 = .ok (.iaload, 1) := by decide +kernel
theorem dX7_falls_252 : decode cX7_falls 252 = .ok (.ifCond .ne 7, 3) := by decide +kernel
theorem dX7_falls_255 : decode cX7_falls 255 = .ok (.iconst 1, 1) := by decide +kernel
theorem dX7_falls_256 : decode cX7_falls 256 = .ok (.goto 9, 3) := by decide +kernel
theorem dX7_falls_259 : decode cX7_falls 259 = .ok (.aload_n 0, 1) := by decide +kernel
theorem dX7_falls_260 : decode cX7_falls 260 = .ok (.getfield 7, 3) := by decide +kernel
theorem dX7_falls_263 : decode cX7_falls 263 = .ok (.iload_n 1, 1) := by decide +kernel
theorem dX7_falls_264 : decode cX7_falls 264 = .ok (.iaload, 1) := by decide +kernel
theorem dX7_falls_265 : decode cX7_falls 265 = .ok (.iastore, 1) := by decide +kernel
theorem dX7_falls_266 : decode cX7_falls 266 = .ok (.iload_n 2, 1) := by decide +kernel
theorem dX7_falls_267 : decode cX7_falls 267 = .ok (.ifCond .eq 27, 3) := by decide +kernel
theorem dX7_falls_270 : decode cX7_falls 270 = .ok (.aload_n 0, 1) := by decide +kernel
theorem dX7_falls_271 : decode cX7_falls 271 = .ok (.getfield 7, 3) := by decide +kernel
theorem dX7_falls_274 : decode cX7_falls 274 = .ok (.iload_n 1, 1) := by decide +kernel
theorem dX7_falls_275 : decode cX7_falls 275 = .ok (.iaload, 1) := by decide +kernel
theorem dX7_falls_276 : decode cX7_falls 276 = .ok (.iconst 1, 1) := by decide +kernel
theorem dX7_falls_277 : decode cX7_falls 277 = .ok (.if_icmp .ne 17, 3) := by decide +kernel
theorem dX7_falls_280 : decode cX7_falls 280 = .ok (.aload_n 0, 1) := by decide +kernel
theorem dX7_falls_281 : decode cX7_falls 281 = .ok (.getfield 7, 3) := by decide +kernel
theorem dX7_falls_284 : decode cX7_falls 284 = .ok (.iload_n 1, 1) := by decide +kernel
theorem dX7_falls_285 : decode cX7_falls 285 = .ok (.iconst 3, 1) := by decide +kernel
theorem dX7_falls_286 : decode cX7_falls 286 = .ok (.iastore, 1) := by decide +kernel
theorem dX7_falls_287 : decode cX7_falls 287 = .ok (.aload_n 0, 1) := by decide +kernel
theorem dX7_falls_288 : decode cX7_falls 288 = .ok (.getfield 13, 3) := by decide +kernel
theorem dX7_falls_291 : decode cX7_falls 291 = .ok (.iload_n 1, 1) := by decide +kernel
theorem dX7_falls_292 : decode cX7_falls 292 = .ok (.iconst 1, 1) := by decide +kernel
theorem dX7_falls_293 : decode cX7_falls 293 = .ok (.iastore, 1) := by decide +kernel
theorem dX7_falls_294 : decode cX7_falls 294 = .ok (.return_, 1) := by decide +kernel
theorem dX7_ploughs_0 : decode cX7_ploughs 0 = .ok (.bipush 40, 2) := by decide +kernel
theorem dX7_ploughs_2 : decode cX7_ploughs 2 = .ok (.aload_n 0, 1) := by decide +kernel
theorem dX7_ploughs_3 : decode cX7_ploughs 3 = .ok (.getfield 103, 3) := by decide +kernel
theorem dX7_ploughs_6 : decode cX7_ploughs 6 = .ok (.imul, 1) := by decide +kernel
theorem dX7_ploughs_7 : decode cX7_ploughs 7 = .ok (.istore_n 1, 1) := by decide +kernel
theorem dX7_ploughs_8 : decode cX7_ploughs 8 = .ok (.iconst 0, 1) := by decide +kernel
theorem dX7_ploughs_9 : decode cX7_ploughs 9 = .ok (.istore_n 2, 1) := by decide +kernel
theorem dX7_ploughs_10 : decode cX7_ploughs 10 = .ok (.iload_n 2, 1) := by decide +kernel
theorem dX7_ploughs_11 : decode cX7_ploughs 11 = .ok (.iconst 3, 1) := by decide +kernel
theorem dX7_ploughs_12 : decode cX7_ploughs 12 = .ok (.if_icmp .ge 84, 3) := by decide +kernel
theorem dX7_ploughs_15 : decode cX7_ploughs 15 = .ok (.aload_n 0, 1) := by decide +kernel
theorem dX7_ploughs_16 : decode cX7_ploughs 16 = .ok (.getfield 7, 3) := by decide +kernel
theorem dX7_ploughs_19 : decode cX7_ploughs 19 = .ok (.iload_n 2, 1) := by decide +kernel
theorem dX7_ploughs_20 : decode cX7_ploughs 20 = .ok (.iaload, 1) := by decide +kernel
theorem dX7_ploughs_21 : decode cX7_ploughs 21 = .ok (.iconst 2, 1) := by decide +kernel
theorem dX7_ploughs_22 : decode cX7_ploughs 22 = .ok (.if_icmp .ne 68, 3) := by decide +kernel
theorem dX7_ploughs_25 : decode cX7_ploughs 25 = .ok (.aload_n 0, 1) := by decide +kernel
theorem dX7_ploughs_26 : decode cX7_ploughs 26 = .ok (.getfield 13, 3) := by decide +kernel
theorem dX7_ploughs_29 : decode cX7_ploughs 29 = .ok (.iload_n 2, 1) := by decide +kernel
theorem dX7_ploughs_30 : decode cX7_ploughs 30 = .ok (.iaload, 1) := by decide +kernel
theorem dX7_ploughs_31 : decode cX7_ploughs 31 = .ok (.iload_n 1, 1) := by decide +kernel
theorem dX7_ploughs_32 : decode cX7_ploughs 32 = .ok (.if_icmp .ge 12, 3) := by decide +kernel
theorem dX7_ploughs_35 : decode cX7_ploughs 35 = .ok (.aload_n 0, 1) := by decide +kernel
theorem dX7_ploughs_36 : decode cX7_ploughs 36 = .ok (.getfield 13, 3) := by decide +kernel
theorem dX7_ploughs_39 : decode cX7_ploughs 39 = .ok (.iload_n 2, 1) := by decide +kernel
theorem dX7_ploughs_40 : decode cX7_ploughs 40 = .ok (.iaload, 1) := by decide +kernel
theorem dX7_ploughs_41 : decode cX7_ploughs 41 = .ok (.goto 4, 3) := by decide +kernel
theorem dX7_ploughs_44 : decode cX7_ploughs 44 = .ok (.iload_n 1, 1) := by decide +kernel
theorem dX7_ploughs_45 : decode cX7_ploughs 45 = .ok (.istore_n 3, 1) := by decide +kernel
theorem dX7_ploughs_46 : decode cX7_ploughs 46 = .ok (.aload_n 0, 1) := by decide +kernel
theorem dX7_ploughs_47 : decode cX7_ploughs 47 = .ok (.getfield 13, 3) := by decide +kernel
theorem dX7_ploughs_50 : decode cX7_ploughs 50 = .ok (.iload_n 2, 1) := by decide +kernel
theorem dX7_ploughs_51 : decode cX7_ploughs 51 = .ok (.dup2, 1) := by decide +kernel
theorem dX7_ploughs_52 : decode cX7_ploughs 52 = .ok (.iaload, 1) := by decide +kernel
theorem dX7_ploughs_53 : decode cX7_ploughs 53 = .ok (.iload_n 3, 1) := by decide +kernel
theorem dX7_ploughs_54 : decode cX7_ploughs 54 = .ok (.isub, 1) := by decide +kernel
theorem dX7_ploughs_55 : decode cX7_ploughs 55 = .ok (.iastore, 1) := by decide +kernel
theorem dX7_ploughs_56 : decode cX7_ploughs 56 = .ok (.iload_n 1, 1) := by decide +kernel
theorem dX7_ploughs_57 : decode cX7_ploughs 57 = .ok (.iload_n 3, 1) := by decide +kernel
theorem dX7_ploughs_58 : decode cX7_ploughs 58 = .ok (.isub, 1) := by decide +kernel
theorem dX7_ploughs_59 : decode cX7_ploughs 59 = .ok (.istore_n 1, 1) := by decide +kernel
theorem dX7_ploughs_60 : decode cX7_ploughs 60 = .ok (.aload_n 0, 1) := by decide +kernel
theorem dX7_ploughs_61 : decode cX7_ploughs 61 = .ok (.dup, 1) := by decide +kernel
theorem dX7_ploughs_62 : decode cX7_ploughs 62 = .ok (.getfield 142, 3) := by decide +kernel
theorem dX7_ploughs_65 : decode cX7_ploughs 65 = .ok (.iload_n 3, 1) := by decide +kernel
theorem dX7_ploughs_66 : decode cX7_ploughs 66 = .ok (.iadd, 1) := by decide +kernel
theorem dX7_ploughs_67 : decode cX7_ploughs 67 = .ok (.putfield 142, 3) := by decide +kernel
theorem dX7_ploughs_70 : decode cX7_ploughs 70 = .ok (.aload_n 0, 1) := by decide +kernel
theorem dX7_ploughs_71 : decode cX7_ploughs 71 = .ok (.getfield 7, 3) := by decide +kernel
theorem dX7_ploughs_74 : decode cX7_ploughs 74 = .ok (.iload_n 2, 1) := by decide +kernel
theorem dX7_ploughs_75 : decode cX7_ploughs 75 = .ok (.aload_n 0, 1) := by decide +kernel
theorem dX7_ploughs_76 : decode cX7_ploughs 76 = .ok (.getfield 13, 3) := by decide +kernel
theorem dX7_ploughs_79 : decode cX7_ploughs 79 = .ok (.iload_n 2, 1) := by decide +kernel
theorem dX7_ploughs_80 : decode cX7_ploughs 80 = .ok (.iaload, 1) := by decide +kernel
theorem dX7_ploughs_81 : decode cX7_ploughs 81 = .ok (.ifCond .ne 7, 3) := by decide +kernel
theorem dX7_ploughs_84 : decode cX7_ploughs 84 = .ok (.iconst 1, 1) := by decide +kernel
theorem dX7_ploughs_85 : decode cX7_ploughs 85 = .ok (.goto 4, 3) := by decide +kernel
theorem dX7_ploughs_88 : decode cX7_ploughs 88 = .ok (.iconst 2, 1) := by decide +kernel
theorem dX7_ploughs_89 : decode cX7_ploughs 89 = .ok (.iastore, 1) := by decide +kernel
theorem dX7_ploughs_90 : decode cX7_ploughs 90 = .ok (.iinc 2 1, 3) := by decide +kernel
theorem dX7_ploughs_93 : decode cX7_ploughs 93 = .ok (.goto (-83), 3) := by decide +kernel
theorem dX7_ploughs_96 : decode cX7_ploughs 96 = .ok (.return_, 1) := by decide +kernel
theorem dX7_clockOf_0 : decode cX7_clockOf 0 = .ok (.ldc2_w 145, 3) := by decide +kernel
theorem dX7_clockOf_3 : decode cX7_clockOf 3 = .ok (.dstore_n 2, 1) := by decide +kernel
theorem dX7_clockOf_4 : decode cX7_clockOf 4 = .ok (.aload_n 0, 1) := by decide +kernel
theorem dX7_clockOf_5 : decode cX7_clockOf 5 = .ok (.getfield 87, 3) := by decide +kernel
theorem dX7_clockOf_8 : decode cX7_clockOf 8 = .ok (.ifCond .eq 71, 3) := by decide +kernel
theorem dX7_clockOf_11 : decode cX7_clockOf 11 = .ok (.aload_n 0, 1) := by decide +kernel
theorem dX7_clockOf_12 : decode cX7_clockOf 12 = .ok (.getfield 84, 3) := by decide +kernel
theorem dX7_clockOf_15 : decode cX7_clockOf 15 = .ok (.bipush (-30), 2) := by decide +kernel
theorem dX7_clockOf_17 : decode cX7_clockOf 17 = .ok (.if_icmp .lt 7, 3) := by decide +kernel
theorem dX7_clockOf_20 : decode cX7_clockOf 20 = .ok (.dconst 1, 1) := by decide +kernel
theorem dX7_clockOf_21 : decode cX7_clockOf 21 = .ok (.goto 21, 3) := by decide +kernel
theorem dX7_clockOf_24 : decode cX7_clockOf 24 = .ok (.aload_n 0, 1) := by decide +kernel
theorem dX7_clockOf_25 : decode cX7_clockOf 25 = .ok (.getfield 84, 3) := by decide +kernel
theorem dX7_clockOf_28 : decode cX7_clockOf 28 = .ok (.bipush (-100), 2) := by decide +kernel
theorem dX7_clockOf_30 : decode cX7_clockOf 30 = .ok (.if_icmp .lt 9, 3) := by decide +kernel
theorem dX7_clockOf_33 : decode cX7_clockOf 33 = .ok (.ldc2_w 147, 3) := by decide +kernel
theorem dX7_clockOf_36 : decode cX7_clockOf 36 = .ok (.goto 6, 3) := by decide +kernel
theorem dX7_clockOf_39 : decode cX7_clockOf 39 = .ok (.ldc2_w 149, 3) := by decide +kernel
theorem dX7_clockOf_42 : decode cX7_clockOf 42 = .ok (.dstore 4, 2) := by decide +kernel
theorem dX7_clockOf_44 : decode cX7_clockOf 44 = .ok (.aload_n 0, 1) := by decide +kernel
theorem dX7_clockOf_45 : decode cX7_clockOf 45 = .ok (.getfield 32, 3) := by decide +kernel
theorem dX7_clockOf_48 : decode cX7_clockOf 48 = .ok (.iconst 4, 1) := by decide +kernel
theorem dX7_clockOf_49 : decode cX7_clockOf 49 = .ok (.aload_n 0, 1) := by decide +kernel
theorem dX7_clockOf_50 : decode cX7_clockOf 50 = .ok (.getfield 65, 3) := by decide +kernel
theorem dX7_clockOf_53 : decode cX7_clockOf 53 = .ok (.iload_n 1, 1) := by decide +kernel
theorem dX7_clockOf_54 : decode cX7_clockOf 54 = .ok (.iaload, 1) := by decide +kernel
theorem dX7_clockOf_55 : decode cX7_clockOf 55 = .ok (.imul, 1) := by decide +kernel
theorem dX7_clockOf_56 : decode cX7_clockOf 56 = .ok (.aload_n 0, 1) := by decide +kernel
theorem dX7_clockOf_57 : decode cX7_clockOf 57 = .ok (.getfield 87, 3) := by decide +kernel
theorem dX7_clockOf_60 : decode cX7_clockOf 60 = .ok (.iadd, 1) := by decide +kernel
theorem dX7_clockOf_61 : decode cX7_clockOf 61 = .ok (.iaload, 1) := by decide +kernel
theorem dX7_clockOf_62 : decode cX7_clockOf 62 = .ok (.i2d, 1) := by decide +kernel
theorem dX7_clockOf_63 : decode cX7_clockOf 63 = .ok (.aload_n 0, 1) := by decide +kernel
theorem dX7_clockOf_64 : decode cX7_clockOf 64 = .ok (.getfield 68, 3) := by decide +kernel
theorem dX7_clockOf_67 : decode cX7_clockOf 67 = .ok (.iload_n 1, 1) := by decide +kernel
theorem dX7_clockOf_68 : decode cX7_clockOf 68 = .ok (.iaload, 1) := by decide +kernel
theorem dX7_clockOf_69 : decode cX7_clockOf 69 = .ok (.i2d, 1) := by decide +kernel
theorem dX7_clockOf_70 : decode cX7_clockOf 70 = .ok (.ldc2_w 151, 3) := by decide +kernel
theorem dX7_clockOf_73 : decode cX7_clockOf 73 = .ok (.ddiv, 1) := by decide +kernel
theorem dX7_clockOf_74 : decode cX7_clockOf 74 = .ok (.dmul, 1) := by decide +kernel
theorem dX7_clockOf_75 : decode cX7_clockOf 75 = .ok (.dload 4, 2) := by decide +kernel
theorem dX7_clockOf_77 : decode cX7_clockOf 77 = .ok (.dmul, 1) := by decide +kernel
theorem dX7_clockOf_78 : decode cX7_clockOf 78 = .ok (.dstore_n 2, 1) := by decide +kernel
theorem dX7_clockOf_79 : decode cX7_clockOf 79 = .ok (.dload_n 2, 1) := by decide +kernel
theorem dX7_clockOf_80 : decode cX7_clockOf 80 = .ok (.aload_n 0, 1) := by decide +kernel
theorem dX7_clockOf_81 : decode cX7_clockOf 81 = .ok (.getfield 100, 3) := by decide +kernel
theorem dX7_clockOf_84 : decode cX7_clockOf 84 = .ok (.aload_n 0, 1) := by decide +kernel
theorem dX7_clockOf_85 : decode cX7_clockOf 85 = .ok (.getfield 62, 3) := by decide +kernel
theorem dX7_clockOf_88 : decode cX7_clockOf 88 = .ok (.iload_n 1, 1) := by decide +kernel
theorem dX7_clockOf_89 : decode cX7_clockOf 89 = .ok (.iaload, 1) := by decide +kernel
theorem dX7_clockOf_90 : decode cX7_clockOf 90 = .ok (.isub, 1) := by decide +kernel
theorem dX7_clockOf_91 : decode cX7_clockOf 91 = .ok (.i2d, 1) := by decide +kernel
theorem dX7_clockOf_92 : decode cX7_clockOf 92 = .ok (.dsub, 1) := by decide +kernel
theorem dX7_clockOf_93 : decode cX7_clockOf 93 = .ok (.dreturn, 1) := by decide +kernel
theorem dX7_goesOn_0 : decode cX7_goesOn 0 = .ok (.aload_n 0, 1) := by decide +kernel
theorem dX7_goesOn_1 : decode cX7_goesOn 1 = .ok (.getfield 44, 3) := by decide +kernel
theorem dX7_goesOn_4 : decode cX7_goesOn 4 = .ok (.iload_n 1, 1) := by decide +kernel
theorem dX7_goesOn_5 : decode cX7_goesOn 5 = .ok (.iaload, 1) := by decide +kernel
theorem dX7_goesOn_6 : decode cX7_goesOn 6 = .ok (.iconst 1, 1) := by decide +kernel
theorem dX7_goesOn_7 : decode cX7_goesOn 7 = .ok (.if_icmp .ne 30, 3) := by decide +kernel
theorem dX7_goesOn_10 : decode cX7_goesOn 10 = .ok (.aload_n 0, 1) := by decide +kernel
theorem dX7_goesOn_11 : decode cX7_goesOn 11 = .ok (.getfield 100, 3) := by decide +kernel
theorem dX7_goesOn_14 : decode cX7_goesOn 14 = .ok (.aload_n 0, 1) := by decide +kernel
theorem dX7_goesOn_15 : decode cX7_goesOn 15 = .ok (.getfield 59, 3) := by decide +kernel
theorem dX7_goesOn_18 : decode cX7_goesOn 18 = .ok (.iload_n 1, 1) := by decide +kernel
theorem dX7_goesOn_19 : decode cX7_goesOn 19 = .ok (.iaload, 1) := by decide +kernel
theorem dX7_goesOn_20 : decode cX7_goesOn 20 = .ok (.if_icmp .lt 17, 3) := by decide +kernel
theorem dX7_goesOn_23 : decode cX7_goesOn 23 = .ok (.aload_n 0, 1) := by decide +kernel
theorem dX7_goesOn_24 : decode cX7_goesOn 24 = .ok (.getfield 44, 3) := by decide +kernel
theorem dX7_goesOn_27 : decode cX7_goesOn 27 = .ok (.iload_n 1, 1) := by decide +kernel
theorem dX7_goesOn_28 : decode cX7_goesOn 28 = .ok (.iconst 2, 1) := by decide +kernel
theorem dX7_goesOn_29 : decode cX7_goesOn 29 = .ok (.iastore, 1) := by decide +kernel
theorem dX7_goesOn_30 : decode cX7_goesOn 30 = .ok (.aload_n 0, 1) := by decide +kernel
theorem dX7_goesOn_31 : decode cX7_goesOn 31 = .ok (.getfield 56, 3) := by decide +kernel
theorem dX7_goesOn_34 : decode cX7_goesOn 34 = .ok (.iload_n 1, 1) := by decide +kernel
theorem dX7_goesOn_35 : decode cX7_goesOn 35 = .ok (.iconst (-1), 1) := by decide +kernel
theorem dX7_goesOn_36 : decode cX7_goesOn 36 = .ok (.iastore, 1) := by decide +kernel
theorem dX7_goesOn_37 : decode cX7_goesOn 37 = .ok (.return_, 1) := by decide +kernel
theorem dX7_nextAfter_0 : decode cX7_nextAfter 0 = .ok (.iconst (-1), 1) := by decide +kernel
theorem dX7_nextAfter_1 : decode cX7_nextAfter 1 = .ok (.istore_n 2, 1) := by decide +kernel
theorem dX7_nextAfter_2 : decode cX7_nextAfter 2 = .ok (.iconst 0, 1) := by decide +kernel
theorem dX7_nextAfter_3 : decode cX7_nextAfter 3 = .ok (.istore_n 3, 1) := by decide +kernel
theorem dX7_nextAfter_4 : decode cX7_nextAfter 4 = .ok (.iload_n 3, 1) := by decide +kernel
theorem dX7_nextAfter_5 : decode cX7_nextAfter 5 = .ok (.aload_n 0, 1) := by decide +kernel
theorem dX7_nextAfter_6 : decode cX7_nextAfter 6 = .ok (.getfield 81, 3) := by decide +kernel
theorem dX7_nextAfter_9 : decode cX7_nextAfter 9 = .ok (.if_icmp .ge 94, 3) := by decide +kernel
theorem dX7_nextAfter_12 : decode cX7_nextAfter 12 = .ok (.iload_n 1, 1) := by decide +kernel
theorem dX7_nextAfter_13 : decode cX7_nextAfter 13 = .ok (.iconst (-1), 1) := by decide +kernel
theorem dX7_nextAfter_14 : decode cX7_nextAfter 14 = .ok (.if_icmp .eq 36, 3) := by decide +kernel
theorem dX7_nextAfter_17 : decode cX7_nextAfter 17 = .ok (.aload_n 0, 1) := by decide +kernel
theorem dX7_nextAfter_18 : decode cX7_nextAfter 18 = .ok (.iload_n 3, 1) := by decide +kernel
theorem dX7_nextAfter_19 : decode cX7_nextAfter 19 = .ok (.invokevirtual 153, 3) := by decide +kernel
theorem dX7_nextAfter_22 : decode cX7_nextAfter 22 = .ok (.aload_n 0, 1) := by decide +kernel
theorem dX7_nextAfter_23 : decode cX7_nextAfter 23 = .ok (.iload_n 1, 1) := by decide +kernel
theorem dX7_nextAfter_24 : decode cX7_nextAfter 24 = .ok (.invokevirtual 153, 3) := by decide +kernel
theorem dX7_nextAfter_27 : decode cX7_nextAfter 27 = .ok (.dcmp .l, 1) := by decide +kernel
theorem dX7_nextAfter_28 : decode cX7_nextAfter 28 = .ok (.ifCond .gt 22, 3) := by decide +kernel
theorem dX7_nextAfter_31 : decode cX7_nextAfter 31 = .ok (.aload_n 0, 1) := by decide +kernel
theorem dX7_nextAfter_32 : decode cX7_nextAfter 32 = .ok (.iload_n 3, 1) := by decide +kernel
theorem dX7_nextAfter_33 : decode cX7_nextAfter 33 = .ok (.invokevirtual 153, 3) := by decide +kernel
theorem dX7_nextAfter_36 : decode cX7_nextAfter 36 = .ok (.aload_n 0, 1) := by decide +kernel
theorem dX7_nextAfter_37 : decode cX7_nextAfter 37 = .ok (.iload_n 1, 1) := by decide +kernel
theorem dX7_nextAfter_38 : decode cX7_nextAfter 38 = .ok (.invokevirtual 153, 3) := by decide +kernel
theorem dX7_nextAfter_41 : decode cX7_nextAfter 41 = .ok (.dcmp .l, 1) := by decide +kernel
theorem dX7_nextAfter_42 : decode cX7_nextAfter 42 = .ok (.ifCond .ne 12, 3) := by decide +kernel
theorem dX7_nextAfter_45 : decode cX7_nextAfter 45 = .ok (.iload_n 3, 1) := by decide +kernel
theorem dX7_nextAfter_46 : decode cX7_nextAfter 46 = .ok (.iload_n 1, 1) := by decide +kernel
theorem dX7_nextAfter_47 : decode cX7_nextAfter 47 = .ok (.if_icmp .le 7, 3) := by decide +kernel
theorem dX7_nextAfter_50 : decode cX7_nextAfter 50 = .ok (.iconst 1, 1) := by decide +kernel
theorem dX7_nextAfter_51 : decode cX7_nextAfter 51 = .ok (.goto 4, 3) := by decide +kernel
theorem dX7_nextAfter_54 : decode cX7_nextAfter 54 = .ok (.iconst 0, 1) := by decide +kernel
theorem dX7_nextAfter_55 : decode cX7_nextAfter 55 = .ok (.istore 4, 2) := by decide +kernel
theorem dX7_nextAfter_57 : decode cX7_nextAfter 57 = .ok (.aload_n 0, 1) := by decide +kernel
theorem dX7_nextAfter_58 : decode cX7_nextAfter 58 = .ok (.getfield 44, 3) := by decide +kernel
theorem dX7_nextAfter_61 : decode cX7_nextAfter 61 = .ok (.iload_n 3, 1) := by decide +kernel
theorem dX7_nextAfter_62 : decode cX7_nextAfter 62 = .ok (.iaload, 1) := by decide +kernel
theorem dX7_nextAfter_63 : decode cX7_nextAfter 63 = .ok (.iconst 2, 1) := by decide +kernel
theorem dX7_nextAfter_64 : decode cX7_nextAfter 64 = .ok (.if_icmp .ne 31, 3) := by decide +kernel
theorem dX7_nextAfter_67 : decode cX7_nextAfter 67 = .ok (.iload 4, 2) := by decide +kernel
theorem dX7_nextAfter_69 : decode cX7_nextAfter 69 = .ok (.ifCond .eq 26, 3) := by decide +kernel
theorem dX7_nextAfter_72 : decode cX7_nextAfter 72 = .ok (.iload_n 2, 1) := by decide +kernel
theorem dX7_nextAfter_73 : decode cX7_nextAfter 73 = .ok (.iconst (-1), 1) := by decide +kernel
theorem dX7_nextAfter_74 : decode cX7_nextAfter 74 = .ok (.if_icmp .eq 17, 3) := by decide +kernel
theorem dX7_nextAfter_77 : decode cX7_nextAfter 77 = .ok (.aload_n 0, 1) := by decide +kernel
theorem dX7_nextAfter_78 : decode cX7_nextAfter 78 = .ok (.iload_n 3, 1) := by decide +kernel
theorem dX7_nextAfter_79 : decode cX7_nextAfter 79 = .ok (.invokevirtual 153, 3) := by decide +kernel
theorem dX7_nextAfter_82 : decode cX7_nextAfter 82 = .ok (.aload_n 0, 1) := by decide +kernel
theorem dX7_nextAfter_83 : decode cX7_nextAfter 83 = .ok (.iload_n 2, 1) := by decide +kernel
theorem dX7_nextAfter_84 : decode cX7_nextAfter 84 = .ok (.invokevirtual 153, 3) := by decide +kernel
theorem dX7_nextAfter_87 : decode cX7_nextAfter 87 = .ok (.dcmp .g, 1) := by decide +kernel
theorem dX7_nextAfter_88 : decode cX7_nextAfter 88 = .ok (.ifCond .ge 7, 3) := by decide +kernel
theorem dX7_nextAfter_91 : decode cX7_nextAfter 91 = .ok (.iload_n 3, 1) := by decide +kernel
theorem dX7_nextAfter_92 : decode cX7_nextAfter 92 = .ok (.goto 4, 3) := by decide +kernel
theorem dX7_nextAfter_95 : decode cX7_nextAfter 95 = .ok (.iload_n 2, 1) := by decide +kernel
theorem dX7_nextAfter_96 : decode cX7_nextAfter 96 = .ok (.istore_n 2, 1) := by decide +kernel
theorem dX7_nextAfter_97 : decode cX7_nextAfter 97 = .ok (.iinc 3 1, 3) := by decide +kernel
theorem dX7_nextAfter_100 : decode cX7_nextAfter 100 = .ok (.goto (-96), 3) := by decide +kernel
theorem dX7_nextAfter_103 : decode cX7_nextAfter 103 = .ok (.iload_n 2, 1) := by decide +kernel
theorem dX7_nextAfter_104 : decode cX7_nextAfter 104 = .ok (.ireturn, 1) := by decide +kernel
theorem dX7_leaves_0 : decode cX7_leaves 0 = .ok (.iconst (-1), 1) := by decide +kernel
theorem dX7_leaves_1 : decode cX7_leaves 1 = .ok (.istore_n 1, 1) := by decide +kernel
theorem dX7_leaves_2 : decode cX7_leaves 2 = .ok (.iconst 0, 1) := by decide +kernel
theorem dX7_leaves_3 : decode cX7_leaves 3 = .ok (.istore_n 2, 1) := by decide +kernel
theorem dX7_leaves_4 : decode cX7_leaves 4 = .ok (.iload_n 2, 1) := by decide +kernel
theorem dX7_leaves_5 : decode cX7_leaves 5 = .ok (.aload_n 0, 1) := by decide +kernel
theorem dX7_leaves_6 : decode cX7_leaves 6 = .ok (.getfield 81, 3) := by decide +kernel
theorem dX7_leaves_9 : decode cX7_leaves 9 = .ok (.if_icmp .ge 57, 3) := by decide +kernel
theorem dX7_leaves_12 : decode cX7_leaves 12 = .ok (.aload_n 0, 1) := by decide +kernel
theorem dX7_leaves_13 : decode cX7_leaves 13 = .ok (.getfield 44, 3) := by decide +kernel
theorem dX7_leaves_16 : decode cX7_leaves 16 = .ok (.iload_n 2, 1) := by decide +kernel
theorem dX7_leaves_17 : decode cX7_leaves 17 = .ok (.iaload, 1) := by decide +kernel
theorem dX7_leaves_18 : decode cX7_leaves 18 = .ok (.iconst 2, 1) := by decide +kernel
theorem dX7_leaves_19 : decode cX7_leaves 19 = .ok (.if_icmp .ne 39, 3) := by decide +kernel
theorem dX7_leaves_22 : decode cX7_leaves 22 = .ok (.aload_n 0, 1) := by decide +kernel
theorem dX7_leaves_23 : decode cX7_leaves 23 = .ok (.getfield 38, 3) := by decide +kernel
theorem dX7_leaves_26 : decode cX7_leaves 26 = .ok (.iload_n 2, 1) := by decide +kernel
theorem dX7_leaves_27 : decode cX7_leaves 27 = .ok (.iaload, 1) := by decide +kernel
theorem dX7_leaves_28 : decode cX7_leaves 28 = .ok (.aload_n 0, 1) := by decide +kernel
theorem dX7_leaves_29 : decode cX7_leaves 29 = .ok (.getfield 100, 3) := by decide +kernel
theorem dX7_leaves_32 : decode cX7_leaves 32 = .ok (.if_icmp .gt 26, 3) := by decide +kernel
theorem dX7_leaves_35 : decode cX7_leaves 35 = .ok (.iload_n 1, 1) := by decide +kernel
theorem dX7_leaves_36 : decode cX7_leaves 36 = .ok (.iconst (-1), 1) := by decide +kernel
theorem dX7_leaves_37 : decode cX7_leaves 37 = .ok (.if_icmp .eq 17, 3) := by decide +kernel
theorem dX7_leaves_40 : decode cX7_leaves 40 = .ok (.aload_n 0, 1) := by decide +kernel
theorem dX7_leaves_41 : decode cX7_leaves 41 = .ok (.iload_n 2, 1) := by decide +kernel
theorem dX7_leaves_42 : decode cX7_leaves 42 = .ok (.invokevirtual 153, 3) := by decide +kernel
theorem dX7_leaves_45 : decode cX7_leaves 45 = .ok (.aload_n 0, 1) := by decide +kernel
theorem dX7_leaves_46 : decode cX7_leaves 46 = .ok (.iload_n 1, 1) := by decide +kernel
theorem dX7_leaves_47 : decode cX7_leaves 47 = .ok (.invokevirtual 153, 3) := by decide +kernel
theorem dX7_leaves_50 : decode cX7_leaves 50 = .ok (.dcmp .g, 1) := by decide +kernel
theorem dX7_leaves_51 : decode cX7_leaves 51 = .ok (.ifCond .ge 7, 3) := by decide +kernel
theorem dX7_leaves_54 : decode cX7_leaves 54 = .ok (.iload_n 2, 1) := by decide +kernel
theorem dX7_leaves_55 : decode cX7_leaves 55 = .ok (.goto 4, 3) := by decide +kernel
theorem dX7_leaves_58 : decode cX7_leaves 58 = .ok (.iload_n 1, 1) := by decide +kernel
theorem dX7_leaves_59 : decode cX7_leaves 59 = .ok (.istore_n 1, 1) := by decide +kernel
theorem dX7_leaves_60 : decode cX7_leaves 60 = .ok (.iinc 2 1, 3) := by decide +kernel
theorem dX7_leaves_63 : decode cX7_leaves 63 = .ok (.goto (-59), 3) := by decide +kernel
theorem dX7_leaves_66 : decode cX7_leaves 66 = .ok (.iload_n 1, 1) := by decide +kernel
theorem dX7_leaves_67 : decode cX7_leaves 67 = .ok (.iconst (-1), 1) := by decide +kernel
theorem dX7_leaves_68 : decode cX7_leaves 68 = .ok (.if_icmp .eq 20, 3) := by decide +kernel
theorem dX7_leaves_71 : decode cX7_leaves 71 = .ok (.aload_n 0, 1) := by decide +kernel
theorem dX7_leaves_72 : decode cX7_leaves 72 = .ok (.getfield 44, 3) := by decide +kernel
theorem dX7_leaves_75 : decode cX7_leaves 75 = .ok (.iload_n 1, 1) := by decide +kernel
theorem dX7_leaves_76 : decode cX7_leaves 76 = .ok (.iconst 3, 1) := by decide +kernel
theorem dX7_leaves_77 : decode cX7_leaves 77 = .ok (.iastore, 1) := by decide +kernel
theorem dX7_leaves_78 : decode cX7_leaves 78 = .ok (.aload_n 0, 1) := by decide +kernel
theorem dX7_leaves_79 : decode cX7_leaves 79 = .ok (.getfield 47, 3) := by decide +kernel
theorem dX7_leaves_82 : decode cX7_leaves 82 = .ok (.iload_n 1, 1) := by decide +kernel
theorem dX7_leaves_83 : decode cX7_leaves 83 = .ok (.aload_n 0, 1) := by decide +kernel
theorem dX7_leaves_84 : decode cX7_leaves 84 = .ok (.getfield 100, 3) := by decide +kernel
theorem dX7_leaves_87 : decode cX7_leaves 87 = .ok (.iastore, 1) := by decide +kernel
theorem dX7_leaves_88 : decode cX7_leaves 88 = .ok (.return_, 1) := by decide +kernel
theorem dX7_minute_0 : decode cX7_minute 0 = .ok (.aload_n 0, 1) := by decide +kernel
theorem dX7_minute_1 : decode cX7_minute 1 = .ok (.dup, 1) := by decide +kernel
theorem dX7_minute_2 : decode cX7_minute 2 = .ok (.getfield 100, 3) := by decide +kernel
theorem dX7_minute_5 : decode cX7_minute 5 = .ok (.iconst 1, 1) := by decide +kernel
theorem dX7_minute_6 : decode cX7_minute 6 = .ok (.iadd, 1) := by decide +kernel
theorem dX7_minute_7 : decode cX7_minute 7 = .ok (.putfield 100, 3) := by decide +kernel
theorem dX7_minute_10 : decode cX7_minute 10 = .ok (.aload_n 0, 1) := by decide +kernel
theorem dX7_minute_11 : decode cX7_minute 11 = .ok (.aload_n 0, 1) := by decide +kernel
theorem dX7_minute_12 : decode cX7_minute 12 = .ok (.getfield 100, 3) := by decide +kernel
theorem dX7_minute_15 : decode cX7_minute 15 = .ok (.sipush 1440, 3) := by decide +kernel
theorem dX7_minute_18 : decode cX7_minute 18 = .ok (.irem, 1) := by decide +kernel
theorem dX7_minute_19 : decode cX7_minute 19 = .ok (.ifCond .ne 7, 3) := by decide +kernel
theorem dX7_minute_22 : decode cX7_minute 22 = .ok (.iconst 0, 1) := by decide +kernel
theorem dX7_minute_23 : decode cX7_minute 23 = .ok (.goto 7, 3) := by decide +kernel
theorem dX7_minute_26 : decode cX7_minute 26 = .ok (.aload_n 0, 1) := by decide +kernel
theorem dX7_minute_27 : decode cX7_minute 27 = .ok (.getfield 133, 3) := by decide +kernel
theorem dX7_minute_30 : decode cX7_minute 30 = .ok (.putfield 133, 3) := by decide +kernel
theorem dX7_minute_33 : decode cX7_minute 33 = .ok (.iconst 0, 1) := by decide +kernel
theorem dX7_minute_34 : decode cX7_minute 34 = .ok (.istore_n 1, 1) := by decide +kernel
theorem dX7_minute_35 : decode cX7_minute 35 = .ok (.iload_n 1, 1) := by decide +kernel
theorem dX7_minute_36 : decode cX7_minute 36 = .ok (.iconst 3, 1) := by decide +kernel
theorem dX7_minute_37 : decode cX7_minute 37 = .ok (.if_icmp .ge 14, 3) := by decide +kernel
theorem dX7_minute_40 : decode cX7_minute 40 = .ok (.aload_n 0, 1) := by decide +kernel
theorem dX7_minute_41 : decode cX7_minute 41 = .ok (.iload_n 1, 1) := by decide +kernel
theorem dX7_minute_42 : decode cX7_minute 42 = .ok (.invokevirtual 157, 3) := by decide +kernel
theorem dX7_minute_45 : decode cX7_minute 45 = .ok (.iinc 1 1, 3) := by decide +kernel
theorem dX7_minute_48 : decode cX7_minute 48 = .ok (.goto (-13), 3) := by decide +kernel
theorem dX7_minute_51 : decode cX7_minute 51 = .ok (.aload_n 0, 1) := by decide +kernel
theorem dX7_minute_52 : decode cX7_minute 52 = .ok (.invokevirtual 160, 3) := by decide +kernel
theorem dX7_minute_55 : decode cX7_minute 55 = .ok (.ifCond .eq 7, 3) := by decide +kernel
theorem dX7_minute_58 : decode cX7_minute 58 = .ok (.aload_n 0, 1) := by decide +kernel
theorem dX7_minute_59 : decode cX7_minute 59 = .ok (.invokevirtual 164, 3) := by decide +kernel
theorem dX7_minute_62 : decode cX7_minute 62 = .ok (.iconst 0, 1) := by decide +kernel
theorem dX7_minute_63 : decode cX7_minute 63 = .ok (.istore_n 1, 1) := by decide +kernel
theorem dX7_minute_64 : decode cX7_minute 64 = .ok (.iload_n 1, 1) := by decide +kernel
theorem dX7_minute_65 : decode cX7_minute 65 = .ok (.aload_n 0, 1) := by decide +kernel
theorem dX7_minute_66 : decode cX7_minute 66 = .ok (.getfield 81, 3) := by decide +kernel
theorem dX7_minute_69 : decode cX7_minute 69 = .ok (.if_icmp .ge 14, 3) := by decide +kernel
theorem dX7_minute_72 : decode cX7_minute 72 = .ok (.aload_n 0, 1) := by decide +kernel
theorem dX7_minute_73 : decode cX7_minute 73 = .ok (.iload_n 1, 1) := by decide +kernel
theorem dX7_minute_74 : decode cX7_minute 74 = .ok (.invokevirtual 166, 3) := by decide +kernel
theorem dX7_minute_77 : decode cX7_minute 77 = .ok (.iinc 1 1, 3) := by decide +kernel
theorem dX7_minute_80 : decode cX7_minute 80 = .ok (.goto (-16), 3) := by decide +kernel
theorem dX7_minute_83 : decode cX7_minute 83 = .ok (.aload_n 0, 1) := by decide +kernel
theorem dX7_minute_84 : decode cX7_minute 84 = .ok (.getfield 126, 3) := by decide +kernel
theorem dX7_minute_87 : decode cX7_minute 87 = .ok (.iconst 3, 1) := by decide +kernel
theorem dX7_minute_88 : decode cX7_minute 88 = .ok (.if_icmp .ge 10, 3) := by decide +kernel
theorem dX7_minute_91 : decode cX7_minute 91 = .ok (.aload_n 0, 1) := by decide +kernel
theorem dX7_minute_92 : decode cX7_minute 92 = .ok (.getfield 126, 3) := by decide +kernel
theorem dX7_minute_95 : decode cX7_minute 95 = .ok (.goto 4, 3) := by decide +kernel
theorem dX7_minute_98 : decode cX7_minute 98 = .ok (.iconst 3, 1) := by decide +kernel
theorem dX7_minute_99 : decode cX7_minute 99 = .ok (.istore_n 1, 1) := by decide +kernel
theorem dX7_minute_100 : decode cX7_minute 100 = .ok (.aload_n 0, 1) := by decide +kernel
theorem dX7_minute_101 : decode cX7_minute 101 = .ok (.dup, 1) := by decide +kernel
theorem dX7_minute_102 : decode cX7_minute 102 = .ok (.getfield 126, 3) := by decide +kernel
theorem dX7_minute_105 : decode cX7_minute 105 = .ok (.iload_n 1, 1) := by decide +kernel
theorem dX7_minute_106 : decode cX7_minute 106 = .ok (.isub, 1) := by decide +kernel
theorem dX7_minute_107 : decode cX7_minute 107 = .ok (.putfield 126, 3) := by decide +kernel
theorem dX7_minute_110 : decode cX7_minute 110 = .ok (.aload_n 0, 1) := by decide +kernel
theorem dX7_minute_111 : decode cX7_minute 111 = .ok (.dup, 1) := by decide +kernel
theorem dX7_minute_112 : decode cX7_minute 112 = .ok (.getfield 169, 3) := by decide +kernel
theorem dX7_minute_115 : decode cX7_minute 115 = .ok (.iload_n 1, 1) := by decide +kernel
theorem dX7_minute_116 : decode cX7_minute 116 = .ok (.iadd, 1) := by decide +kernel
theorem dX7_minute_117 : decode cX7_minute 117 = .ok (.putfield 169, 3) := by decide +kernel
theorem dX7_minute_120 : decode cX7_minute 120 = .ok (.iconst 0, 1) := by decide +kernel
theorem dX7_minute_121 : decode cX7_minute 121 = .ok (.istore_n 2, 1) := by decide +kernel
theorem dX7_minute_122 : decode cX7_minute 122 = .ok (.iload_n 2, 1) := by decide +kernel
theorem dX7_minute_123 : decode cX7_minute 123 = .ok (.aload_n 0, 1) := by decide +kernel
theorem dX7_minute_124 : decode cX7_minute 124 = .ok (.getfield 81, 3) := by decide +kernel
theorem dX7_minute_127 : decode cX7_minute 127 = .ok (.if_icmp .ge 47, 3) := by decide +kernel
theorem dX7_minute_130 : decode cX7_minute 130 = .ok (.aload_n 0, 1) := by decide +kernel
theorem dX7_minute_131 : decode cX7_minute 131 = .ok (.getfield 44, 3) := by decide +kernel
theorem dX7_minute_134 : decode cX7_minute 134 = .ok (.iload_n 2, 1) := by decide +kernel
theorem dX7_minute_135 : decode cX7_minute 135 = .ok (.iaload, 1) := by decide +kernel
theorem dX7_minute_136 : decode cX7_minute 136 = .ok (.iconst 3, 1) := by decide +kernel
theorem dX7_minute_137 : decode cX7_minute 137 = .ok (.if_icmp .eq 31, 3) := by decide +kernel
theorem dX7_minute_140 : decode cX7_minute 140 = .ok (.aload_n 0, 1) := by decide +kernel
theorem dX7_minute_141 : decode cX7_minute 141 = .ok (.getfield 44, 3) := by decide +kernel
theorem dX7_minute_144 : decode cX7_minute 144 = .ok (.iload_n 2, 1) := by decide +kernel
theorem dX7_minute_145 : decode cX7_minute 145 = .ok (.iaload, 1) := by decide +kernel
theorem dX7_minute_146 : decode cX7_minute 146 = .ok (.iconst 4, 1) := by decide +kernel
theorem dX7_minute_147 : decode cX7_minute 147 = .ok (.if_icmp .eq 21, 3) := by decide +kernel
theorem dX7_minute_150 : decode cX7_minute 150 = .ok (.aload_n 0, 1) := by decide +kernel
theorem dX7_minute_151 : decode cX7_minute 151 = .ok (.getfield 41, 3) := by decide +kernel
theorem dX7_minute_154 : decode cX7_minute 154 = .ok (.iload_n 2, 1) := by decide +kernel
theorem dX7_minute_155 : decode cX7_minute 155 = .ok (.iaload, 1) := by decide +kernel
theorem dX7_minute_156 : decode cX7_minute 156 = .ok (.aload_n 0, 1) := by decide +kernel
theorem dX7_minute_157 : decode cX7_minute 157 = .ok (.getfield 100, 3) := by decide +kernel
theorem dX7_minute_160 : decode cX7_minute 160 = .ok (.if_icmp .ge 8, 3) := by decide +kernel
theorem dX7_minute_163 : decode cX7_minute 163 = .ok (.aload_n 0, 1) := by decide +kernel
theorem dX7_minute_164 : decode cX7_minute 164 = .ok (.iload_n 2, 1) := by decide +kernel
theorem dX7_minute_165 : decode cX7_minute 165 = .ok (.invokevirtual 129, 3) := by decide +kernel
theorem dX7_minute_168 : decode cX7_minute 168 = .ok (.iinc 2 1, 3) := by decide +kernel
theorem dX7_minute_171 : decode cX7_minute 171 = .ok (.goto (-49), 3) := by decide +kernel
theorem dX7_minute_174 : decode cX7_minute 174 = .ok (.iconst 0, 1) := by decide +kernel
theorem dX7_minute_175 : decode cX7_minute 175 = .ok (.istore_n 2, 1) := by decide +kernel
theorem dX7_minute_176 : decode cX7_minute 176 = .ok (.iload_n 2, 1) := by decide +kernel
theorem dX7_minute_177 : decode cX7_minute 177 = .ok (.aload_n 0, 1) := by decide +kernel
theorem dX7_minute_178 : decode cX7_minute 178 = .ok (.getfield 81, 3) := by decide +kernel
theorem dX7_minute_181 : decode cX7_minute 181 = .ok (.if_icmp .ge 45, 3) := by decide +kernel
theorem dX7_minute_184 : decode cX7_minute 184 = .ok (.aload_n 0, 1) := by decide +kernel
theorem dX7_minute_185 : decode cX7_minute 185 = .ok (.getfield 44, 3) := by decide +kernel
theorem dX7_minute_188 : decode cX7_minute 188 = .ok (.iload_n 2, 1) := by decide +kernel
theorem dX7_minute_189 : decode cX7_minute 189 = .ok (.aload_n 0, 1) := by decide +kernel
theorem dX7_minute_190 : decode cX7_minute 190 = .ok (.getfield 44, 3) := by decide +kernel
theorem dX7_minute_193 : decode cX7_minute 193 = .ok (.iload_n 2, 1) := by decide +kernel
theorem dX7_minute_194 : decode cX7_minute 194 = .ok (.iaload, 1) := by decide +kernel
theorem dX7_minute_195 : decode cX7_minute 195 = .ok (.iconst 2, 1) := by decide +kernel
theorem dX7_minute_196 : decode cX7_minute 196 = .ok (.if_icmp .ne 17, 3) := by decide +kernel
theorem dX7_minute_199 : decode cX7_minute 199 = .ok (.aload_n 0, 1) := by decide +kernel
theorem dX7_minute_200 : decode cX7_minute 200 = .ok (.iload_n 2, 1) := by decide +kernel
theorem dX7_minute_201 : decode cX7_minute 201 = .ok (.invokevirtual 153, 3) := by decide +kernel
theorem dX7_minute_204 : decode cX7_minute 204 = .ok (.dconst 0, 1) := by decide +kernel
theorem dX7_minute_205 : decode cX7_minute 205 = .ok (.dcmp .g, 1) := by decide +kernel
theorem dX7_minute_206 : decode cX7_minute 206 = .ok (.ifCond .ge 7, 3) := by decide +kernel
theorem dX7_minute_209 : decode cX7_minute 209 = .ok (.iconst 0, 1) := by decide +kernel
theorem dX7_minute_210 : decode cX7_minute 210 = .ok (.goto 9, 3) := by decide +kernel
theorem dX7_minute_213 : decode cX7_minute 213 = .ok (.aload_n 0, 1) := by decide +kernel
theorem dX7_minute_214 : decode cX7_minute 214 = .ok (.getfield 44, 3) := by decide +kernel
theorem dX7_minute_217 : decode cX7_minute 217 = .ok (.iload_n 2, 1) := by decide +kernel
theorem dX7_minute_218 : decode cX7_minute 218 = .ok (.iaload, 1) := by decide +kernel
theorem dX7_minute_219 : decode cX7_minute 219 = .ok (.iastore, 1) := by decide +kernel
theorem dX7_minute_220 : decode cX7_minute 220 = .ok (.iinc 2 1, 3) := by decide +kernel
theorem dX7_minute_223 : decode cX7_minute 223 = .ok (.goto (-47), 3) := by decide +kernel
theorem dX7_minute_226 : decode cX7_minute 226 = .ok (.aload_n 0, 1) := by decide +kernel
theorem dX7_minute_227 : decode cX7_minute 227 = .ok (.invokevirtual 160, 3) := by decide +kernel
theorem dX7_minute_230 : decode cX7_minute 230 = .ok (.ifCond .ne 14, 3) := by decide +kernel
theorem dX7_minute_233 : decode cX7_minute 233 = .ok (.aload_n 0, 1) := by decide +kernel
theorem dX7_minute_234 : decode cX7_minute 234 = .ok (.invokevirtual 172, 3) := by decide +kernel
theorem dX7_minute_237 : decode cX7_minute 237 = .ok (.ifCond .eq 7, 3) := by decide +kernel
theorem dX7_minute_240 : decode cX7_minute 240 = .ok (.aload_n 0, 1) := by decide +kernel
theorem dX7_minute_241 : decode cX7_minute 241 = .ok (.invokevirtual 175, 3) := by decide +kernel
theorem dX7_minute_244 : decode cX7_minute 244 = .ok (.return_, 1) := by decide +kernel
theorem dX7_pass_0 : decode cX7_pass 0 = .ok (.aload_n 0, 1) := by decide +kernel
theorem dX7_pass_1 : decode cX7_pass 1 = .ok (.iload_n 1, 1) := by decide +kernel
theorem dX7_pass_2 : decode cX7_pass 2 = .ok (.iconst 1, 1) := by decide +kernel
theorem dX7_pass_3 : decode cX7_pass 3 = .ok (.sipush 500, 3) := by decide +kernel
theorem dX7_pass_6 : decode cX7_pass 6 = .ok (.invokestatic 77, 3) := by decide +kernel
theorem dX7_pass_9 : decode cX7_pass 9 = .ok (.ifCond .eq 7, 3) := by decide +kernel
theorem dX7_pass_12 : decode cX7_pass 12 = .ok (.iconst 0, 1) := by decide +kernel
theorem dX7_pass_13 : decode cX7_pass 13 = .ok (.goto 4, 3) := by decide +kernel
theorem dX7_pass_16 : decode cX7_pass 16 = .ok (.iconst 1, 1) := by decide +kernel
theorem dX7_pass_17 : decode cX7_pass 17 = .ok (.putfield 74, 3) := by decide +kernel
theorem dX7_pass_20 : decode cX7_pass 20 = .ok (.iconst 0, 1) := by decide +kernel
theorem dX7_pass_21 : decode cX7_pass 21 = .ok (.istore_n 2, 1) := by decide +kernel
theorem dX7_pass_22 : decode cX7_pass 22 = .ok (.iload_n 2, 1) := by decide +kernel
theorem dX7_pass_23 : decode cX7_pass 23 = .ok (.iload_n 1, 1) := by decide +kernel
theorem dX7_pass_24 : decode cX7_pass 24 = .ok (.if_icmp .ge 20, 3) := by decide +kernel
theorem dX7_pass_27 : decode cX7_pass 27 = .ok (.aload_n 0, 1) := by decide +kernel
theorem dX7_pass_28 : decode cX7_pass 28 = .ok (.getfield 74, 3) := by decide +kernel
theorem dX7_pass_31 : decode cX7_pass 31 = .ok (.ifCond .ne 13, 3) := by decide +kernel
theorem dX7_pass_34 : decode cX7_pass 34 = .ok (.aload_n 0, 1) := by decide +kernel
theorem dX7_pass_35 : decode cX7_pass 35 = .ok (.invokevirtual 178, 3) := by decide +kernel
theorem dX7_pass_38 : decode cX7_pass 38 = .ok (.iinc 2 1, 3) := by decide +kernel
theorem dX7_pass_41 : decode cX7_pass 41 = .ok (.goto (-19), 3) := by decide +kernel
theorem dX7_pass_44 : decode cX7_pass 44 = .ok (.aload_n 0, 1) := by decide +kernel
theorem dX7_pass_45 : decode cX7_pass 45 = .ok (.getfield 74, 3) := by decide +kernel
theorem dX7_pass_48 : decode cX7_pass 48 = .ok (.ifCond .le 7, 3) := by decide +kernel
theorem dX7_pass_51 : decode cX7_pass 51 = .ok (.iconst 0, 1) := by decide +kernel
theorem dX7_pass_52 : decode cX7_pass 52 = .ok (.goto 7, 3) := by decide +kernel
theorem dX7_pass_55 : decode cX7_pass 55 = .ok (.aload_n 0, 1) := by decide +kernel
theorem dX7_pass_56 : decode cX7_pass 56 = .ok (.getfield 100, 3) := by decide +kernel
theorem dX7_pass_59 : decode cX7_pass 59 = .ok (.ireturn, 1) := by decide +kernel
theorem dX7_code_0 : decode cX7_code 0 = .ok (.aload_n 0, 1) := by decide +kernel
theorem dX7_code_1 : decode cX7_code 1 = .ok (.iload_n 1, 1) := by decide +kernel
theorem dX7_code_2 : decode cX7_code 2 = .ok (.invokestatic 96, 3) := by decide +kernel
theorem dX7_code_5 : decode cX7_code 5 = .ok (.ifCond .eq 7, 3) := by decide +kernel
theorem dX7_code_8 : decode cX7_code 8 = .ok (.iconst 0, 1) := by decide +kernel
theorem dX7_code_9 : decode cX7_code 9 = .ok (.goto 4, 3) := by decide +kernel
theorem dX7_code_12 : decode cX7_code 12 = .ok (.iconst 1, 1) := by decide +kernel
theorem dX7_code_13 : decode cX7_code 13 = .ok (.putfield 74, 3) := by decide +kernel
theorem dX7_code_16 : decode cX7_code 16 = .ok (.aload_n 0, 1) := by decide +kernel
theorem dX7_code_17 : decode cX7_code 17 = .ok (.getfield 74, 3) := by decide +kernel
theorem dX7_code_20 : decode cX7_code 20 = .ok (.ifCond .le 7, 3) := by decide +kernel
theorem dX7_code_23 : decode cX7_code 23 = .ok (.iconst 0, 1) := by decide +kernel
theorem dX7_code_24 : decode cX7_code 24 = .ok (.goto 8, 3) := by decide +kernel
theorem dX7_code_27 : decode cX7_code 27 = .ok (.aload_n 0, 1) := by decide +kernel
theorem dX7_code_28 : decode cX7_code 28 = .ok (.iload_n 1, 1) := by decide +kernel
theorem dX7_code_29 : decode cX7_code 29 = .ok (.invokevirtual 110, 3) := by decide +kernel
theorem dX7_code_32 : decode cX7_code 32 = .ok (.ireturn, 1) := by decide +kernel
theorem dX7_thirdOf_0 : decode cX7_thirdOf 0 = .ok (.aload_n 0, 1) := by decide +kernel
theorem dX7_thirdOf_1 : decode cX7_thirdOf 1 = .ok (.iload_n 1, 1) := by decide +kernel
theorem dX7_thirdOf_2 : decode cX7_thirdOf 2 = .ok (.invokestatic 96, 3) := by decide +kernel
theorem dX7_thirdOf_5 : decode cX7_thirdOf 5 = .ok (.ifCond .ne 7, 3) := by decide +kernel
theorem dX7_thirdOf_8 : decode cX7_thirdOf 8 = .ok (.iconst 1, 1) := by decide +kernel
theorem dX7_thirdOf_9 : decode cX7_thirdOf 9 = .ok (.goto 17, 3) := by decide +kernel
theorem dX7_thirdOf_12 : decode cX7_thirdOf 12 = .ok (.iload_n 2, 1) := by decide +kernel
theorem dX7_thirdOf_13 : decode cX7_thirdOf 13 = .ok (.iconst 0, 1) := by decide +kernel
theorem dX7_thirdOf_14 : decode cX7_thirdOf 14 = .ok (.iconst 3, 1) := by decide +kernel
theorem dX7_thirdOf_15 : decode cX7_thirdOf 15 = .ok (.invokestatic 77, 3) := by decide +kernel
theorem dX7_thirdOf_18 : decode cX7_thirdOf 18 = .ok (.ifCond .eq 7, 3) := by decide +kernel
theorem dX7_thirdOf_21 : decode cX7_thirdOf 21 = .ok (.iconst 0, 1) := by decide +kernel
theorem dX7_thirdOf_22 : decode cX7_thirdOf 22 = .ok (.goto 4, 3) := by decide +kernel
theorem dX7_thirdOf_25 : decode cX7_thirdOf 25 = .ok (.iconst 2, 1) := by decide +kernel
theorem dX7_thirdOf_26 : decode cX7_thirdOf 26 = .ok (.putfield 74, 3) := by decide +kernel
theorem dX7_thirdOf_29 : decode cX7_thirdOf 29 = .ok (.aload_n 0, 1) := by decide +kernel
theorem dX7_thirdOf_30 : decode cX7_thirdOf 30 = .ok (.getfield 74, 3) := by decide +kernel
theorem dX7_thirdOf_33 : decode cX7_thirdOf 33 = .ok (.ifCond .le 5, 3) := by decide +kernel
theorem dX7_thirdOf_36 : decode cX7_thirdOf 36 = .ok (.iconst 0, 1) := by decide +kernel
theorem dX7_thirdOf_37 : decode cX7_thirdOf 37 = .ok (.ireturn, 1) := by decide +kernel
theorem dX7_thirdOf_38 : decode cX7_thirdOf 38 = .ok (.iload_n 2, 1) := by decide +kernel
theorem dX7_thirdOf_39 : decode cX7_thirdOf 39 = .ok (.ifCond .ne 12, 3) := by decide +kernel
theorem dX7_thirdOf_42 : decode cX7_thirdOf 42 = .ok (.aload_n 0, 1) := by decide +kernel
theorem dX7_thirdOf_43 : decode cX7_thirdOf 43 = .ok (.getfield 7, 3) := by decide +kernel
theorem dX7_thirdOf_46 : decode cX7_thirdOf 46 = .ok (.iload_n 1, 1) := by decide +kernel
theorem dX7_thirdOf_47 : decode cX7_thirdOf 47 = .ok (.iaload, 1) := by decide +kernel
theorem dX7_thirdOf_48 : decode cX7_thirdOf 48 = .ok (.goto 43, 3) := by decide +kernel
theorem dX7_thirdOf_51 : decode cX7_thirdOf 51 = .ok (.iload_n 2, 1) := by decide +kernel
theorem dX7_thirdOf_52 : decode cX7_thirdOf 52 = .ok (.iconst 1, 1) := by decide +kernel
theorem dX7_thirdOf_53 : decode cX7_thirdOf 53 = .ok (.if_icmp .ne 12, 3) := by decide +kernel
theorem dX7_thirdOf_56 : decode cX7_thirdOf 56 = .ok (.aload_n 0, 1) := by decide +kernel
theorem dX7_thirdOf_57 : decode cX7_thirdOf 57 = .ok (.getfield 13, 3) := by decide +kernel
theorem dX7_thirdOf_60 : decode cX7_thirdOf 60 = .ok (.iload_n 1, 1) := by decide +kernel
theorem dX7_thirdOf_61 : decode cX7_thirdOf 61 = .ok (.iaload, 1) := by decide +kernel
theorem dX7_thirdOf_62 : decode cX7_thirdOf 62 = .ok (.goto 29, 3) := by decide +kernel
theorem dX7_thirdOf_65 : decode cX7_thirdOf 65 = .ok (.iload_n 2, 1) := by decide +kernel
theorem dX7_thirdOf_66 : decode cX7_thirdOf 66 = .ok (.iconst 2, 1) := by decide +kernel
theorem dX7_thirdOf_67 : decode cX7_thirdOf 67 = .ok (.if_icmp .ne 19, 3) := by decide +kernel
theorem dX7_thirdOf_70 : decode cX7_thirdOf 70 = .ok (.aload_n 0, 1) := by decide +kernel
theorem dX7_thirdOf_71 : decode cX7_thirdOf 71 = .ok (.iload_n 1, 1) := by decide +kernel
theorem dX7_thirdOf_72 : decode cX7_thirdOf 72 = .ok (.invokevirtual 139, 3) := by decide +kernel
theorem dX7_thirdOf_75 : decode cX7_thirdOf 75 = .ok (.ifCond .eq 7, 3) := by decide +kernel
theorem dX7_thirdOf_78 : decode cX7_thirdOf 78 = .ok (.iconst 1, 1) := by decide +kernel
theorem dX7_thirdOf_79 : decode cX7_thirdOf 79 = .ok (.goto 12, 3) := by decide +kernel
theorem dX7_thirdOf_82 : decode cX7_thirdOf 82 = .ok (.iconst 0, 1) := by decide +kernel
theorem dX7_thirdOf_83 : decode cX7_thirdOf 83 = .ok (.goto 8, 3) := by decide +kernel
theorem dX7_thirdOf_86 : decode cX7_thirdOf 86 = .ok (.aload_n 0, 1) := by decide +kernel
theorem dX7_thirdOf_87 : decode cX7_thirdOf 87 = .ok (.iload_n 1, 1) := by decide +kernel
theorem dX7_thirdOf_88 : decode cX7_thirdOf 88 = .ok (.invokevirtual 106, 3) := by decide +kernel
theorem dX7_thirdOf_91 : decode cX7_thirdOf 91 = .ok (.ireturn, 1) := by decide +kernel
theorem dX7_isGood_0 : decode cX7_isGood 0 = .ok (.aload_n 0, 1) := by decide +kernel
theorem dX7_isGood_1 : decode cX7_isGood 1 = .ok (.iconst 0, 1) := by decide +kernel
theorem dX7_isGood_2 : decode cX7_isGood 2 = .ok (.putfield 74, 3) := by decide +kernel
theorem dX7_isGood_5 : decode cX7_isGood 5 = .ok (.aload_n 0, 1) := by decide +kernel
theorem dX7_isGood_6 : decode cX7_isGood 6 = .ok (.invokevirtual 160, 3) := by decide +kernel
theorem dX7_isGood_9 : decode cX7_isGood 9 = .ok (.ifCond .ne 14, 3) := by decide +kernel
theorem dX7_isGood_12 : decode cX7_isGood 12 = .ok (.aload_n 0, 1) := by decide +kernel
theorem dX7_isGood_13 : decode cX7_isGood 13 = .ok (.invokevirtual 172, 3) := by decide +kernel
theorem dX7_isGood_16 : decode cX7_isGood 16 = .ok (.ifCond .eq 7, 3) := by decide +kernel
theorem dX7_isGood_19 : decode cX7_isGood 19 = .ok (.iconst 1, 1) := by decide +kernel
theorem dX7_isGood_20 : decode cX7_isGood 20 = .ok (.goto 4, 3) := by decide +kernel
theorem dX7_isGood_23 : decode cX7_isGood 23 = .ok (.iconst 0, 1) := by decide +kernel
theorem dX7_isGood_24 : decode cX7_isGood 24 = .ok (.ireturn, 1) := by decide +kernel
theorem dX7_aircraftOf_0 : decode cX7_aircraftOf 0 = .ok (.aload_n 0, 1) := by decide +kernel
theorem dX7_aircraftOf_1 : decode cX7_aircraftOf 1 = .ok (.aload_n 0, 1) := by decide +kernel
theorem dX7_aircraftOf_2 : decode cX7_aircraftOf 2 = .ok (.iload_n 1, 1) := by decide +kernel
theorem dX7_aircraftOf_3 : decode cX7_aircraftOf 3 = .ok (.invokevirtual 120, 3) := by decide +kernel
theorem dX7_aircraftOf_6 : decode cX7_aircraftOf 6 = .ok (.ifCond .ne 7, 3) := by decide +kernel
theorem dX7_aircraftOf_9 : decode cX7_aircraftOf 9 = .ok (.iconst 1, 1) := by decide +kernel
theorem dX7_aircraftOf_10 : decode cX7_aircraftOf 10 = .ok (.goto 17, 3) := by decide +kernel
theorem dX7_aircraftOf_13 : decode cX7_aircraftOf 13 = .ok (.iload_n 2, 1) := by decide +kernel
theorem dX7_aircraftOf_14 : decode cX7_aircraftOf 14 = .ok (.iconst 0, 1) := by decide +kernel
theorem dX7_aircraftOf_15 : decode cX7_aircraftOf 15 = .ok (.iconst 4, 1) := by decide +kernel
theorem dX7_aircraftOf_16 : decode cX7_aircraftOf 16 = .ok (.invokestatic 77, 3) := by decide +kernel
theorem dX7_aircraftOf_19 : decode cX7_aircraftOf 19 = .ok (.ifCond .eq 7, 3) := by decide +kernel
theorem dX7_aircraftOf_22 : decode cX7_aircraftOf 22 = .ok (.iconst 0, 1) := by decide +kernel
theorem dX7_aircraftOf_23 : decode cX7_aircraftOf 23 = .ok (.goto 4, 3) := by decide +kernel
theorem dX7_aircraftOf_26 : decode cX7_aircraftOf 26 = .ok (.iconst 2, 1) := by decide +kernel
theorem dX7_aircraftOf_27 : decode cX7_aircraftOf 27 = .ok (.putfield 74, 3) := by decide +kernel
theorem dX7_aircraftOf_30 : decode cX7_aircraftOf 30 = .ok (.aload_n 0, 1) := by decide +kernel
theorem dX7_aircraftOf_31 : decode cX7_aircraftOf 31 = .ok (.getfield 74, 3) := by decide +kernel
theorem dX7_aircraftOf_34 : decode cX7_aircraftOf 34 = .ok (.ifCond .le 5, 3) := by decide +kernel
theorem dX7_aircraftOf_37 : decode cX7_aircraftOf 37 = .ok (.iconst 0, 1) := by decide +kernel
theorem dX7_aircraftOf_38 : decode cX7_aircraftOf 38 = .ok (.ireturn, 1) := by decide +kernel
theorem dX7_aircraftOf_39 : decode cX7_aircraftOf 39 = .ok (.iload_n 2, 1) := by decide +kernel
theorem dX7_aircraftOf_40 : decode cX7_aircraftOf 40 = .ok (.iconst 2, 1) := by decide +kernel
theorem dX7_aircraftOf_41 : decode cX7_aircraftOf 41 = .ok (.if_icmp .ge 23, 3) := by decide +kernel
theorem dX7_aircraftOf_44 : decode cX7_aircraftOf 44 = .ok (.iload_n 2, 1) := by decide +kernel
theorem dX7_aircraftOf_45 : decode cX7_aircraftOf 45 = .ok (.ifCond .ne 12, 3) := by decide +kernel
theorem dX7_aircraftOf_48 : decode cX7_aircraftOf 48 = .ok (.aload_n 0, 1) := by decide +kernel
theorem dX7_aircraftOf_49 : decode cX7_aircraftOf 49 = .ok (.getfield 44, 3) := by decide +kernel
theorem dX7_aircraftOf_52 : decode cX7_aircraftOf 52 = .ok (.iload_n 1, 1) := by decide +kernel
theorem dX7_aircraftOf_53 : decode cX7_aircraftOf 53 = .ok (.iaload, 1) := by decide +kernel
theorem dX7_aircraftOf_54 : decode cX7_aircraftOf 54 = .ok (.goto 9, 3) := by decide +kernel
theorem dX7_aircraftOf_57 : decode cX7_aircraftOf 57 = .ok (.aload_n 0, 1) := by decide +kernel
theorem dX7_aircraftOf_58 : decode cX7_aircraftOf 58 = .ok (.getfield 47, 3) := by decide +kernel
theorem dX7_aircraftOf_61 : decode cX7_aircraftOf 61 = .ok (.iload_n 1, 1) := by decide +kernel
theorem dX7_aircraftOf_62 : decode cX7_aircraftOf 62 = .ok (.iaload, 1) := by decide +kernel
theorem dX7_aircraftOf_63 : decode cX7_aircraftOf 63 = .ok (.ireturn, 1) := by decide +kernel
theorem dX7_aircraftOf_64 : decode cX7_aircraftOf 64 = .ok (.iload_n 2, 1) := by decide +kernel
theorem dX7_aircraftOf_65 : decode cX7_aircraftOf 65 = .ok (.iconst 2, 1) := by decide +kernel
theorem dX7_aircraftOf_66 : decode cX7_aircraftOf 66 = .ok (.if_icmp .ne 12, 3) := by decide +kernel
theorem dX7_aircraftOf_69 : decode cX7_aircraftOf 69 = .ok (.aload_n 0, 1) := by decide +kernel
theorem dX7_aircraftOf_70 : decode cX7_aircraftOf 70 = .ok (.getfield 50, 3) := by decide +kernel
theorem dX7_aircraftOf_73 : decode cX7_aircraftOf 73 = .ok (.iload_n 1, 1) := by decide +kernel
theorem dX7_aircraftOf_74 : decode cX7_aircraftOf 74 = .ok (.iaload, 1) := by decide +kernel
theorem dX7_aircraftOf_75 : decode cX7_aircraftOf 75 = .ok (.goto 23, 3) := by decide +kernel
theorem dX7_aircraftOf_78 : decode cX7_aircraftOf 78 = .ok (.iload_n 2, 1) := by decide +kernel
theorem dX7_aircraftOf_79 : decode cX7_aircraftOf 79 = .ok (.iconst 3, 1) := by decide +kernel
theorem dX7_aircraftOf_80 : decode cX7_aircraftOf 80 = .ok (.if_icmp .ne 12, 3) := by decide +kernel
theorem dX7_aircraftOf_83 : decode cX7_aircraftOf 83 = .ok (.aload_n 0, 1) := by decide +kernel
theorem dX7_aircraftOf_84 : decode cX7_aircraftOf 84 = .ok (.getfield 53, 3) := by decide +kernel
theorem dX7_aircraftOf_87 : decode cX7_aircraftOf 87 = .ok (.iload_n 1, 1) := by decide +kernel
theorem dX7_aircraftOf_88 : decode cX7_aircraftOf 88 = .ok (.iaload, 1) := by decide +kernel
theorem dX7_aircraftOf_89 : decode cX7_aircraftOf 89 = .ok (.goto 9, 3) := by decide +kernel
theorem dX7_aircraftOf_92 : decode cX7_aircraftOf 92 = .ok (.aload_n 0, 1) := by decide +kernel
theorem dX7_aircraftOf_93 : decode cX7_aircraftOf 93 = .ok (.getfield 56, 3) := by decide +kernel
theorem dX7_aircraftOf_96 : decode cX7_aircraftOf 96 = .ok (.iload_n 1, 1) := by decide +kernel
theorem dX7_aircraftOf_97 : decode cX7_aircraftOf 97 = .ok (.iaload, 1) := by decide +kernel
theorem dX7_aircraftOf_98 : decode cX7_aircraftOf 98 = .ok (.ireturn, 1) := by decide +kernel
theorem dX7_clock_0 : decode cX7_clock 0 = .ok (.aload_n 0, 1) := by decide +kernel
theorem dX7_clock_1 : decode cX7_clock 1 = .ok (.aload_n 0, 1) := by decide +kernel
theorem dX7_clock_2 : decode cX7_clock 2 = .ok (.iload_n 1, 1) := by decide +kernel
theorem dX7_clock_3 : decode cX7_clock 3 = .ok (.invokevirtual 120, 3) := by decide +kernel
theorem dX7_clock_6 : decode cX7_clock 6 = .ok (.ifCond .ne 7, 3) := by decide +kernel
theorem dX7_clock_9 : decode cX7_clock 9 = .ok (.iconst 1, 1) := by decide +kernel
theorem dX7_clock_10 : decode cX7_clock 10 = .ok (.goto 17, 3) := by decide +kernel
theorem dX7_clock_13 : decode cX7_clock 13 = .ok (.aload_n 0, 1) := by decide +kernel
theorem dX7_clock_14 : decode cX7_clock 14 = .ok (.getfield 50, 3) := by decide +kernel
theorem dX7_clock_17 : decode cX7_clock 17 = .ok (.iload_n 1, 1) := by decide +kernel
theorem dX7_clock_18 : decode cX7_clock 18 = .ok (.iaload, 1) := by decide +kernel
theorem dX7_clock_19 : decode cX7_clock 19 = .ok (.ifCond .ne 7, 3) := by decide +kernel
theorem dX7_clock_22 : decode cX7_clock 22 = .ok (.iconst 2, 1) := by decide +kernel
theorem dX7_clock_23 : decode cX7_clock 23 = .ok (.goto 4, 3) := by decide +kernel
theorem dX7_clock_26 : decode cX7_clock 26 = .ok (.iconst 0, 1) := by decide +kernel
theorem dX7_clock_27 : decode cX7_clock 27 = .ok (.putfield 74, 3) := by decide +kernel
theorem dX7_clock_30 : decode cX7_clock 30 = .ok (.aload_n 0, 1) := by decide +kernel
theorem dX7_clock_31 : decode cX7_clock 31 = .ok (.getfield 74, 3) := by decide +kernel
theorem dX7_clock_34 : decode cX7_clock 34 = .ok (.ifCond .le 7, 3) := by decide +kernel
theorem dX7_clock_37 : decode cX7_clock 37 = .ok (.dconst 0, 1) := by decide +kernel
theorem dX7_clock_38 : decode cX7_clock 38 = .ok (.goto 8, 3) := by decide +kernel
theorem dX7_clock_41 : decode cX7_clock 41 = .ok (.aload_n 0, 1) := by decide +kernel
theorem dX7_clock_42 : decode cX7_clock 42 = .ok (.iload_n 1, 1) := by decide +kernel
theorem dX7_clock_43 : decode cX7_clock 43 = .ok (.invokevirtual 153, 3) := by decide +kernel
theorem dX7_clock_46 : decode cX7_clock 46 = .ok (.dreturn, 1) := by decide +kernel
theorem dX7_whyNot_0 : decode cX7_whyNot 0 = .ok (.aload_n 0, 1) := by decide +kernel
theorem dX7_whyNot_1 : decode cX7_whyNot 1 = .ok (.aload_n 0, 1) := by decide +kernel
theorem dX7_whyNot_2 : decode cX7_whyNot 2 = .ok (.iload_n 1, 1) := by decide +kernel
theorem dX7_whyNot_3 : decode cX7_whyNot 3 = .ok (.invokevirtual 120, 3) := by decide +kernel
theorem dX7_whyNot_6 : decode cX7_whyNot 6 = .ok (.ifCond .eq 7, 3) := by decide +kernel
theorem dX7_whyNot_9 : decode cX7_whyNot 9 = .ok (.iconst 0, 1) := by decide +kernel
theorem dX7_whyNot_10 : decode cX7_whyNot 10 = .ok (.goto 4, 3) := by decide +kernel
theorem dX7_whyNot_13 : decode cX7_whyNot 13 = .ok (.iconst 1, 1) := by decide +kernel
theorem dX7_whyNot_14 : decode cX7_whyNot 14 = .ok (.putfield 74, 3) := by decide +kernel
theorem dX7_whyNot_17 : decode cX7_whyNot 17 = .ok (.aload_n 0, 1) := by decide +kernel
theorem dX7_whyNot_18 : decode cX7_whyNot 18 = .ok (.getfield 74, 3) := by decide +kernel
theorem dX7_whyNot_21 : decode cX7_whyNot 21 = .ok (.ifCond .le 5, 3) := by decide +kernel
theorem dX7_whyNot_24 : decode cX7_whyNot 24 = .ok (.iconst 0, 1) := by decide +kernel
theorem dX7_whyNot_25 : decode cX7_whyNot 25 = .ok (.ireturn, 1) := by decide +kernel
theorem dX7_whyNot_26 : decode cX7_whyNot 26 = .ok (.aload_n 0, 1) := by decide +kernel
theorem dX7_whyNot_27 : decode cX7_whyNot 27 = .ok (.getfield 44, 3) := by decide +kernel
theorem dX7_whyNot_30 : decode cX7_whyNot 30 = .ok (.iload_n 1, 1) := by decide +kernel
theorem dX7_whyNot_31 : decode cX7_whyNot 31 = .ok (.iaload, 1) := by decide +kernel
theorem dX7_whyNot_32 : decode cX7_whyNot 32 = .ok (.iconst 2, 1) := by decide +kernel
theorem dX7_whyNot_33 : decode cX7_whyNot 33 = .ok (.if_icmp .eq 5, 3) := by decide +kernel
theorem dX7_whyNot_36 : decode cX7_whyNot 36 = .ok (.iconst 1, 1) := by decide +kernel
theorem dX7_whyNot_37 : decode cX7_whyNot 37 = .ok (.ireturn, 1) := by decide +kernel
theorem dX7_whyNot_38 : decode cX7_whyNot 38 = .ok (.aload_n 0, 1) := by decide +kernel
theorem dX7_whyNot_39 : decode cX7_whyNot 39 = .ok (.getfield 38, 3) := by decide +kernel
theorem dX7_whyNot_42 : decode cX7_whyNot 42 = .ok (.iload_n 1, 1) := by decide +kernel
theorem dX7_whyNot_43 : decode cX7_whyNot 43 = .ok (.iaload, 1) := by decide +kernel
theorem dX7_whyNot_44 : decode cX7_whyNot 44 = .ok (.aload_n 0, 1) := by decide +kernel
theorem dX7_whyNot_45 : decode cX7_whyNot 45 = .ok (.getfield 100, 3) := by decide +kernel
theorem dX7_whyNot_48 : decode cX7_whyNot 48 = .ok (.if_icmp .le 7, 3) := by decide +kernel
theorem dX7_whyNot_51 : decode cX7_whyNot 51 = .ok (.iconst 2, 1) := by decide +kernel
theorem dX7_whyNot_52 : decode cX7_whyNot 52 = .ok (.goto 40, 3) := by decide +kernel
theorem dX7_whyNot_55 : decode cX7_whyNot 55 = .ok (.aload_n 0, 1) := by decide +kernel
theorem dX7_whyNot_56 : decode cX7_whyNot 56 = .ok (.iload_n 1, 1) := by decide +kernel
theorem dX7_whyNot_57 : decode cX7_whyNot 57 = .ok (.invokevirtual 153, 3) := by decide +kernel
theorem dX7_whyNot_60 : decode cX7_whyNot 60 = .ok (.dconst 0, 1) := by decide +kernel
theorem dX7_whyNot_61 : decode cX7_whyNot 61 = .ok (.dcmp .g, 1) := by decide +kernel
theorem dX7_whyNot_62 : decode cX7_whyNot 62 = .ok (.ifCond .ge 7, 3) := by decide +kernel
theorem dX7_whyNot_65 : decode cX7_whyNot 65 = .ok (.iconst 3, 1) := by decide +kernel
theorem dX7_whyNot_66 : decode cX7_whyNot 66 = .ok (.goto 26, 3) := by decide +kernel
theorem dX7_whyNot_69 : decode cX7_whyNot 69 = .ok (.aload_n 0, 1) := by decide +kernel
theorem dX7_whyNot_70 : decode cX7_whyNot 70 = .ok (.invokevirtual 160, 3) := by decide +kernel
theorem dX7_whyNot_73 : decode cX7_whyNot 73 = .ok (.ifCond .eq 7, 3) := by decide +kernel
theorem dX7_whyNot_76 : decode cX7_whyNot 76 = .ok (.iconst 4, 1) := by decide +kernel
theorem dX7_whyNot_77 : decode cX7_whyNot 77 = .ok (.goto 15, 3) := by decide +kernel
theorem dX7_whyNot_80 : decode cX7_whyNot 80 = .ok (.aload_n 0, 1) := by decide +kernel
theorem dX7_whyNot_81 : decode cX7_whyNot 81 = .ok (.invokevirtual 172, 3) := by decide +kernel
theorem dX7_whyNot_84 : decode cX7_whyNot 84 = .ok (.ifCond .eq 7, 3) := by decide +kernel
theorem dX7_whyNot_87 : decode cX7_whyNot 87 = .ok (.iconst 0, 1) := by decide +kernel
theorem dX7_whyNot_88 : decode cX7_whyNot 88 = .ok (.goto 4, 3) := by decide +kernel
theorem dX7_whyNot_91 : decode cX7_whyNot 91 = .ok (.iconst 5, 1) := by decide +kernel
theorem dX7_whyNot_92 : decode cX7_whyNot 92 = .ok (.ireturn, 1) := by decide +kernel
theorem dX7_queue_0 : decode cX7_queue 0 = .ok (.aload_n 0, 1) := by decide +kernel
theorem dX7_queue_1 : decode cX7_queue 1 = .ok (.iload_n 1, 1) := by decide +kernel
theorem dX7_queue_2 : decode cX7_queue 2 = .ok (.ifCond .lt 7, 3) := by decide +kernel
theorem dX7_queue_5 : decode cX7_queue 5 = .ok (.iconst 0, 1) := by decide +kernel
theorem dX7_queue_6 : decode cX7_queue 6 = .ok (.goto 4, 3) := by decide +kernel
theorem dX7_queue_9 : decode cX7_queue 9 = .ok (.iconst 1, 1) := by decide +kernel
theorem dX7_queue_10 : decode cX7_queue 10 = .ok (.putfield 74, 3) := by decide +kernel
theorem dX7_queue_13 : decode cX7_queue 13 = .ok (.aload_n 0, 1) := by decide +kernel
theorem dX7_queue_14 : decode cX7_queue 14 = .ok (.getfield 74, 3) := by decide +kernel
theorem dX7_queue_17 : decode cX7_queue 17 = .ok (.ifCond .le 7, 3) := by decide +kernel
theorem dX7_queue_20 : decode cX7_queue 20 = .ok (.iconst (-1), 1) := by decide +kernel
theorem dX7_queue_21 : decode cX7_queue 21 = .ok (.goto 8, 3) := by decide +kernel
theorem dX7_queue_24 : decode cX7_queue 24 = .ok (.aload_n 0, 1) := by decide +kernel
theorem dX7_queue_25 : decode cX7_queue 25 = .ok (.iconst (-1), 1) := by decide +kernel
theorem dX7_queue_26 : decode cX7_queue 26 = .ok (.invokevirtual 181, 3) := by decide +kernel
theorem dX7_queue_29 : decode cX7_queue 29 = .ok (.istore_n 2, 1) := by decide +kernel
theorem dX7_queue_30 : decode cX7_queue 30 = .ok (.iconst 0, 1) := by decide +kernel
theorem dX7_queue_31 : decode cX7_queue 31 = .ok (.istore_n 3, 1) := by decide +kernel
theorem dX7_queue_32 : decode cX7_queue 32 = .ok (.iload_n 3, 1) := by decide +kernel
theorem dX7_queue_33 : decode cX7_queue 33 = .ok (.iload_n 1, 1) := by decide +kernel
theorem dX7_queue_34 : decode cX7_queue 34 = .ok (.if_icmp .ge 27, 3) := by decide +kernel
theorem dX7_queue_37 : decode cX7_queue 37 = .ok (.iload_n 2, 1) := by decide +kernel
theorem dX7_queue_38 : decode cX7_queue 38 = .ok (.iconst (-1), 1) := by decide +kernel
theorem dX7_queue_39 : decode cX7_queue 39 = .ok (.if_icmp .eq 22, 3) := by decide +kernel
theorem dX7_queue_42 : decode cX7_queue 42 = .ok (.aload_n 0, 1) := by decide +kernel
theorem dX7_queue_43 : decode cX7_queue 43 = .ok (.getfield 74, 3) := by decide +kernel
theorem dX7_queue_46 : decode cX7_queue 46 = .ok (.ifCond .ne 15, 3) := by decide +kernel
theorem dX7_queue_49 : decode cX7_queue 49 = .ok (.aload_n 0, 1) := by decide +kernel
theorem dX7_queue_50 : decode cX7_queue 50 = .ok (.iload_n 2, 1) := by decide +kernel
theorem dX7_queue_51 : decode cX7_queue 51 = .ok (.invokevirtual 181, 3) := by decide +kernel
theorem dX7_queue_54 : decode cX7_queue 54 = .ok (.istore_n 2, 1) := by decide +kernel
theorem dX7_queue_55 : decode cX7_queue 55 = .ok (.iinc 3 1, 3) := by decide +kernel
theorem dX7_queue_58 : decode cX7_queue 58 = .ok (.goto (-26), 3) := by decide +kernel
theorem dX7_queue_61 : decode cX7_queue 61 = .ok (.aload_n 0, 1) := by decide +kernel
theorem dX7_queue_62 : decode cX7_queue 62 = .ok (.getfield 74, 3) := by decide +kernel
theorem dX7_queue_65 : decode cX7_queue 65 = .ok (.ifCond .le 7, 3) := by decide +kernel
theorem dX7_queue_68 : decode cX7_queue 68 = .ok (.iconst 0, 1) := by decide +kernel
theorem dX7_queue_69 : decode cX7_queue 69 = .ok (.goto 4, 3) := by decide +kernel
theorem dX7_queue_72 : decode cX7_queue 72 = .ok (.iload_n 2, 1) := by decide +kernel
theorem dX7_queue_73 : decode cX7_queue 73 = .ok (.ireturn, 1) := by decide +kernel
theorem dX7_sum_0 : decode cX7_sum 0 = .ok (.aload_n 0, 1) := by decide +kernel
theorem dX7_sum_1 : decode cX7_sum 1 = .ok (.iload_n 1, 1) := by decide +kernel
theorem dX7_sum_2 : decode cX7_sum 2 = .ok (.iconst 0, 1) := by decide +kernel
theorem dX7_sum_3 : decode cX7_sum 3 = .ok (.bipush 6, 2) := by decide +kernel
theorem dX7_sum_5 : decode cX7_sum 5 = .ok (.invokestatic 77, 3) := by decide +kernel
theorem dX7_sum_8 : decode cX7_sum 8 = .ok (.ifCond .eq 7, 3) := by decide +kernel
theorem dX7_sum_11 : decode cX7_sum 11 = .ok (.iconst 0, 1) := by decide +kernel
theorem dX7_sum_12 : decode cX7_sum 12 = .ok (.goto 4, 3) := by decide +kernel
theorem dX7_sum_15 : decode cX7_sum 15 = .ok (.iconst 1, 1) := by decide +kernel
theorem dX7_sum_16 : decode cX7_sum 16 = .ok (.putfield 74, 3) := by decide +kernel
theorem dX7_sum_19 : decode cX7_sum 19 = .ok (.aload_n 0, 1) := by decide +kernel
theorem dX7_sum_20 : decode cX7_sum 20 = .ok (.getfield 74, 3) := by decide +kernel
theorem dX7_sum_23 : decode cX7_sum 23 = .ok (.ifCond .le 5, 3) := by decide +kernel
theorem dX7_sum_26 : decode cX7_sum 26 = .ok (.iconst 0, 1) := by decide +kernel
theorem dX7_sum_27 : decode cX7_sum 27 = .ok (.ireturn, 1) := by decide +kernel
theorem dX7_sum_28 : decode cX7_sum 28 = .ok (.iconst 0, 1) := by decide +kernel
theorem dX7_sum_29 : decode cX7_sum 29 = .ok (.istore_n 2, 1) := by decide +kernel
theorem dX7_sum_30 : decode cX7_sum 30 = .ok (.iconst 0, 1) := by decide +kernel
theorem dX7_sum_31 : decode cX7_sum 31 = .ok (.istore_n 3, 1) := by decide +kernel
theorem dX7_sum_32 : decode cX7_sum 32 = .ok (.iload_n 3, 1) := by decide +kernel
theorem dX7_sum_33 : decode cX7_sum 33 = .ok (.aload_n 0, 1) := by decide +kernel
theorem dX7_sum_34 : decode cX7_sum 34 = .ok (.getfield 81, 3) := by decide +kernel
theorem dX7_sum_37 : decode cX7_sum 37 = .ok (.if_icmp .ge 18, 3) := by decide +kernel
theorem dX7_sum_40 : decode cX7_sum 40 = .ok (.iload_n 2, 1) := by decide +kernel
theorem dX7_sum_41 : decode cX7_sum 41 = .ok (.aload_n 0, 1) := by decide +kernel
theorem dX7_sum_42 : decode cX7_sum 42 = .ok (.getfield 53, 3) := by decide +kernel
theorem dX7_sum_45 : decode cX7_sum 45 = .ok (.iload_n 3, 1) := by decide +kernel
theorem dX7_sum_46 : decode cX7_sum 46 = .ok (.iaload, 1) := by decide +kernel
theorem dX7_sum_47 : decode cX7_sum 47 = .ok (.iadd, 1) := by decide +kernel
theorem dX7_sum_48 : decode cX7_sum 48 = .ok (.istore_n 2, 1) := by decide +kernel
theorem dX7_sum_49 : decode cX7_sum 49 = .ok (.iinc 3 1, 3) := by decide +kernel
theorem dX7_sum_52 : decode cX7_sum 52 = .ok (.goto (-20), 3) := by decide +kernel
theorem dX7_sum_55 : decode cX7_sum 55 = .ok (.iload_n 1, 1) := by decide +kernel
theorem dX7_sum_56 : decode cX7_sum 56 = .ok (.iconst 3, 1) := by decide +kernel
theorem dX7_sum_57 : decode cX7_sum 57 = .ok (.if_icmp .ge 44, 3) := by decide +kernel
theorem dX7_sum_60 : decode cX7_sum 60 = .ok (.iload_n 1, 1) := by decide +kernel
theorem dX7_sum_61 : decode cX7_sum 61 = .ok (.ifCond .ne 10, 3) := by decide +kernel
theorem dX7_sum_64 : decode cX7_sum 64 = .ok (.aload_n 0, 1) := by decide +kernel
theorem dX7_sum_65 : decode cX7_sum 65 = .ok (.getfield 117, 3) := by decide +kernel
theorem dX7_sum_68 : decode cX7_sum 68 = .ok (.goto 32, 3) := by decide +kernel
theorem dX7_sum_71 : decode cX7_sum 71 = .ok (.iload_n 1, 1) := by decide +kernel
theorem dX7_sum_72 : decode cX7_sum 72 = .ok (.iconst 1, 1) := by decide +kernel
theorem dX7_sum_73 : decode cX7_sum 73 = .ok (.if_icmp .ne 26, 3) := by decide +kernel
theorem dX7_sum_76 : decode cX7_sum 76 = .ok (.aload_n 0, 1) := by decide +kernel
theorem dX7_sum_77 : decode cX7_sum 77 = .ok (.getfield 29, 3) := by decide +kernel
theorem dX7_sum_80 : decode cX7_sum 80 = .ok (.iconst 0, 1) := by decide +kernel
theorem dX7_sum_81 : decode cX7_sum 81 = .ok (.iaload, 1) := by decide +kernel
theorem dX7_sum_82 : decode cX7_sum 82 = .ok (.aload_n 0, 1) := by decide +kernel
theorem dX7_sum_83 : decode cX7_sum 83 = .ok (.getfield 29, 3) := by decide +kernel
theorem dX7_sum_86 : decode cX7_sum 86 = .ok (.iconst 1, 1) := by decide +kernel
theorem dX7_sum_87 : decode cX7_sum 87 = .ok (.iaload, 1) := by decide +kernel
theorem dX7_sum_88 : decode cX7_sum 88 = .ok (.iadd, 1) := by decide +kernel
theorem dX7_sum_89 : decode cX7_sum 89 = .ok (.aload_n 0, 1) := by decide +kernel
theorem dX7_sum_90 : decode cX7_sum 90 = .ok (.getfield 29, 3) := by decide +kernel
theorem dX7_sum_93 : decode cX7_sum 93 = .ok (.iconst 2, 1) := by decide +kernel
theorem dX7_sum_94 : decode cX7_sum 94 = .ok (.iaload, 1) := by decide +kernel
theorem dX7_sum_95 : decode cX7_sum 95 = .ok (.iadd, 1) := by decide +kernel
theorem dX7_sum_96 : decode cX7_sum 96 = .ok (.goto 4, 3) := by decide +kernel
theorem dX7_sum_99 : decode cX7_sum 99 = .ok (.iload_n 2, 1) := by decide +kernel
theorem dX7_sum_100 : decode cX7_sum 100 = .ok (.ireturn, 1) := by decide +kernel
theorem dX7_sum_101 : decode cX7_sum 101 = .ok (.iload_n 1, 1) := by decide +kernel
theorem dX7_sum_102 : decode cX7_sum 102 = .ok (.iconst 3, 1) := by decide +kernel
theorem dX7_sum_103 : decode cX7_sum 103 = .ok (.if_icmp .ne 10, 3) := by decide +kernel
theorem dX7_sum_106 : decode cX7_sum 106 = .ok (.aload_n 0, 1) := by decide +kernel
theorem dX7_sum_107 : decode cX7_sum 107 = .ok (.getfield 126, 3) := by decide +kernel
theorem dX7_sum_110 : decode cX7_sum 110 = .ok (.goto 31, 3) := by decide +kernel
theorem dX7_sum_113 : decode cX7_sum 113 = .ok (.iload_n 1, 1) := by decide +kernel
theorem dX7_sum_114 : decode cX7_sum 114 = .ok (.iconst 4, 1) := by decide +kernel
theorem dX7_sum_115 : decode cX7_sum 115 = .ok (.if_icmp .ne 10, 3) := by decide +kernel
theorem dX7_sum_118 : decode cX7_sum 118 = .ok (.aload_n 0, 1) := by decide +kernel
theorem dX7_sum_119 : decode cX7_sum 119 = .ok (.getfield 169, 3) := by decide +kernel
theorem dX7_sum_122 : decode cX7_sum 122 = .ok (.goto 19, 3) := by decide +kernel
theorem dX7_sum_125 : decode cX7_sum 125 = .ok (.iload_n 1, 1) := by decide +kernel
theorem dX7_sum_126 : decode cX7_sum 126 = .ok (.iconst 5, 1) := by decide +kernel
theorem dX7_sum_127 : decode cX7_sum 127 = .ok (.if_icmp .ne 10, 3) := by decide +kernel
theorem dX7_sum_130 : decode cX7_sum 130 = .ok (.aload_n 0, 1) := by decide +kernel
theorem dX7_sum_131 : decode cX7_sum 131 = .ok (.getfield 136, 3) := by decide +kernel
theorem dX7_sum_134 : decode cX7_sum 134 = .ok (.goto 7, 3) := by decide +kernel
theorem dX7_sum_137 : decode cX7_sum 137 = .ok (.aload_n 0, 1) := by decide +kernel
theorem dX7_sum_138 : decode cX7_sum 138 = .ok (.getfield 142, 3) := by decide +kernel
theorem dX7_sum_141 : decode cX7_sum 141 = .ok (.ireturn, 1) := by decide +kernel
theorem dJ9_max_7cf53_0 : decode cJ9_max_7cf53 0 = .ok (.iload_n 0, 1) := by decide +kernel
theorem dJ9_max_7cf53_1 : decode cJ9_max_7cf53 1 = .ok (.iload_n 1, 1) := by decide +kernel
theorem dJ9_max_7cf53_2 : decode cJ9_max_7cf53 2 = .ok (.if_icmp .lt 7, 3) := by decide +kernel
theorem dJ9_max_7cf53_5 : decode cJ9_max_7cf53 5 = .ok (.iload_n 0, 1) := by decide +kernel
theorem dJ9_max_7cf53_6 : decode cJ9_max_7cf53 6 = .ok (.goto 4, 3) := by decide +kernel
theorem dJ9_max_7cf53_9 : decode cJ9_max_7cf53 9 = .ok (.iload_n 1, 1) := by decide +kernel
theorem dJ9_max_7cf53_10 : decode cJ9_max_7cf53 10 = .ok (.ireturn, 1) := by decide +kernel
theorem dJ9_min_7cf53_0 : decode cJ9_min_7cf53 0 = .ok (.iload_n 0, 1) := by decide +kernel
theorem dJ9_min_7cf53_1 : decode cJ9_min_7cf53 1 = .ok (.iload_n 1, 1) := by decide +kernel
theorem dJ9_min_7cf53_2 : decode cJ9_min_7cf53 2 = .ok (.if_icmp .gt 7, 3) := by decide +kernel
theorem dJ9_min_7cf53_5 : decode cJ9_min_7cf53 5 = .ok (.iload_n 0, 1) := by decide +kernel
theorem dJ9_min_7cf53_6 : decode cJ9_min_7cf53 6 = .ok (.goto 4, 3) := by decide +kernel
theorem dJ9_min_7cf53_9 : decode cJ9_min_7cf53 9 = .ok (.iload_n 1, 1) := by decide +kernel
theorem dJ9_min_7cf53_10 : decode cJ9_min_7cf53 10 = .ok (.ireturn, 1) := by decide +kernel
theorem dL_weather_0 : decode cL_weather 0 = .ok (.aload_n 0, 1) := by decide +kernel
theorem dL_weather_1 : decode cL_weather 1 = .ok (.iload_n 1, 1) := by decide +kernel
theorem dL_weather_2 : decode cL_weather 2 = .ok (.iload_n 2, 1) := by decide +kernel
theorem dL_weather_3 : decode cL_weather 3 = .ok (.iload_n 3, 1) := by decide +kernel
theorem dL_weather_4 : decode cL_weather 4 = .ok (.iload 4, 2) := by decide +kernel
theorem dL_weather_6 : decode cL_weather 6 = .ok (.invokevirtual 7, 3) := by decide +kernel
theorem dL_weather_9 : decode cL_weather 9 = .ok (.goto 7, 3) := by decide +kernel
theorem dL_weather_12 : decode cL_weather 12 = .ok (.astore 5, 2) := by decide +kernel
theorem dL_weather_14 : decode cL_weather 14 = .ok (.iconst 1, 1) := by decide +kernel
theorem dL_weather_15 : decode cL_weather 15 = .ok (.ireturn, 1) := by decide +kernel
theorem dL_weather_16 : decode cL_weather 16 = .ok (.iconst 0, 1) := by decide +kernel
theorem dL_weather_17 : decode cL_weather 17 = .ok (.ireturn, 1) := by decide +kernel
theorem dL_spray_0 : decode cL_spray 0 = .ok (.aload_n 2, 1) := by decide +kernel
theorem dL_spray_1 : decode cL_spray 1 = .ok (.iconst 0, 1) := by decide +kernel
theorem dL_spray_2 : decode cL_spray 2 = .ok (.aload_n 0, 1) := by decide +kernel
theorem dL_spray_3 : decode cL_spray 3 = .ok (.iload_n 1, 1) := by decide +kernel
theorem dL_spray_4 : decode cL_spray 4 = .ok (.invokevirtual 15, 3) := by decide +kernel
theorem dL_spray_7 : decode cL_spray 7 = .ok (.i2l, 1) := by decide +kernel
theorem dL_spray_8 : decode cL_spray 8 = .ok (.lastore, 1) := by decide +kernel
theorem dL_spray_9 : decode cL_spray 9 = .ok (.goto 6, 3) := by decide +kernel
theorem dL_spray_12 : decode cL_spray 12 = .ok (.astore_n 3, 1) := by decide +kernel
theorem dL_spray_13 : decode cL_spray 13 = .ok (.iconst 1, 1) := by decide +kernel
theorem dL_spray_14 : decode cL_spray 14 = .ok (.ireturn, 1) := by decide +kernel
theorem dL_spray_15 : decode cL_spray 15 = .ok (.iconst 0, 1) := by decide +kernel
theorem dL_spray_16 : decode cL_spray 16 = .ok (.ireturn, 1) := by decide +kernel
theorem dL_close_0 : decode cL_close 0 = .ok (.aload_n 3, 1) := by decide +kernel
theorem dL_close_1 : decode cL_close 1 = .ok (.iconst 0, 1) := by decide +kernel
theorem dL_close_2 : decode cL_close 2 = .ok (.aload_n 0, 1) := by decide +kernel
theorem dL_close_3 : decode cL_close 3 = .ok (.iload_n 1, 1) := by decide +kernel
theorem dL_close_4 : decode cL_close 4 = .ok (.iload_n 2, 1) := by decide +kernel
theorem dL_close_5 : decode cL_close 5 = .ok (.invokevirtual 21, 3) := by decide +kernel
theorem dL_close_8 : decode cL_close 8 = .ok (.i2l, 1) := by decide +kernel
theorem dL_close_9 : decode cL_close 9 = .ok (.lastore, 1) := by decide +kernel
theorem dL_close_10 : decode cL_close 10 = .ok (.goto 7, 3) := by decide +kernel
theorem dL_close_13 : decode cL_close 13 = .ok (.astore 4, 2) := by decide +kernel
theorem dL_close_15 : decode cL_close 15 = .ok (.iconst 1, 1) := by decide +kernel
theorem dL_close_16 : decode cL_close 16 = .ok (.ireturn, 1) := by decide +kernel
theorem dL_close_17 : decode cL_close 17 = .ok (.iconst 0, 1) := by decide +kernel
theorem dL_close_18 : decode cL_close 18 = .ok (.ireturn, 1) := by decide +kernel
theorem dL_pilot_0 : decode cL_pilot 0 = .ok (.aload_n 3, 1) := by decide +kernel
theorem dL_pilot_1 : decode cL_pilot 1 = .ok (.iconst 0, 1) := by decide +kernel
theorem dL_pilot_2 : decode cL_pilot 2 = .ok (.aload_n 0, 1) := by decide +kernel
theorem dL_pilot_3 : decode cL_pilot 3 = .ok (.iload_n 1, 1) := by decide +kernel
theorem dL_pilot_4 : decode cL_pilot 4 = .ok (.iload_n 2, 1) := by decide +kernel
theorem dL_pilot_5 : decode cL_pilot 5 = .ok (.invokevirtual 25, 3) := by decide +kernel
theorem dL_pilot_8 : decode cL_pilot 8 = .ok (.i2l, 1) := by decide +kernel
theorem dL_pilot_9 : decode cL_pilot 9 = .ok (.lastore, 1) := by decide +kernel
theorem dL_pilot_10 : decode cL_pilot 10 = .ok (.goto 11, 3) := by decide +kernel
theorem dL_pilot_13 : decode cL_pilot 13 = .ok (.astore 4, 2) := by decide +kernel
theorem dL_pilot_15 : decode cL_pilot 15 = .ok (.iconst 1, 1) := by decide +kernel
theorem dL_pilot_16 : decode cL_pilot 16 = .ok (.ireturn, 1) := by decide +kernel
theorem dL_pilot_17 : decode cL_pilot 17 = .ok (.astore 4, 2) := by decide +kernel
theorem dL_pilot_19 : decode cL_pilot 19 = .ok (.iconst 2, 1) := by decide +kernel
theorem dL_pilot_20 : decode cL_pilot 20 = .ok (.ireturn, 1) := by decide +kernel
theorem dL_pilot_21 : decode cL_pilot 21 = .ok (.iconst 0, 1) := by decide +kernel
theorem dL_pilot_22 : decode cL_pilot 22 = .ok (.ireturn, 1) := by decide +kernel
theorem dL_supply_0 : decode cL_supply 0 = .ok (.aload_n 3, 1) := by decide +kernel
theorem dL_supply_1 : decode cL_supply 1 = .ok (.iconst 0, 1) := by decide +kernel
theorem dL_supply_2 : decode cL_supply 2 = .ok (.aload_n 0, 1) := by decide +kernel
theorem dL_supply_3 : decode cL_supply 3 = .ok (.iload_n 1, 1) := by decide +kernel
theorem dL_supply_4 : decode cL_supply 4 = .ok (.iload_n 2, 1) := by decide +kernel
theorem dL_supply_5 : decode cL_supply 5 = .ok (.invokevirtual 28, 3) := by decide +kernel
theorem dL_supply_8 : decode cL_supply 8 = .ok (.i2l, 1) := by decide +kernel
theorem dL_supply_9 : decode cL_supply 9 = .ok (.lastore, 1) := by decide +kernel
theorem dL_supply_10 : decode cL_supply 10 = .ok (.goto 15, 3) := by decide +kernel
theorem dL_supply_13 : decode cL_supply 13 = .ok (.astore 4, 2) := by decide +kernel
theorem dL_supply_15 : decode cL_supply 15 = .ok (.iconst 1, 1) := by decide +kernel
theorem dL_supply_16 : decode cL_supply 16 = .ok (.ireturn, 1) := by decide +kernel
theorem dL_supply_17 : decode cL_supply 17 = .ok (.astore 4, 2) := by decide +kernel
theorem dL_supply_19 : decode cL_supply 19 = .ok (.iconst 2, 1) := by decide +kernel
theorem dL_supply_20 : decode cL_supply 20 = .ok (.ireturn, 1) := by decide +kernel
theorem dL_supply_21 : decode cL_supply 21 = .ok (.astore 4, 2) := by decide +kernel
theorem dL_supply_23 : decode cL_supply 23 = .ok (.iconst 3, 1) := by decide +kernel
theorem dL_supply_24 : decode cL_supply 24 = .ok (.ireturn, 1) := by decide +kernel
theorem dL_supply_25 : decode cL_supply 25 = .ok (.iconst 0, 1) := by decide +kernel
theorem dL_supply_26 : decode cL_supply 26 = .ok (.ireturn, 1) := by decide +kernel
theorem dL_table_0 : decode cL_table 0 = .ok (.aload 4, 2) := by decide +kernel
theorem dL_table_2 : decode cL_table 2 = .ok (.iconst 0, 1) := by decide +kernel
theorem dL_table_3 : decode cL_table 3 = .ok (.aload_n 0, 1) := by decide +kernel
theorem dL_table_4 : decode cL_table 4 = .ok (.iload_n 1, 1) := by decide +kernel
theorem dL_table_5 : decode cL_table 5 = .ok (.iload_n 2, 1) := by decide +kernel
theorem dL_table_6 : decode cL_table 6 = .ok (.iload_n 3, 1) := by decide +kernel
theorem dL_table_7 : decode cL_table 7 = .ok (.invokevirtual 33, 3) := by decide +kernel
theorem dL_table_10 : decode cL_table 10 = .ok (.i2l, 1) := by decide +kernel
theorem dL_table_11 : decode cL_table 11 = .ok (.lastore, 1) := by decide +kernel
theorem dL_table_12 : decode cL_table 12 = .ok (.goto 11, 3) := by decide +kernel
theorem dL_table_15 : decode cL_table 15 = .ok (.astore 5, 2) := by decide +kernel
theorem dL_table_17 : decode cL_table 17 = .ok (.iconst 1, 1) := by decide +kernel
theorem dL_table_18 : decode cL_table 18 = .ok (.ireturn, 1) := by decide +kernel
theorem dL_table_19 : decode cL_table 19 = .ok (.astore 5, 2) := by decide +kernel
theorem dL_table_21 : decode cL_table 21 = .ok (.iconst 2, 1) := by decide +kernel
theorem dL_table_22 : decode cL_table 22 = .ok (.ireturn, 1) := by decide +kernel
theorem dL_table_23 : decode cL_table 23 = .ok (.iconst 0, 1) := by decide +kernel
theorem dL_table_24 : decode cL_table 24 = .ok (.ireturn, 1) := by decide +kernel
theorem dL_aircraft_0 : decode cL_aircraft 0 = .ok (.aload 4, 2) := by decide +kernel
theorem dL_aircraft_2 : decode cL_aircraft 2 = .ok (.iconst 0, 1) := by decide +kernel
theorem dL_aircraft_3 : decode cL_aircraft 3 = .ok (.aload_n 0, 1) := by decide +kernel
theorem dL_aircraft_4 : decode cL_aircraft 4 = .ok (.iload_n 1, 1) := by decide +kernel
theorem dL_aircraft_5 : decode cL_aircraft 5 = .ok (.iload_n 2, 1) := by decide +kernel
theorem dL_aircraft_6 : decode cL_aircraft 6 = .ok (.iload_n 3, 1) := by decide +kernel
theorem dL_aircraft_7 : decode cL_aircraft 7 = .ok (.invokevirtual 37, 3) := by decide +kernel
theorem dL_aircraft_10 : decode cL_aircraft 10 = .ok (.i2l, 1) := by decide +kernel
theorem dL_aircraft_11 : decode cL_aircraft 11 = .ok (.lastore, 1) := by decide +kernel
theorem dL_aircraft_12 : decode cL_aircraft 12 = .ok (.goto 11, 3) := by decide +kernel
theorem dL_aircraft_15 : decode cL_aircraft 15 = .ok (.astore 5, 2) := by decide +kernel
theorem dL_aircraft_17 : decode cL_aircraft 17 = .ok (.iconst 1, 1) := by decide +kernel
theorem dL_aircraft_18 : decode cL_aircraft 18 = .ok (.ireturn, 1) := by decide +kernel
theorem dL_aircraft_19 : decode cL_aircraft 19 = .ok (.astore 5, 2) := by decide +kernel
theorem dL_aircraft_21 : decode cL_aircraft 21 = .ok (.iconst 2, 1) := by decide +kernel
theorem dL_aircraft_22 : decode cL_aircraft 22 = .ok (.ireturn, 1) := by decide +kernel
theorem dL_aircraft_23 : decode cL_aircraft 23 = .ok (.iconst 0, 1) := by decide +kernel
theorem dL_aircraft_24 : decode cL_aircraft 24 = .ok (.ireturn, 1) := by decide +kernel
theorem dL_treat_0 : decode cL_treat 0 = .ok (.aload 6, 2) := by decide +kernel
theorem dL_treat_2 : decode cL_treat 2 = .ok (.iconst 0, 1) := by decide +kernel
theorem dL_treat_3 : decode cL_treat 3 = .ok (.aload_n 0, 1) := by decide +kernel
theorem dL_treat_4 : decode cL_treat 4 = .ok (.iload_n 1, 1) := by decide +kernel
theorem dL_treat_5 : decode cL_treat 5 = .ok (.iload_n 2, 1) := by decide +kernel
theorem dL_treat_6 : decode cL_treat 6 = .ok (.iload_n 3, 1) := by decide +kernel
theorem dL_treat_7 : decode cL_treat 7 = .ok (.iload 4, 2) := by decide +kernel
theorem dL_treat_9 : decode cL_treat 9 = .ok (.iload 5, 2) := by decide +kernel
theorem dL_treat_11 : decode cL_treat 11 = .ok (.invokevirtual 40, 3) := by decide +kernel
theorem dL_treat_14 : decode cL_treat 14 = .ok (.i2l, 1) := by decide +kernel
theorem dL_treat_15 : decode cL_treat 15 = .ok (.lastore, 1) := by decide +kernel
theorem dL_treat_16 : decode cL_treat 16 = .ok (.goto 15, 3) := by decide +kernel
theorem dL_treat_19 : decode cL_treat 19 = .ok (.astore 7, 2) := by decide +kernel
theorem dL_treat_21 : decode cL_treat 21 = .ok (.iconst 1, 1) := by decide +kernel
theorem dL_treat_22 : decode cL_treat 22 = .ok (.ireturn, 1) := by decide +kernel
theorem dL_treat_23 : decode cL_treat 23 = .ok (.astore 7, 2) := by decide +kernel
theorem dL_treat_25 : decode cL_treat 25 = .ok (.iconst 2, 1) := by decide +kernel
theorem dL_treat_26 : decode cL_treat 26 = .ok (.ireturn, 1) := by decide +kernel
theorem dL_treat_27 : decode cL_treat 27 = .ok (.astore 7, 2) := by decide +kernel
theorem dL_treat_29 : decode cL_treat 29 = .ok (.iconst 3, 1) := by decide +kernel
theorem dL_treat_30 : decode cL_treat 30 = .ok (.ireturn, 1) := by decide +kernel
theorem dL_treat_31 : decode cL_treat 31 = .ok (.iconst 0, 1) := by decide +kernel
theorem dL_treat_32 : decode cL_treat 32 = .ok (.ireturn, 1) := by decide +kernel
theorem dL_cancel_0 : decode cL_cancel 0 = .ok (.aload_n 2, 1) := by decide +kernel
theorem dL_cancel_1 : decode cL_cancel 1 = .ok (.iconst 0, 1) := by decide +kernel
theorem dL_cancel_2 : decode cL_cancel 2 = .ok (.aload_n 0, 1) := by decide +kernel
theorem dL_cancel_3 : decode cL_cancel 3 = .ok (.iload_n 1, 1) := by decide +kernel
theorem dL_cancel_4 : decode cL_cancel 4 = .ok (.invokevirtual 44, 3) := by decide +kernel
theorem dL_cancel_7 : decode cL_cancel 7 = .ok (.i2l, 1) := by decide +kernel
theorem dL_cancel_8 : decode cL_cancel 8 = .ok (.lastore, 1) := by decide +kernel
theorem dL_cancel_9 : decode cL_cancel 9 = .ok (.goto 9, 3) := by decide +kernel
theorem dL_cancel_12 : decode cL_cancel 12 = .ok (.astore_n 3, 1) := by decide +kernel
theorem dL_cancel_13 : decode cL_cancel 13 = .ok (.iconst 1, 1) := by decide +kernel
theorem dL_cancel_14 : decode cL_cancel 14 = .ok (.ireturn, 1) := by decide +kernel
theorem dL_cancel_15 : decode cL_cancel 15 = .ok (.astore_n 3, 1) := by decide +kernel
theorem dL_cancel_16 : decode cL_cancel 16 = .ok (.iconst 2, 1) := by decide +kernel
theorem dL_cancel_17 : decode cL_cancel 17 = .ok (.ireturn, 1) := by decide +kernel
theorem dL_cancel_18 : decode cL_cancel 18 = .ok (.iconst 0, 1) := by decide +kernel
theorem dL_cancel_19 : decode cL_cancel 19 = .ok (.ireturn, 1) := by decide +kernel
theorem dL_permit_0 : decode cL_permit 0 = .ok (.aload_n 2, 1) := by decide +kernel
theorem dL_permit_1 : decode cL_permit 1 = .ok (.iconst 0, 1) := by decide +kernel
theorem dL_permit_2 : decode cL_permit 2 = .ok (.aload_n 0, 1) := by decide +kernel
theorem dL_permit_3 : decode cL_permit 3 = .ok (.iload_n 1, 1) := by decide +kernel
theorem dL_permit_4 : decode cL_permit 4 = .ok (.invokevirtual 47, 3) := by decide +kernel
theorem dL_permit_7 : decode cL_permit 7 = .ok (.i2l, 1) := by decide +kernel
theorem dL_permit_8 : decode cL_permit 8 = .ok (.lastore, 1) := by decide +kernel
theorem dL_permit_9 : decode cL_permit 9 = .ok (.goto 6, 3) := by decide +kernel
theorem dL_permit_12 : decode cL_permit 12 = .ok (.astore_n 3, 1) := by decide +kernel
theorem dL_permit_13 : decode cL_permit 13 = .ok (.iconst 1, 1) := by decide +kernel
theorem dL_permit_14 : decode cL_permit 14 = .ok (.ireturn, 1) := by decide +kernel
theorem dL_permit_15 : decode cL_permit 15 = .ok (.iconst 0, 1) := by decide +kernel
theorem dL_permit_16 : decode cL_permit 16 = .ok (.ireturn, 1) := by decide +kernel
theorem dL_release_0 : decode cL_release 0 = .ok (.aload_n 2, 1) := by decide +kernel
theorem dL_release_1 : decode cL_release 1 = .ok (.iconst 0, 1) := by decide +kernel
theorem dL_release_2 : decode cL_release 2 = .ok (.aload_n 0, 1) := by decide +kernel
theorem dL_release_3 : decode cL_release 3 = .ok (.iload_n 1, 1) := by decide +kernel
theorem dL_release_4 : decode cL_release 4 = .ok (.invokevirtual 50, 3) := by decide +kernel
theorem dL_release_7 : decode cL_release 7 = .ok (.i2l, 1) := by decide +kernel
theorem dL_release_8 : decode cL_release 8 = .ok (.lastore, 1) := by decide +kernel
theorem dL_release_9 : decode cL_release 9 = .ok (.goto 9, 3) := by decide +kernel
theorem dL_release_12 : decode cL_release 12 = .ok (.astore_n 3, 1) := by decide +kernel
theorem dL_release_13 : decode cL_release 13 = .ok (.iconst 1, 1) := by decide +kernel
theorem dL_release_14 : decode cL_release 14 = .ok (.ireturn, 1) := by decide +kernel
theorem dL_release_15 : decode cL_release 15 = .ok (.astore_n 3, 1) := by decide +kernel
theorem dL_release_16 : decode cL_release 16 = .ok (.iconst 2, 1) := by decide +kernel
theorem dL_release_17 : decode cL_release 17 = .ok (.ireturn, 1) := by decide +kernel
theorem dL_release_18 : decode cL_release 18 = .ok (.iconst 0, 1) := by decide +kernel
theorem dL_release_19 : decode cL_release 19 = .ok (.ireturn, 1) := by decide +kernel
theorem dL_pass_0 : decode cL_pass 0 = .ok (.aload_n 2, 1) := by decide +kernel
theorem dL_pass_1 : decode cL_pass 1 = .ok (.iconst 0, 1) := by decide +kernel
theorem dL_pass_2 : decode cL_pass 2 = .ok (.aload_n 0, 1) := by decide +kernel
theorem dL_pass_3 : decode cL_pass 3 = .ok (.iload_n 1, 1) := by decide +kernel
theorem dL_pass_4 : decode cL_pass 4 = .ok (.invokevirtual 53, 3) := by decide +kernel
theorem dL_pass_7 : decode cL_pass 7 = .ok (.i2l, 1) := by decide +kernel
theorem dL_pass_8 : decode cL_pass 8 = .ok (.lastore, 1) := by decide +kernel
theorem dL_pass_9 : decode cL_pass 9 = .ok (.goto 6, 3) := by decide +kernel
theorem dL_pass_12 : decode cL_pass 12 = .ok (.astore_n 3, 1) := by decide +kernel
theorem dL_pass_13 : decode cL_pass 13 = .ok (.iconst 1, 1) := by decide +kernel
theorem dL_pass_14 : decode cL_pass 14 = .ok (.ireturn, 1) := by decide +kernel
theorem dL_pass_15 : decode cL_pass 15 = .ok (.iconst 0, 1) := by decide +kernel
theorem dL_pass_16 : decode cL_pass 16 = .ok (.ireturn, 1) := by decide +kernel
theorem dL_code_0 : decode cL_code 0 = .ok (.aload_n 2, 1) := by decide +kernel
theorem dL_code_1 : decode cL_code 1 = .ok (.iconst 0, 1) := by decide +kernel
theorem dL_code_2 : decode cL_code 2 = .ok (.aload_n 0, 1) := by decide +kernel
theorem dL_code_3 : decode cL_code 3 = .ok (.iload_n 1, 1) := by decide +kernel
theorem dL_code_4 : decode cL_code 4 = .ok (.invokevirtual 56, 3) := by decide +kernel
theorem dL_code_7 : decode cL_code 7 = .ok (.i2l, 1) := by decide +kernel
theorem dL_code_8 : decode cL_code 8 = .ok (.lastore, 1) := by decide +kernel
theorem dL_code_9 : decode cL_code 9 = .ok (.goto 6, 3) := by decide +kernel
theorem dL_code_12 : decode cL_code 12 = .ok (.astore_n 3, 1) := by decide +kernel
theorem dL_code_13 : decode cL_code 13 = .ok (.iconst 1, 1) := by decide +kernel
theorem dL_code_14 : decode cL_code 14 = .ok (.ireturn, 1) := by decide +kernel
theorem dL_code_15 : decode cL_code 15 = .ok (.iconst 0, 1) := by decide +kernel
theorem dL_code_16 : decode cL_code 16 = .ok (.ireturn, 1) := by decide +kernel
theorem dL_thirdOf_0 : decode cL_thirdOf 0 = .ok (.aload_n 3, 1) := by decide +kernel
theorem dL_thirdOf_1 : decode cL_thirdOf 1 = .ok (.iconst 0, 1) := by decide +kernel
theorem dL_thirdOf_2 : decode cL_thirdOf 2 = .ok (.aload_n 0, 1) := by decide +kernel
theorem dL_thirdOf_3 : decode cL_thirdOf 3 = .ok (.iload_n 1, 1) := by decide +kernel
theorem dL_thirdOf_4 : decode cL_thirdOf 4 = .ok (.iload_n 2, 1) := by decide +kernel
theorem dL_thirdOf_5 : decode cL_thirdOf 5 = .ok (.invokevirtual 59, 3) := by decide +kernel
theorem dL_thirdOf_8 : decode cL_thirdOf 8 = .ok (.i2l, 1) := by decide +kernel
theorem dL_thirdOf_9 : decode cL_thirdOf 9 = .ok (.lastore, 1) := by decide +kernel
theorem dL_thirdOf_10 : decode cL_thirdOf 10 = .ok (.goto 11, 3) := by decide +kernel
theorem dL_thirdOf_13 : decode cL_thirdOf 13 = .ok (.astore 4, 2) := by decide +kernel
theorem dL_thirdOf_15 : decode cL_thirdOf 15 = .ok (.iconst 1, 1) := by decide +kernel
theorem dL_thirdOf_16 : decode cL_thirdOf 16 = .ok (.ireturn, 1) := by decide +kernel
theorem dL_thirdOf_17 : decode cL_thirdOf 17 = .ok (.astore 4, 2) := by decide +kernel
theorem dL_thirdOf_19 : decode cL_thirdOf 19 = .ok (.iconst 2, 1) := by decide +kernel
theorem dL_thirdOf_20 : decode cL_thirdOf 20 = .ok (.ireturn, 1) := by decide +kernel
theorem dL_thirdOf_21 : decode cL_thirdOf 21 = .ok (.iconst 0, 1) := by decide +kernel
theorem dL_thirdOf_22 : decode cL_thirdOf 22 = .ok (.ireturn, 1) := by decide +kernel
theorem dL_aircraftOf_0 : decode cL_aircraftOf 0 = .ok (.aload_n 3, 1) := by decide +kernel
theorem dL_aircraftOf_1 : decode cL_aircraftOf 1 = .ok (.iconst 0, 1) := by decide +kernel
theorem dL_aircraftOf_2 : decode cL_aircraftOf 2 = .ok (.aload_n 0, 1) := by decide +kernel
theorem dL_aircraftOf_3 : decode cL_aircraftOf 3 = .ok (.iload_n 1, 1) := by decide +kernel
theorem dL_aircraftOf_4 : decode cL_aircraftOf 4 = .ok (.iload_n 2, 1) := by decide +kernel
theorem dL_aircraftOf_5 : decode cL_aircraftOf 5 = .ok (.invokevirtual 62, 3) := by decide +kernel
theorem dL_aircraftOf_8 : decode cL_aircraftOf 8 = .ok (.i2l, 1) := by decide +kernel
theorem dL_aircraftOf_9 : decode cL_aircraftOf 9 = .ok (.lastore, 1) := by decide +kernel
theorem dL_aircraftOf_10 : decode cL_aircraftOf 10 = .ok (.goto 11, 3) := by decide +kernel
theorem dL_aircraftOf_13 : decode cL_aircraftOf 13 = .ok (.astore 4, 2) := by decide +kernel
theorem dL_aircraftOf_15 : decode cL_aircraftOf 15 = .ok (.iconst 1, 1) := by decide +kernel
theorem dL_aircraftOf_16 : decode cL_aircraftOf 16 = .ok (.ireturn, 1) := by decide +kernel
theorem dL_aircraftOf_17 : decode cL_aircraftOf 17 = .ok (.astore 4, 2) := by decide +kernel
theorem dL_aircraftOf_19 : decode cL_aircraftOf 19 = .ok (.iconst 2, 1) := by decide +kernel
theorem dL_aircraftOf_20 : decode cL_aircraftOf 20 = .ok (.ireturn, 1) := by decide +kernel
theorem dL_aircraftOf_21 : decode cL_aircraftOf 21 = .ok (.iconst 0, 1) := by decide +kernel
theorem dL_aircraftOf_22 : decode cL_aircraftOf 22 = .ok (.ireturn, 1) := by decide +kernel
theorem dL_clock_0 : decode cL_clock 0 = .ok (.aload_n 2, 1) := by decide +kernel
theorem dL_clock_1 : decode cL_clock 1 = .ok (.iconst 0, 1) := by decide +kernel
theorem dL_clock_2 : decode cL_clock 2 = .ok (.aload_n 0, 1) := by decide +kernel
theorem dL_clock_3 : decode cL_clock 3 = .ok (.iload_n 1, 1) := by decide +kernel
theorem dL_clock_4 : decode cL_clock 4 = .ok (.invokevirtual 65, 3) := by decide +kernel
theorem dL_clock_7 : decode cL_clock 7 = .ok (.dastore, 1) := by decide +kernel
theorem dL_clock_8 : decode cL_clock 8 = .ok (.goto 9, 3) := by decide +kernel
theorem dL_clock_11 : decode cL_clock 11 = .ok (.astore_n 3, 1) := by decide +kernel
theorem dL_clock_12 : decode cL_clock 12 = .ok (.iconst 1, 1) := by decide +kernel
theorem dL_clock_13 : decode cL_clock 13 = .ok (.ireturn, 1) := by decide +kernel
theorem dL_clock_14 : decode cL_clock 14 = .ok (.astore_n 3, 1) := by decide +kernel
theorem dL_clock_15 : decode cL_clock 15 = .ok (.iconst 2, 1) := by decide +kernel
theorem dL_clock_16 : decode cL_clock 16 = .ok (.ireturn, 1) := by decide +kernel
theorem dL_clock_17 : decode cL_clock 17 = .ok (.iconst 0, 1) := by decide +kernel
theorem dL_clock_18 : decode cL_clock 18 = .ok (.ireturn, 1) := by decide +kernel
theorem dL_whyNot_0 : decode cL_whyNot 0 = .ok (.aload_n 2, 1) := by decide +kernel
theorem dL_whyNot_1 : decode cL_whyNot 1 = .ok (.iconst 0, 1) := by decide +kernel
theorem dL_whyNot_2 : decode cL_whyNot 2 = .ok (.aload_n 0, 1) := by decide +kernel
theorem dL_whyNot_3 : decode cL_whyNot 3 = .ok (.iload_n 1, 1) := by decide +kernel
theorem dL_whyNot_4 : decode cL_whyNot 4 = .ok (.invokevirtual 69, 3) := by decide +kernel
theorem dL_whyNot_7 : decode cL_whyNot 7 = .ok (.i2l, 1) := by decide +kernel
theorem dL_whyNot_8 : decode cL_whyNot 8 = .ok (.lastore, 1) := by decide +kernel
theorem dL_whyNot_9 : decode cL_whyNot 9 = .ok (.goto 6, 3) := by decide +kernel
theorem dL_whyNot_12 : decode cL_whyNot 12 = .ok (.astore_n 3, 1) := by decide +kernel
theorem dL_whyNot_13 : decode cL_whyNot 13 = .ok (.iconst 1, 1) := by decide +kernel
theorem dL_whyNot_14 : decode cL_whyNot 14 = .ok (.ireturn, 1) := by decide +kernel
theorem dL_whyNot_15 : decode cL_whyNot 15 = .ok (.iconst 0, 1) := by decide +kernel
theorem dL_whyNot_16 : decode cL_whyNot 16 = .ok (.ireturn, 1) := by decide +kernel
theorem dL_queue_0 : decode cL_queue 0 = .ok (.aload_n 2, 1) := by decide +kernel
theorem dL_queue_1 : decode cL_queue 1 = .ok (.iconst 0, 1) := by decide +kernel
theorem dL_queue_2 : decode cL_queue 2 = .ok (.aload_n 0, 1) := by decide +kernel
theorem dL_queue_3 : decode cL_queue 3 = .ok (.iload_n 1, 1) := by decide +kernel
theorem dL_queue_4 : decode cL_queue 4 = .ok (.invokevirtual 72, 3) := by decide +kernel
theorem dL_queue_7 : decode cL_queue 7 = .ok (.i2l, 1) := by decide +kernel
theorem dL_queue_8 : decode cL_queue 8 = .ok (.lastore, 1) := by decide +kernel
theorem dL_queue_9 : decode cL_queue 9 = .ok (.goto 6, 3) := by decide +kernel
theorem dL_queue_12 : decode cL_queue 12 = .ok (.astore_n 3, 1) := by decide +kernel
theorem dL_queue_13 : decode cL_queue 13 = .ok (.iconst 1, 1) := by decide +kernel
theorem dL_queue_14 : decode cL_queue 14 = .ok (.ireturn, 1) := by decide +kernel
theorem dL_queue_15 : decode cL_queue 15 = .ok (.iconst 0, 1) := by decide +kernel
theorem dL_queue_16 : decode cL_queue 16 = .ok (.ireturn, 1) := by decide +kernel
theorem dL_sum_0 : decode cL_sum 0 = .ok (.aload_n 2, 1) := by decide +kernel
theorem dL_sum_1 : decode cL_sum 1 = .ok (.iconst 0, 1) := by decide +kernel
theorem dL_sum_2 : decode cL_sum 2 = .ok (.aload_n 0, 1) := by decide +kernel
theorem dL_sum_3 : decode cL_sum 3 = .ok (.iload_n 1, 1) := by decide +kernel
theorem dL_sum_4 : decode cL_sum 4 = .ok (.invokevirtual 75, 3) := by decide +kernel
theorem dL_sum_7 : decode cL_sum 7 = .ok (.i2l, 1) := by decide +kernel
theorem dL_sum_8 : decode cL_sum 8 = .ok (.lastore, 1) := by decide +kernel
theorem dL_sum_9 : decode cL_sum 9 = .ok (.goto 6, 3) := by decide +kernel
theorem dL_sum_12 : decode cL_sum 12 = .ok (.astore_n 3, 1) := by decide +kernel
theorem dL_sum_13 : decode cL_sum 13 = .ok (.iconst 1, 1) := by decide +kernel
theorem dL_sum_14 : decode cL_sum 14 = .ok (.ireturn, 1) := by decide +kernel
theorem dL_sum_15 : decode cL_sum 15 = .ok (.iconst 0, 1) := by decide +kernel
theorem dL_sum_16 : decode cL_sum 16 = .ok (.ireturn, 1) := by decide +kernel
