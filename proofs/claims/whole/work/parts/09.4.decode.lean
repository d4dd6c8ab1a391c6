theorem dX12_when_0 : decode cX12_when 0 = .ok (.aload_n 0, 1) := by decide +kernel
theorem dX12_when_1 : decode cX12_when 1 = .ok (.iload_n 1, 1) := by decide +kernel
theorem dX12_when_2 : decode cX12_when 2 = .ok (.invokevirtual 391, 3) := by decide +kernel
theorem dX12_when_5 : decode cX12_when 5 = .ok (.ifCond .eq 21, 3) := by decide +kernel
theorem dX12_when_8 : decode cX12_when 8 = .ok (.iload_n 2, 1) := by decide +kernel
theorem dX12_when_9 : decode cX12_when 9 = .ok (.invokestatic 400, 3) := by decide +kernel
theorem dX12_when_12 : decode cX12_when 12 = .ok (.ifCond .eq 14, 3) := by decide +kernel
theorem dX12_when_15 : decode cX12_when 15 = .ok (.aload_n 0, 1) := by decide +kernel
theorem dX12_when_16 : decode cX12_when 16 = .ok (.iload_n 1, 1) := by decide +kernel
theorem dX12_when_17 : decode cX12_when 17 = .ok (.iload_n 2, 1) := by decide +kernel
theorem dX12_when_18 : decode cX12_when 18 = .ok (.iconst 0, 1) := by decide +kernel
theorem dX12_when_19 : decode cX12_when 19 = .ok (.iconst 0, 1) := by decide +kernel
theorem dX12_when_20 : decode cX12_when 20 = .ok (.invokevirtual 403, 3) := by decide +kernel
theorem dX12_when_23 : decode cX12_when 23 = .ok (.goto 4, 3) := by decide +kernel
theorem dX12_when_26 : decode cX12_when 26 = .ok (.iconst (-1), 1) := by decide +kernel
theorem dX12_when_27 : decode cX12_when 27 = .ok (.ireturn, 1) := by decide +kernel
theorem dX12_deep_0 : decode cX12_deep 0 = .ok (.aload_n 0, 1) := by decide +kernel
theorem dX12_deep_1 : decode cX12_deep 1 = .ok (.iload_n 1, 1) := by decide +kernel
theorem dX12_deep_2 : decode cX12_deep 2 = .ok (.invokevirtual 391, 3) := by decide +kernel
theorem dX12_deep_5 : decode cX12_deep 5 = .ok (.ifCond .eq 20, 3) := by decide +kernel
theorem dX12_deep_8 : decode cX12_deep 8 = .ok (.iload_n 2, 1) := by decide +kernel
theorem dX12_deep_9 : decode cX12_deep 9 = .ok (.invokestatic 400, 3) := by decide +kernel
theorem dX12_deep_12 : decode cX12_deep 12 = .ok (.ifCond .eq 13, 3) := by decide +kernel
theorem dX12_deep_15 : decode cX12_deep 15 = .ok (.iload_n 3, 1) := by decide +kernel
theorem dX12_deep_16 : decode cX12_deep 16 = .ok (.iconst 0, 1) := by decide +kernel
theorem dX12_deep_17 : decode cX12_deep 17 = .ok (.bipush 72, 2) := by decide +kernel
theorem dX12_deep_19 : decode cX12_deep 19 = .ok (.invokestatic 355, 3) := by decide +kernel
theorem dX12_deep_22 : decode cX12_deep 22 = .ok (.ifCond .ne 5, 3) := by decide +kernel
theorem dX12_deep_25 : decode cX12_deep 25 = .ok (.iconst (-1), 1) := by decide +kernel
theorem dX12_deep_26 : decode cX12_deep 26 = .ok (.ireturn, 1) := by decide +kernel
theorem dX12_deep_27 : decode cX12_deep 27 = .ok (.aload_n 0, 1) := by decide +kernel
theorem dX12_deep_28 : decode cX12_deep 28 = .ok (.iload_n 1, 1) := by decide +kernel
theorem dX12_deep_29 : decode cX12_deep 29 = .ok (.invokevirtual 380, 3) := by decide +kernel
theorem dX12_deep_32 : decode cX12_deep 32 = .ok (.iconst 0, 1) := by decide +kernel
theorem dX12_deep_33 : decode cX12_deep 33 = .ok (.istore 4, 2) := by decide +kernel
theorem dX12_deep_35 : decode cX12_deep 35 = .ok (.iload 4, 2) := by decide +kernel
theorem dX12_deep_37 : decode cX12_deep 37 = .ok (.iload_n 3, 1) := by decide +kernel
theorem dX12_deep_38 : decode cX12_deep 38 = .ok (.if_icmp .ge 22, 3) := by decide +kernel
theorem dX12_deep_41 : decode cX12_deep 41 = .ok (.aload_n 0, 1) := by decide +kernel
theorem dX12_deep_42 : decode cX12_deep 42 = .ok (.iload_n 1, 1) := by decide +kernel
theorem dX12_deep_43 : decode cX12_deep 43 = .ok (.aload_n 0, 1) := by decide +kernel
theorem dX12_deep_44 : decode cX12_deep 44 = .ok (.getfield 343, 3) := by decide +kernel
theorem dX12_deep_47 : decode cX12_deep 47 = .ok (.iload 4, 2) := by decide +kernel
theorem dX12_deep_49 : decode cX12_deep 49 = .ok (.iadd, 1) := by decide +kernel
theorem dX12_deep_50 : decode cX12_deep 50 = .ok (.iload_n 2, 1) := by decide +kernel
theorem dX12_deep_51 : decode cX12_deep 51 = .ok (.invokevirtual 383, 3) := by decide +kernel
theorem dX12_deep_54 : decode cX12_deep 54 = .ok (.iinc 4 1, 3) := by decide +kernel
theorem dX12_deep_57 : decode cX12_deep 57 = .ok (.goto (-22), 3) := by decide +kernel
theorem dX12_deep_60 : decode cX12_deep 60 = .ok (.aload_n 0, 1) := by decide +kernel
theorem dX12_deep_61 : decode cX12_deep 61 = .ok (.getfield 362, 3) := by decide +kernel
theorem dX12_deep_64 : decode cX12_deep 64 = .ok (.ireturn, 1) := by decide +kernel
theorem dX12_least_0 : decode cX12_least 0 = .ok (.aload_n 0, 1) := by decide +kernel
theorem dX12_least_1 : decode cX12_least 1 = .ok (.iload_n 1, 1) := by decide +kernel
theorem dX12_least_2 : decode cX12_least 2 = .ok (.invokevirtual 391, 3) := by decide +kernel
theorem dX12_least_5 : decode cX12_least 5 = .ok (.ifCond .eq 10, 3) := by decide +kernel
theorem dX12_least_8 : decode cX12_least 8 = .ok (.iload_n 2, 1) := by decide +kernel
theorem dX12_least_9 : decode cX12_least 9 = .ok (.invokestatic 400, 3) := by decide +kernel
theorem dX12_least_12 : decode cX12_least 12 = .ok (.ifCond .ne 5, 3) := by decide +kernel
theorem dX12_least_15 : decode cX12_least 15 = .ok (.iconst (-1), 1) := by decide +kernel
theorem dX12_least_16 : decode cX12_least 16 = .ok (.ireturn, 1) := by decide +kernel
theorem dX12_least_17 : decode cX12_least 17 = .ok (.iconst 0, 1) := by decide +kernel
theorem dX12_least_18 : decode cX12_least 18 = .ok (.istore_n 3, 1) := by decide +kernel
theorem dX12_least_19 : decode cX12_least 19 = .ok (.iload_n 3, 1) := by decide +kernel
theorem dX12_least_20 : decode cX12_least 20 = .ok (.bipush 99, 2) := by decide +kernel
theorem dX12_least_22 : decode cX12_least 22 = .ok (.if_icmp .gt 22, 3) := by decide +kernel
theorem dX12_least_25 : decode cX12_least 25 = .ok (.aload_n 0, 1) := by decide +kernel
theorem dX12_least_26 : decode cX12_least 26 = .ok (.iload_n 1, 1) := by decide +kernel
theorem dX12_least_27 : decode cX12_least 27 = .ok (.iload_n 2, 1) := by decide +kernel
theorem dX12_least_28 : decode cX12_least 28 = .ok (.iconst 0, 1) := by decide +kernel
theorem dX12_least_29 : decode cX12_least 29 = .ok (.iload_n 3, 1) := by decide +kernel
theorem dX12_least_30 : decode cX12_least 30 = .ok (.invokevirtual 403, 3) := by decide +kernel
theorem dX12_least_33 : decode cX12_least 33 = .ok (.ifCond .ge 5, 3) := by decide +kernel
theorem dX12_least_36 : decode cX12_least 36 = .ok (.iload_n 3, 1) := by decide +kernel
theorem dX12_least_37 : decode cX12_least 37 = .ok (.ireturn, 1) := by decide +kernel
theorem dX12_least_38 : decode cX12_least 38 = .ok (.iinc 3 1, 3) := by decide +kernel
theorem dX12_least_41 : decode cX12_least 41 = .ok (.goto (-22), 3) := by decide +kernel
theorem dX12_least_44 : decode cX12_least 44 = .ok (.iconst (-1), 1) := by decide +kernel
theorem dX12_least_45 : decode cX12_least 45 = .ok (.ireturn, 1) := by decide +kernel
theorem dX12_latest_0 : decode cX12_latest 0 = .ok (.aload_n 0, 1) := by decide +kernel
theorem dX12_latest_1 : decode cX12_latest 1 = .ok (.iload_n 1, 1) := by decide +kernel
theorem dX12_latest_2 : decode cX12_latest 2 = .ok (.invokevirtual 391, 3) := by decide +kernel
theorem dX12_latest_5 : decode cX12_latest 5 = .ok (.ifCond .eq 20, 3) := by decide +kernel
theorem dX12_latest_8 : decode cX12_latest 8 = .ok (.iload_n 2, 1) := by decide +kernel
theorem dX12_latest_9 : decode cX12_latest 9 = .ok (.invokestatic 400, 3) := by decide +kernel
theorem dX12_latest_12 : decode cX12_latest 12 = .ok (.ifCond .eq 13, 3) := by decide +kernel
theorem dX12_latest_15 : decode cX12_latest 15 = .ok (.iload_n 3, 1) := by decide +kernel
theorem dX12_latest_16 : decode cX12_latest 16 = .ok (.iconst 0, 1) := by decide +kernel
theorem dX12_latest_17 : decode cX12_latest 17 = .ok (.bipush 99, 2) := by decide +kernel
theorem dX12_latest_19 : decode cX12_latest 19 = .ok (.invokestatic 355, 3) := by decide +kernel
theorem dX12_latest_22 : decode cX12_latest 22 = .ok (.ifCond .ne 5, 3) := by decide +kernel
theorem dX12_latest_25 : decode cX12_latest 25 = .ok (.iconst (-1), 1) := by decide +kernel
theorem dX12_latest_26 : decode cX12_latest 26 = .ok (.ireturn, 1) := by decide +kernel
theorem dX12_latest_27 : decode cX12_latest 27 = .ok (.bipush 71, 2) := by decide +kernel
theorem dX12_latest_29 : decode cX12_latest 29 = .ok (.istore 4, 2) := by decide +kernel
theorem dX12_latest_31 : decode cX12_latest 31 = .ok (.iload 4, 2) := by decide +kernel
theorem dX12_latest_33 : decode cX12_latest 33 = .ok (.ifCond .lt 24, 3) := by decide +kernel
theorem dX12_latest_36 : decode cX12_latest 36 = .ok (.aload_n 0, 1) := by decide +kernel
theorem dX12_latest_37 : decode cX12_latest 37 = .ok (.iload_n 1, 1) := by decide +kernel
theorem dX12_latest_38 : decode cX12_latest 38 = .ok (.iload_n 2, 1) := by decide +kernel
theorem dX12_latest_39 : decode cX12_latest 39 = .ok (.iload 4, 2) := by decide +kernel
theorem dX12_latest_41 : decode cX12_latest 41 = .ok (.iload_n 3, 1) := by decide +kernel
theorem dX12_latest_42 : decode cX12_latest 42 = .ok (.invokevirtual 403, 3) := by decide +kernel
theorem dX12_latest_45 : decode cX12_latest 45 = .ok (.ifCond .ge 6, 3) := by decide +kernel
theorem dX12_latest_48 : decode cX12_latest 48 = .ok (.iload 4, 2) := by decide +kernel
theorem dX12_latest_50 : decode cX12_latest 50 = .ok (.ireturn, 1) := by decide +kernel
theorem dX12_latest_51 : decode cX12_latest 51 = .ok (.iinc 4 (-1), 3) := by decide +kernel
theorem dX12_latest_54 : decode cX12_latest 54 = .ok (.goto (-23), 3) := by decide +kernel
theorem dX12_latest_57 : decode cX12_latest 57 = .ok (.iconst (-1), 1) := by decide +kernel
theorem dX12_latest_58 : decode cX12_latest 58 = .ok (.ireturn, 1) := by decide +kernel
theorem dX12_common_0 : decode cX12_common 0 = .ok (.iload_n 0, 1) := by decide +kernel
theorem dX12_common_1 : decode cX12_common 1 = .ok (.istore_n 2, 1) := by decide +kernel
theorem dX12_common_2 : decode cX12_common 2 = .ok (.iload_n 1, 1) := by decide +kernel
theorem dX12_common_3 : decode cX12_common 3 = .ok (.istore_n 3, 1) := by decide +kernel
theorem dX12_common_4 : decode cX12_common 4 = .ok (.iload_n 3, 1) := by decide +kernel
theorem dX12_common_5 : decode cX12_common 5 = .ok (.ifCond .le 16, 3) := by decide +kernel
theorem dX12_common_8 : decode cX12_common 8 = .ok (.iload_n 2, 1) := by decide +kernel
theorem dX12_common_9 : decode cX12_common 9 = .ok (.iload_n 3, 1) := by decide +kernel
theorem dX12_common_10 : decode cX12_common 10 = .ok (.irem, 1) := by decide +kernel
theorem dX12_common_11 : decode cX12_common 11 = .ok (.istore 4, 2) := by decide +kernel
theorem dX12_common_13 : decode cX12_common 13 = .ok (.iload_n 3, 1) := by decide +kernel
theorem dX12_common_14 : decode cX12_common 14 = .ok (.istore_n 2, 1) := by decide +kernel
theorem dX12_common_15 : decode cX12_common 15 = .ok (.iload 4, 2) := by decide +kernel
theorem dX12_common_17 : decode cX12_common 17 = .ok (.istore_n 3, 1) := by decide +kernel
theorem dX12_common_18 : decode cX12_common 18 = .ok (.goto (-14), 3) := by decide +kernel
theorem dX12_common_21 : decode cX12_common 21 = .ok (.iload_n 2, 1) := by decide +kernel
theorem dX12_common_22 : decode cX12_common 22 = .ok (.ireturn, 1) := by decide +kernel
theorem dX12_weightOf_0 : decode cX12_weightOf 0 = .ok (.iconst 0, 1) := by decide +kernel
theorem dX12_weightOf_1 : decode cX12_weightOf 1 = .ok (.istore_n 2, 1) := by decide +kernel
theorem dX12_weightOf_2 : decode cX12_weightOf 2 = .ok (.iconst 0, 1) := by decide +kernel
theorem dX12_weightOf_3 : decode cX12_weightOf 3 = .ok (.istore_n 3, 1) := by decide +kernel
theorem dX12_weightOf_4 : decode cX12_weightOf 4 = .ok (.iload_n 3, 1) := by decide +kernel
theorem dX12_weightOf_5 : decode cX12_weightOf 5 = .ok (.aload_n 0, 1) := by decide +kernel
theorem dX12_weightOf_6 : decode cX12_weightOf 6 = .ok (.getfield 334, 3) := by decide +kernel
theorem dX12_weightOf_9 : decode cX12_weightOf 9 = .ok (.if_icmp .ge 31, 3) := by decide +kernel
theorem dX12_weightOf_12 : decode cX12_weightOf 12 = .ok (.iload_n 2, 1) := by decide +kernel
theorem dX12_weightOf_13 : decode cX12_weightOf 13 = .ok (.iload_n 1, 1) := by decide +kernel
theorem dX12_weightOf_14 : decode cX12_weightOf 14 = .ok (.iload_n 3, 1) := by decide +kernel
theorem dX12_weightOf_15 : decode cX12_weightOf 15 = .ok (.ishr, 1) := by decide +kernel
theorem dX12_weightOf_16 : decode cX12_weightOf 16 = .ok (.iconst 1, 1) := by decide +kernel
theorem dX12_weightOf_17 : decode cX12_weightOf 17 = .ok (.iand, 1) := by decide +kernel
theorem dX12_weightOf_18 : decode cX12_weightOf 18 = .ok (.iconst 1, 1) := by decide +kernel
theorem dX12_weightOf_19 : decode cX12_weightOf 19 = .ok (.if_icmp .ne 12, 3) := by decide +kernel
theorem dX12_weightOf_22 : decode cX12_weightOf 22 = .ok (.aload_n 0, 1) := by decide +kernel
theorem dX12_weightOf_23 : decode cX12_weightOf 23 = .ok (.getfield 84, 3) := by decide +kernel
theorem dX12_weightOf_26 : decode cX12_weightOf 26 = .ok (.iload_n 3, 1) := by decide +kernel
theorem dX12_weightOf_27 : decode cX12_weightOf 27 = .ok (.iaload, 1) := by decide +kernel
theorem dX12_weightOf_28 : decode cX12_weightOf 28 = .ok (.goto 4, 3) := by decide +kernel
theorem dX12_weightOf_31 : decode cX12_weightOf 31 = .ok (.iconst 0, 1) := by decide +kernel
theorem dX12_weightOf_32 : decode cX12_weightOf 32 = .ok (.iadd, 1) := by decide +kernel
theorem dX12_weightOf_33 : decode cX12_weightOf 33 = .ok (.istore_n 2, 1) := by decide +kernel
theorem dX12_weightOf_34 : decode cX12_weightOf 34 = .ok (.iinc 3 1, 3) := by decide +kernel
theorem dX12_weightOf_37 : decode cX12_weightOf 37 = .ok (.goto (-33), 3) := by decide +kernel
theorem dX12_weightOf_40 : decode cX12_weightOf 40 = .ok (.iload_n 2, 1) := by decide +kernel
theorem dX12_weightOf_41 : decode cX12_weightOf 41 = .ok (.ireturn, 1) := by decide +kernel
theorem dX12_odds_0 : decode cX12_odds 0 = .ok (.aload_n 0, 1) := by decide +kernel
theorem dX12_odds_1 : decode cX12_odds 1 = .ok (.iload_n 1, 1) := by decide +kernel
theorem dX12_odds_2 : decode cX12_odds 2 = .ok (.invokevirtual 391, 3) := by decide +kernel
theorem dX12_odds_5 : decode cX12_odds 5 = .ok (.ifCond .eq 12, 3) := by decide +kernel
theorem dX12_odds_8 : decode cX12_odds 8 = .ok (.iload_n 2, 1) := by decide +kernel
theorem dX12_odds_9 : decode cX12_odds 9 = .ok (.iconst 0, 1) := by decide +kernel
theorem dX12_odds_10 : decode cX12_odds 10 = .ok (.iconst 1, 1) := by decide +kernel
theorem dX12_odds_11 : decode cX12_odds 11 = .ok (.invokestatic 355, 3) := by decide +kernel
theorem dX12_odds_14 : decode cX12_odds 14 = .ok (.ifCond .ne 5, 3) := by decide +kernel
theorem dX12_odds_17 : decode cX12_odds 17 = .ok (.iconst (-1), 1) := by decide +kernel
theorem dX12_odds_18 : decode cX12_odds 18 = .ok (.ireturn, 1) := by decide +kernel
theorem dX12_odds_19 : decode cX12_odds 19 = .ok (.aload_n 0, 1) := by decide +kernel
theorem dX12_odds_20 : decode cX12_odds 20 = .ok (.iload_n 3, 1) := by decide +kernel
theorem dX12_odds_21 : decode cX12_odds 21 = .ok (.invokevirtual 407, 3) := by decide +kernel
theorem dX12_odds_24 : decode cX12_odds 24 = .ok (.istore 4, 2) := by decide +kernel
theorem dX12_odds_26 : decode cX12_odds 26 = .ok (.iload 4, 2) := by decide +kernel
theorem dX12_odds_28 : decode cX12_odds 28 = .ok (.ifCond .ne 5, 3) := by decide +kernel
theorem dX12_odds_31 : decode cX12_odds 31 = .ok (.iconst (-1), 1) := by decide +kernel
theorem dX12_odds_32 : decode cX12_odds 32 = .ok (.ireturn, 1) := by decide +kernel
theorem dX12_odds_33 : decode cX12_odds 33 = .ok (.aload_n 0, 1) := by decide +kernel
theorem dX12_odds_34 : decode cX12_odds 34 = .ok (.iload 4, 2) := by decide +kernel
theorem dX12_odds_36 : decode cX12_odds 36 = .ok (.invokevirtual 410, 3) := by decide +kernel
theorem dX12_odds_39 : decode cX12_odds 39 = .ok (.istore 5, 2) := by decide +kernel
theorem dX12_odds_41 : decode cX12_odds 41 = .ok (.iconst 0, 1) := by decide +kernel
theorem dX12_odds_42 : decode cX12_odds 42 = .ok (.istore 6, 2) := by decide +kernel
theorem dX12_odds_44 : decode cX12_odds 44 = .ok (.iconst 0, 1) := by decide +kernel
theorem dX12_odds_45 : decode cX12_odds 45 = .ok (.istore 7, 2) := by decide +kernel
theorem dX12_odds_47 : decode cX12_odds 47 = .ok (.iload 7, 2) := by decide +kernel
theorem dX12_odds_49 : decode cX12_odds 49 = .ok (.aload_n 0, 1) := by decide +kernel
theorem dX12_odds_50 : decode cX12_odds 50 = .ok (.getfield 334, 3) := by decide +kernel
theorem dX12_odds_53 : decode cX12_odds 53 = .ok (.if_icmp .ge 53, 3) := by decide +kernel
theorem dX12_odds_56 : decode cX12_odds 56 = .ok (.iload 6, 2) := by decide +kernel
theorem dX12_odds_58 : decode cX12_odds 58 = .ok (.iload 4, 2) := by decide +kernel
theorem dX12_odds_60 : decode cX12_odds 60 = .ok (.iload 7, 2) := by decide +kernel
theorem dX12_odds_62 : decode cX12_odds 62 = .ok (.ishr, 1) := by decide +kernel
theorem dX12_odds_63 : decode cX12_odds 63 = .ok (.iconst 1, 1) := by decide +kernel
theorem dX12_odds_64 : decode cX12_odds 64 = .ok (.iand, 1) := by decide +kernel
theorem dX12_odds_65 : decode cX12_odds 65 = .ok (.iconst 1, 1) := by decide +kernel
theorem dX12_odds_66 : decode cX12_odds 66 = .ok (.if_icmp .ne 30, 3) := by decide +kernel
theorem dX12_odds_69 : decode cX12_odds 69 = .ok (.aload_n 0, 1) := by decide +kernel
theorem dX12_odds_70 : decode cX12_odds 70 = .ok (.iload_n 1, 1) := by decide +kernel
theorem dX12_odds_71 : decode cX12_odds 71 = .ok (.aload_n 0, 1) := by decide +kernel
theorem dX12_odds_72 : decode cX12_odds 72 = .ok (.getfield 81, 3) := by decide +kernel
theorem dX12_odds_75 : decode cX12_odds 75 = .ok (.iload 7, 2) := by decide +kernel
theorem dX12_odds_77 : decode cX12_odds 77 = .ok (.iaload, 1) := by decide +kernel
theorem dX12_odds_78 : decode cX12_odds 78 = .ok (.iconst 0, 1) := by decide +kernel
theorem dX12_odds_79 : decode cX12_odds 79 = .ok (.iconst 0, 1) := by decide +kernel
theorem dX12_odds_80 : decode cX12_odds 80 = .ok (.invokevirtual 403, 3) := by decide +kernel
theorem dX12_odds_83 : decode cX12_odds 83 = .ok (.ifCond .le 13, 3) := by decide +kernel
theorem dX12_odds_86 : decode cX12_odds 86 = .ok (.aload_n 0, 1) := by decide +kernel
theorem dX12_odds_87 : decode cX12_odds 87 = .ok (.getfield 84, 3) := by decide +kernel
theorem dX12_odds_90 : decode cX12_odds 90 = .ok (.iload 7, 2) := by decide +kernel
theorem dX12_odds_92 : decode cX12_odds 92 = .ok (.iaload, 1) := by decide +kernel
theorem dX12_odds_93 : decode cX12_odds 93 = .ok (.goto 4, 3) := by decide +kernel
theorem dX12_odds_96 : decode cX12_odds 96 = .ok (.iconst 0, 1) := by decide +kernel
theorem dX12_odds_97 : decode cX12_odds 97 = .ok (.iadd, 1) := by decide +kernel
theorem dX12_odds_98 : decode cX12_odds 98 = .ok (.istore 6, 2) := by decide +kernel
theorem dX12_odds_100 : decode cX12_odds 100 = .ok (.iinc 7 1, 3) := by decide +kernel
theorem dX12_odds_103 : decode cX12_odds 103 = .ok (.goto (-56), 3) := by decide +kernel
theorem dX12_odds_106 : decode cX12_odds 106 = .ok (.iload 5, 2) := by decide +kernel
theorem dX12_odds_108 : decode cX12_odds 108 = .ok (.iload 6, 2) := by decide +kernel
theorem dX12_odds_110 : decode cX12_odds 110 = .ok (.invokestatic 413, 3) := by decide +kernel
theorem dX12_odds_113 : decode cX12_odds 113 = .ok (.istore 7, 2) := by decide +kernel
theorem dX12_odds_115 : decode cX12_odds 115 = .ok (.iload_n 2, 1) := by decide +kernel
theorem dX12_odds_116 : decode cX12_odds 116 = .ok (.ifCond .ne 11, 3) := by decide +kernel
theorem dX12_odds_119 : decode cX12_odds 119 = .ok (.iload 6, 2) := by decide +kernel
theorem dX12_odds_121 : decode cX12_odds 121 = .ok (.iload 7, 2) := by decide +kernel
theorem dX12_odds_123 : decode cX12_odds 123 = .ok (.idiv, 1) := by decide +kernel
theorem dX12_odds_124 : decode cX12_odds 124 = .ok (.goto 8, 3) := by decide +kernel
theorem dX12_odds_127 : decode cX12_odds 127 = .ok (.iload 5, 2) := by decide +kernel
theorem dX12_odds_129 : decode cX12_odds 129 = .ok (.iload 7, 2) := by decide +kernel
theorem dX12_odds_131 : decode cX12_odds 131 = .ok (.idiv, 1) := by decide +kernel
theorem dX12_odds_132 : decode cX12_odds 132 = .ok (.ireturn, 1) := by decide +kernel
theorem dX12_isSet_0 : decode cX12_isSet 0 = .ok (.iload_n 1, 1) := by decide +kernel
theorem dX12_isSet_1 : decode cX12_isSet 1 = .ok (.iconst 0, 1) := by decide +kernel
theorem dX12_isSet_2 : decode cX12_isSet 2 = .ok (.iconst 1, 1) := by decide +kernel
theorem dX12_isSet_3 : decode cX12_isSet 3 = .ok (.aload_n 0, 1) := by decide +kernel
theorem dX12_isSet_4 : decode cX12_isSet 4 = .ok (.getfield 325, 3) := by decide +kernel
theorem dX12_isSet_7 : decode cX12_isSet 7 = .ok (.ishl, 1) := by decide +kernel
theorem dX12_isSet_8 : decode cX12_isSet 8 = .ok (.iconst 1, 1) := by decide +kernel
theorem dX12_isSet_9 : decode cX12_isSet 9 = .ok (.isub, 1) := by decide +kernel
theorem dX12_isSet_10 : decode cX12_isSet 10 = .ok (.invokestatic 355, 3) := by decide +kernel
theorem dX12_isSet_13 : decode cX12_isSet 13 = .ok (.ireturn, 1) := by decide +kernel
theorem dX12_costOf_0 : decode cX12_costOf 0 = .ok (.iconst 0, 1) := by decide +kernel
theorem dX12_costOf_1 : decode cX12_costOf 1 = .ok (.istore 5, 2) := by decide +kernel
theorem dX12_costOf_3 : decode cX12_costOf 3 = .ok (.iconst 0, 1) := by decide +kernel
theorem dX12_costOf_4 : decode cX12_costOf 4 = .ok (.istore 6, 2) := by decide +kernel
theorem dX12_costOf_6 : decode cX12_costOf 6 = .ok (.iload 6, 2) := by decide +kernel
theorem dX12_costOf_8 : decode cX12_costOf 8 = .ok (.aload_n 0, 1) := by decide +kernel
theorem dX12_costOf_9 : decode cX12_costOf 9 = .ok (.getfield 334, 3) := by decide +kernel
theorem dX12_costOf_12 : decode cX12_costOf 12 = .ok (.if_icmp .ge 118, 3) := by decide +kernel
theorem dX12_costOf_15 : decode cX12_costOf 15 = .ok (.iload 4, 2) := by decide +kernel
theorem dX12_costOf_17 : decode cX12_costOf 17 = .ok (.iload 6, 2) := by decide +kernel
theorem dX12_costOf_19 : decode cX12_costOf 19 = .ok (.ishr, 1) := by decide +kernel
theorem dX12_costOf_20 : decode cX12_costOf 20 = .ok (.iconst 1, 1) := by decide +kernel
theorem dX12_costOf_21 : decode cX12_costOf 21 = .ok (.iand, 1) := by decide +kernel
theorem dX12_costOf_22 : decode cX12_costOf 22 = .ok (.ifCond .ne 6, 3) := by decide +kernel
theorem dX12_costOf_25 : decode cX12_costOf 25 = .ok (.goto 99, 3) := by decide +kernel
theorem dX12_costOf_28 : decode cX12_costOf 28 = .ok (.iload_n 3, 1) := by decide +kernel
theorem dX12_costOf_29 : decode cX12_costOf 29 = .ok (.ifCond .ge 7, 3) := by decide +kernel
theorem dX12_costOf_32 : decode cX12_costOf 32 = .ok (.iconst 0, 1) := by decide +kernel
theorem dX12_costOf_33 : decode cX12_costOf 33 = .ok (.goto 7, 3) := by decide +kernel
theorem dX12_costOf_36 : decode cX12_costOf 36 = .ok (.aload_n 0, 1) := by decide +kernel
theorem dX12_costOf_37 : decode cX12_costOf 37 = .ok (.getfield 337, 3) := by decide +kernel
theorem dX12_costOf_40 : decode cX12_costOf 40 = .ok (.istore 7, 2) := by decide +kernel
theorem dX12_costOf_42 : decode cX12_costOf 42 = .ok (.iconst 0, 1) := by decide +kernel
theorem dX12_costOf_43 : decode cX12_costOf 43 = .ok (.istore 8, 2) := by decide +kernel
theorem dX12_costOf_45 : decode cX12_costOf 45 = .ok (.iload 8, 2) := by decide +kernel
theorem dX12_costOf_47 : decode cX12_costOf 47 = .ok (.aload_n 0, 1) := by decide +kernel
theorem dX12_costOf_48 : decode cX12_costOf 48 = .ok (.getfield 325, 3) := by decide +kernel
theorem dX12_costOf_51 : decode cX12_costOf 51 = .ok (.if_icmp .ge 58, 3) := by decide +kernel
theorem dX12_costOf_54 : decode cX12_costOf 54 = .ok (.iload 7, 2) := by decide +kernel
theorem dX12_costOf_56 : decode cX12_costOf 56 = .ok (.iload_n 1, 1) := by decide +kernel
theorem dX12_costOf_57 : decode cX12_costOf 57 = .ok (.iload 8, 2) := by decide +kernel
theorem dX12_costOf_59 : decode cX12_costOf 59 = .ok (.ishr, 1) := by decide +kernel
theorem dX12_costOf_60 : decode cX12_costOf 60 = .ok (.iconst 1, 1) := by decide +kernel
theorem dX12_costOf_61 : decode cX12_costOf 61 = .ok (.iand, 1) := by decide +kernel
theorem dX12_costOf_62 : decode cX12_costOf 62 = .ok (.iconst 1, 1) := by decide +kernel
theorem dX12_costOf_63 : decode cX12_costOf 63 = .ok (.if_icmp .ne 36, 3) := by decide +kernel
theorem dX12_costOf_66 : decode cX12_costOf 66 = .ok (.aload_n 0, 1) := by decide +kernel
theorem dX12_costOf_67 : decode cX12_costOf 67 = .ok (.iload 8, 2) := by decide +kernel
theorem dX12_costOf_69 : decode cX12_costOf 69 = .ok (.aload_n 0, 1) := by decide +kernel
theorem dX12_costOf_70 : decode cX12_costOf 70 = .ok (.getfield 81, 3) := by decide +kernel
theorem dX12_costOf_73 : decode cX12_costOf 73 = .ok (.iload 6, 2) := by decide +kernel
theorem dX12_costOf_75 : decode cX12_costOf 75 = .ok (.iaload, 1) := by decide +kernel
theorem dX12_costOf_76 : decode cX12_costOf 76 = .ok (.iload_n 3, 1) := by decide +kernel
theorem dX12_costOf_77 : decode cX12_costOf 77 = .ok (.iload_n 3, 1) := by decide +kernel
theorem dX12_costOf_78 : decode cX12_costOf 78 = .ok (.ifCond .ge 7, 3) := by decide +kernel
theorem dX12_costOf_81 : decode cX12_costOf 81 = .ok (.iconst 0, 1) := by decide +kernel
theorem dX12_costOf_82 : decode cX12_costOf 82 = .ok (.goto 4, 3) := by decide +kernel
theorem dX12_costOf_85 : decode cX12_costOf 85 = .ok (.iload_n 2, 1) := by decide +kernel
theorem dX12_costOf_86 : decode cX12_costOf 86 = .ok (.invokevirtual 403, 3) := by decide +kernel
theorem dX12_costOf_89 : decode cX12_costOf 89 = .ok (.ifCond .le 10, 3) := by decide +kernel
theorem dX12_costOf_92 : decode cX12_costOf 92 = .ok (.aload_n 0, 1) := by decide +kernel
theorem dX12_costOf_93 : decode cX12_costOf 93 = .ok (.getfield 340, 3) := by decide +kernel
theorem dX12_costOf_96 : decode cX12_costOf 96 = .ok (.goto 4, 3) := by decide +kernel
theorem dX12_costOf_99 : decode cX12_costOf 99 = .ok (.iconst 0, 1) := by decide +kernel
theorem dX12_costOf_100 : decode cX12_costOf 100 = .ok (.iadd, 1) := by decide +kernel
theorem dX12_costOf_101 : decode cX12_costOf 101 = .ok (.istore 7, 2) := by decide +kernel
theorem dX12_costOf_103 : decode cX12_costOf 103 = .ok (.iinc 8 1, 3) := by decide +kernel
theorem dX12_costOf_106 : decode cX12_costOf 106 = .ok (.goto (-61), 3) := by decide +kernel
theorem dX12_costOf_109 : decode cX12_costOf 109 = .ok (.iload 5, 2) := by decide +kernel
theorem dX12_costOf_111 : decode cX12_costOf 111 = .ok (.aload_n 0, 1) := by decide +kernel
theorem dX12_costOf_112 : decode cX12_costOf 112 = .ok (.getfield 84, 3) := by decide +kernel
theorem dX12_costOf_115 : decode cX12_costOf 115 = .ok (.iload 6, 2) := by decide +kernel
theorem dX12_costOf_117 : decode cX12_costOf 117 = .ok (.iaload, 1) := by decide +kernel
theorem dX12_costOf_118 : decode cX12_costOf 118 = .ok (.iload 7, 2) := by decide +kernel
theorem dX12_costOf_120 : decode cX12_costOf 120 = .ok (.imul, 1) := by decide +kernel
theorem dX12_costOf_121 : decode cX12_costOf 121 = .ok (.iadd, 1) := by decide +kernel
theorem dX12_costOf_122 : decode cX12_costOf 122 = .ok (.istore 5, 2) := by decide +kernel
theorem dX12_costOf_124 : decode cX12_costOf 124 = .ok (.iinc 6 1, 3) := by decide +kernel
theorem dX12_costOf_127 : decode cX12_costOf 127 = .ok (.goto (-121), 3) := by decide +kernel
theorem dX12_costOf_130 : decode cX12_costOf 130 = .ok (.iload 5, 2) := by decide +kernel
theorem dX12_costOf_132 : decode cX12_costOf 132 = .ok (.ireturn, 1) := by decide +kernel
theorem dX12_plan_0 : decode cX12_plan 0 = .ok (.aload_n 0, 1) := by decide +kernel
theorem dX12_plan_1 : decode cX12_plan 1 = .ok (.iload_n 1, 1) := by decide +kernel
theorem dX12_plan_2 : decode cX12_plan 2 = .ok (.invokevirtual 416, 3) := by decide +kernel
theorem dX12_plan_5 : decode cX12_plan 5 = .ok (.ifCond .eq 22, 3) := by decide +kernel
theorem dX12_plan_8 : decode cX12_plan 8 = .ok (.iload_n 2, 1) := by decide +kernel
theorem dX12_plan_9 : decode cX12_plan 9 = .ok (.iconst 0, 1) := by decide +kernel
theorem dX12_plan_10 : decode cX12_plan 10 = .ok (.bipush 99, 2) := by decide +kernel
theorem dX12_plan_12 : decode cX12_plan 12 = .ok (.invokestatic 355, 3) := by decide +kernel
theorem dX12_plan_15 : decode cX12_plan 15 = .ok (.ifCond .eq 12, 3) := by decide +kernel
theorem dX12_plan_18 : decode cX12_plan 18 = .ok (.iload_n 3, 1) := by decide +kernel
theorem dX12_plan_19 : decode cX12_plan 19 = .ok (.iconst 0, 1) := by decide +kernel
theorem dX12_plan_20 : decode cX12_plan 20 = .ok (.iconst 2, 1) := by decide +kernel
theorem dX12_plan_21 : decode cX12_plan 21 = .ok (.invokestatic 355, 3) := by decide +kernel
theorem dX12_plan_24 : decode cX12_plan 24 = .ok (.ifCond .ne 7, 3) := by decide +kernel
theorem dX12_plan_27 : decode cX12_plan 27 = .ok (.ldc_w 390, 3) := by decide +kernel
theorem dX12_plan_30 : decode cX12_plan 30 = .ok (.ireturn, 1) := by decide +kernel
theorem dX12_plan_31 : decode cX12_plan 31 = .ok (.aload_n 0, 1) := by decide +kernel
theorem dX12_plan_32 : decode cX12_plan 32 = .ok (.iload 4, 2) := by decide +kernel
theorem dX12_plan_34 : decode cX12_plan 34 = .ok (.invokevirtual 407, 3) := by decide +kernel
theorem dX12_plan_37 : decode cX12_plan 37 = .ok (.istore 5, 2) := by decide +kernel
theorem dX12_plan_39 : decode cX12_plan 39 = .ok (.iload 5, 2) := by decide +kernel
theorem dX12_plan_41 : decode cX12_plan 41 = .ok (.ifCond .ne 7, 3) := by decide +kernel
theorem dX12_plan_44 : decode cX12_plan 44 = .ok (.ldc_w 390, 3) := by decide +kernel
theorem dX12_plan_47 : decode cX12_plan 47 = .ok (.ireturn, 1) := by decide +kernel
theorem dX12_plan_48 : decode cX12_plan 48 = .ok (.iconst (-1), 1) := by decide +kernel
theorem dX12_plan_49 : decode cX12_plan 49 = .ok (.istore 6, 2) := by decide +kernel
theorem dX12_plan_51 : decode cX12_plan 51 = .ok (.aload_n 0, 1) := by decide +kernel
theorem dX12_plan_52 : decode cX12_plan 52 = .ok (.iload_n 1, 1) := by decide +kernel
theorem dX12_plan_53 : decode cX12_plan 53 = .ok (.iload_n 2, 1) := by decide +kernel
theorem dX12_plan_54 : decode cX12_plan 54 = .ok (.iconst (-1), 1) := by decide +kernel
theorem dX12_plan_55 : decode cX12_plan 55 = .ok (.iload 5, 2) := by decide +kernel
theorem dX12_plan_57 : decode cX12_plan 57 = .ok (.invokevirtual 419, 3) := by decide +kernel
theorem dX12_plan_60 : decode cX12_plan 60 = .ok (.istore 7, 2) := by decide +kernel
theorem dX12_plan_62 : decode cX12_plan 62 = .ok (.bipush 24, 2) := by decide +kernel
theorem dX12_plan_64 : decode cX12_plan 64 = .ok (.istore 8, 2) := by decide +kernel
theorem dX12_plan_66 : decode cX12_plan 66 = .ok (.iload 8, 2) := by decide +kernel
theorem dX12_plan_68 : decode cX12_plan 68 = .ok (.ifCond .lt 39, 3) := by decide +kernel
theorem dX12_plan_71 : decode cX12_plan 71 = .ok (.aload_n 0, 1) := by decide +kernel
theorem dX12_plan_72 : decode cX12_plan 72 = .ok (.iload_n 1, 1) := by decide +kernel
theorem dX12_plan_73 : decode cX12_plan 73 = .ok (.iload_n 2, 1) := by decide +kernel
theorem dX12_plan_74 : decode cX12_plan 74 = .ok (.iload 8, 2) := by decide +kernel
theorem dX12_plan_76 : decode cX12_plan 76 = .ok (.iload 5, 2) := by decide +kernel
theorem dX12_plan_78 : decode cX12_plan 78 = .ok (.invokevirtual 419, 3) := by decide +kernel
theorem dX12_plan_81 : decode cX12_plan 81 = .ok (.istore 9, 2) := by decide +kernel
theorem dX12_plan_83 : decode cX12_plan 83 = .ok (.iload 9, 2) := by decide +kernel
theorem dX12_plan_85 : decode cX12_plan 85 = .ok (.iload 7, 2) := by decide +kernel
theorem dX12_plan_87 : decode cX12_plan 87 = .ok (.if_icmp .le 6, 3) := by decide +kernel
theorem dX12_plan_90 : decode cX12_plan 90 = .ok (.goto 11, 3) := by decide +kernel
theorem dX12_plan_93 : decode cX12_plan 93 = .ok (.iload 8, 2) := by decide +kernel
theorem dX12_plan_95 : decode cX12_plan 95 = .ok (.istore 6, 2) := by decide +kernel
theorem dX12_plan_97 : decode cX12_plan 97 = .ok (.iload 9, 2) := by decide +kernel
theorem dX12_plan_99 : decode cX12_plan 99 = .ok (.istore 7, 2) := by decide +kernel
theorem dX12_plan_101 : decode cX12_plan 101 = .ok (.iinc 8 (-1), 3) := by decide +kernel
theorem dX12_plan_104 : decode cX12_plan 104 = .ok (.goto (-38), 3) := by decide +kernel
theorem dX12_plan_107 : decode cX12_plan 107 = .ok (.aload_n 0, 1) := by decide +kernel
theorem dX12_plan_108 : decode cX12_plan 108 = .ok (.iload 5, 2) := by decide +kernel
theorem dX12_plan_110 : decode cX12_plan 110 = .ok (.invokevirtual 410, 3) := by decide +kernel
theorem dX12_plan_113 : decode cX12_plan 113 = .ok (.istore 8, 2) := by decide +kernel
theorem dX12_plan_115 : decode cX12_plan 115 = .ok (.iload 8, 2) := by decide +kernel
theorem dX12_plan_117 : decode cX12_plan 117 = .ok (.iload 7, 2) := by decide +kernel
theorem dX12_plan_119 : decode cX12_plan 119 = .ok (.invokestatic 413, 3) := by decide +kernel
theorem dX12_plan_122 : decode cX12_plan 122 = .ok (.istore 9, 2) := by decide +kernel
theorem dX12_plan_124 : decode cX12_plan 124 = .ok (.iload_n 3, 1) := by decide +kernel
theorem dX12_plan_125 : decode cX12_plan 125 = .ok (.ifCond .ne 8, 3) := by decide +kernel
theorem dX12_plan_128 : decode cX12_plan 128 = .ok (.iload 6, 2) := by decide +kernel
theorem dX12_plan_130 : decode cX12_plan 130 = .ok (.goto 21, 3) := by decide +kernel
theorem dX12_plan_133 : decode cX12_plan 133 = .ok (.iload_n 3, 1) := by decide +kernel
theorem dX12_plan_134 : decode cX12_plan 134 = .ok (.iconst 1, 1) := by decide +kernel
theorem dX12_plan_135 : decode cX12_plan 135 = .ok (.if_icmp .ne 11, 3) := by decide +kernel
theorem dX12_plan_138 : decode cX12_plan 138 = .ok (.iload 7, 2) := by decide +kernel
theorem dX12_plan_140 : decode cX12_plan 140 = .ok (.iload 9, 2) := by decide +kernel
theorem dX12_plan_142 : decode cX12_plan 142 = .ok (.idiv, 1) := by decide +kernel
theorem dX12_plan_143 : decode cX12_plan 143 = .ok (.goto 8, 3) := by decide +kernel
theorem dX12_plan_146 : decode cX12_plan 146 = .ok (.iload 8, 2) := by decide +kernel
theorem dX12_plan_148 : decode cX12_plan 148 = .ok (.iload 9, 2) := by decide +kernel
theorem dX12_plan_150 : decode cX12_plan 150 = .ok (.idiv, 1) := by decide +kernel
theorem dX12_plan_151 : decode cX12_plan 151 = .ok (.ireturn, 1) := by decide +kernel
theorem dX12_layFar_0 : decode cX12_layFar 0 = .ok (.iconst 0, 1) := by decide +kernel
theorem dX12_layFar_1 : decode cX12_layFar 1 = .ok (.istore_n 1, 1) := by decide +kernel
theorem dX12_layFar_2 : decode cX12_layFar 2 = .ok (.iload_n 1, 1) := by decide +kernel
theorem dX12_layFar_3 : decode cX12_layFar 3 = .ok (.bipush 8, 2) := by decide +kernel
theorem dX12_layFar_5 : decode cX12_layFar 5 = .ok (.if_icmp .ge 74, 3) := by decide +kernel
theorem dX12_layFar_8 : decode cX12_layFar 8 = .ok (.iconst 0, 1) := by decide +kernel
theorem dX12_layFar_9 : decode cX12_layFar 9 = .ok (.istore_n 2, 1) := by decide +kernel
theorem dX12_layFar_10 : decode cX12_layFar 10 = .ok (.iload_n 2, 1) := by decide +kernel
theorem dX12_layFar_11 : decode cX12_layFar 11 = .ok (.bipush 8, 2) := by decide +kernel
theorem dX12_layFar_13 : decode cX12_layFar 13 = .ok (.if_icmp .ge 60, 3) := by decide +kernel
theorem dX12_layFar_16 : decode cX12_layFar 16 = .ok (.aload_n 0, 1) := by decide +kernel
theorem dX12_layFar_17 : decode cX12_layFar 17 = .ok (.getfield 96, 3) := by decide +kernel
theorem dX12_layFar_20 : decode cX12_layFar 20 = .ok (.bipush 8, 2) := by decide +kernel
theorem dX12_layFar_22 : decode cX12_layFar 22 = .ok (.iload_n 1, 1) := by decide +kernel
theorem dX12_layFar_23 : decode cX12_layFar 23 = .ok (.imul, 1) := by decide +kernel
theorem dX12_layFar_24 : decode cX12_layFar 24 = .ok (.iload_n 2, 1) := by decide +kernel
theorem dX12_layFar_25 : decode cX12_layFar 25 = .ok (.iadd, 1) := by decide +kernel
theorem dX12_layFar_26 : decode cX12_layFar 26 = .ok (.iload_n 1, 1) := by decide +kernel
theorem dX12_layFar_27 : decode cX12_layFar 27 = .ok (.iload_n 2, 1) := by decide +kernel
theorem dX12_layFar_28 : decode cX12_layFar 28 = .ok (.if_icmp .ne 7, 3) := by decide +kernel
theorem dX12_layFar_31 : decode cX12_layFar 31 = .ok (.iconst 0, 1) := by decide +kernel
theorem dX12_layFar_32 : decode cX12_layFar 32 = .ok (.goto 34, 3) := by decide +kernel
theorem dX12_layFar_35 : decode cX12_layFar 35 = .ok (.aload_n 0, 1) := by decide +kernel
theorem dX12_layFar_36 : decode cX12_layFar 36 = .ok (.getfield 69, 3) := by decide +kernel
theorem dX12_layFar_39 : decode cX12_layFar 39 = .ok (.bipush 8, 2) := by decide +kernel
theorem dX12_layFar_41 : decode cX12_layFar 41 = .ok (.iload_n 1, 1) := by decide +kernel
theorem dX12_layFar_42 : decode cX12_layFar 42 = .ok (.imul, 1) := by decide +kernel
theorem dX12_layFar_43 : decode cX12_layFar 43 = .ok (.iload_n 2, 1) := by decide +kernel
theorem dX12_layFar_44 : decode cX12_layFar 44 = .ok (.iadd, 1) := by decide +kernel
theorem dX12_layFar_45 : decode cX12_layFar 45 = .ok (.iaload, 1) := by decide +kernel
theorem dX12_layFar_46 : decode cX12_layFar 46 = .ok (.ifCond .le 17, 3) := by decide +kernel
theorem dX12_layFar_49 : decode cX12_layFar 49 = .ok (.aload_n 0, 1) := by decide +kernel
theorem dX12_layFar_50 : decode cX12_layFar 50 = .ok (.getfield 69, 3) := by decide +kernel
theorem dX12_layFar_53 : decode cX12_layFar 53 = .ok (.bipush 8, 2) := by decide +kernel
theorem dX12_layFar_55 : decode cX12_layFar 55 = .ok (.iload_n 1, 1) := by decide +kernel
theorem dX12_layFar_56 : decode cX12_layFar 56 = .ok (.imul, 1) := by decide +kernel
theorem dX12_layFar_57 : decode cX12_layFar 57 = .ok (.iload_n 2, 1) := by decide +kernel
theorem dX12_layFar_58 : decode cX12_layFar 58 = .ok (.iadd, 1) := by decide +kernel
theorem dX12_layFar_59 : decode cX12_layFar 59 = .ok (.iaload, 1) := by decide +kernel
theorem dX12_layFar_60 : decode cX12_layFar 60 = .ok (.goto 6, 3) := by decide +kernel
theorem dX12_layFar_63 : decode cX12_layFar 63 = .ok (.ldc_w 422, 3) := by decide +kernel
theorem dX12_layFar_66 : decode cX12_layFar 66 = .ok (.iastore, 1) := by decide +kernel
theorem dX12_layFar_67 : decode cX12_layFar 67 = .ok (.iinc 2 1, 3) := by decide +kernel
theorem dX12_layFar_70 : decode cX12_layFar 70 = .ok (.goto (-60), 3) := by decide +kernel
theorem dX12_layFar_73 : decode cX12_layFar 73 = .ok (.iinc 1 1, 3) := by decide +kernel
theorem dX12_layFar_76 : decode cX12_layFar 76 = .ok (.goto (-74), 3) := by decide +kernel
theorem dX12_layFar_79 : decode cX12_layFar 79 = .ok (.iconst 0, 1) := by decide +kernel
theorem dX12_layFar_80 : decode cX12_layFar 80 = .ok (.istore_n 1, 1) := by decide +kernel
theorem dX12_layFar_81 : decode cX12_layFar 81 = .ok (.iload_n 1, 1) := by decide +kernel
theorem dX12_layFar_82 : decode cX12_layFar 82 = .ok (.aload_n 0, 1) := by decide +kernel
theorem dX12_layFar_83 : decode cX12_layFar 83 = .ok (.getfield 325, 3) := by decide +kernel
theorem dX12_layFar_86 : decode cX12_layFar 86 = .ok (.if_icmp .ge 89, 3) := by decide +kernel
theorem dX12_layFar_89 : decode cX12_layFar 89 = .ok (.iconst 0, 1) := by decide +kernel
theorem dX12_layFar_90 : decode cX12_layFar 90 = .ok (.istore_n 2, 1) := by decide +kernel
theorem dX12_layFar_91 : decode cX12_layFar 91 = .ok (.iload_n 2, 1) := by decide +kernel
theorem dX12_layFar_92 : decode cX12_layFar 92 = .ok (.aload_n 0, 1) := by decide +kernel
theorem dX12_layFar_93 : decode cX12_layFar 93 = .ok (.getfield 325, 3) := by decide +kernel
theorem dX12_layFar_96 : decode cX12_layFar 96 = .ok (.if_icmp .ge 73, 3) := by decide +kernel
theorem dX12_layFar_99 : decode cX12_layFar 99 = .ok (.iconst 0, 1) := by decide +kernel
theorem dX12_layFar_100 : decode cX12_layFar 100 = .ok (.istore_n 3, 1) := by decide +kernel
theorem dX12_layFar_101 : decode cX12_layFar 101 = .ok (.iload_n 3, 1) := by decide +kernel
theorem dX12_layFar_102 : decode cX12_layFar 102 = .ok (.aload_n 0, 1) := by decide +kernel
theorem dX12_layFar_103 : decode cX12_layFar 103 = .ok (.getfield 325, 3) := by decide +kernel
theorem dX12_layFar_106 : decode cX12_layFar 106 = .ok (.if_icmp .ge 57, 3) := by decide +kernel
theorem dX12_layFar_109 : decode cX12_layFar 109 = .ok (.aload_n 0, 1) := by decide +kernel
theorem dX12_layFar_110 : decode cX12_layFar 110 = .ok (.getfield 96, 3) := by decide +kernel
theorem dX12_layFar_113 : decode cX12_layFar 113 = .ok (.bipush 8, 2) := by decide +kernel
theorem dX12_layFar_115 : decode cX12_layFar 115 = .ok (.iload_n 2, 1) := by decide +kernel
theorem dX12_layFar_116 : decode cX12_layFar 116 = .ok (.imul, 1) := by decide +kernel
theorem dX12_layFar_117 : decode cX12_layFar 117 = .ok (.iload_n 3, 1) := by decide +kernel
theorem dX12_layFar_118 : decode cX12_layFar 118 = .ok (.iadd, 1) := by decide +kernel
theorem dX12_layFar_119 : decode cX12_layFar 119 = .ok (.aload_n 0, 1) := by decide +kernel
theorem dX12_layFar_120 : decode cX12_layFar 120 = .ok (.getfield 96, 3) := by decide +kernel
theorem dX12_layFar_123 : decode cX12_layFar 123 = .ok (.bipush 8, 2) := by decide +kernel
theorem dX12_layFar_125 : decode cX12_layFar 125 = .ok (.iload_n 2, 1) := by decide +kernel
theorem dX12_layFar_126 : decode cX12_layFar 126 = .ok (.imul, 1) := by decide +kernel
theorem dX12_layFar_127 : decode cX12_layFar 127 = .ok (.iload_n 3, 1) := by decide +kernel
theorem dX12_layFar_128 : decode cX12_layFar 128 = .ok (.iadd, 1) := by decide +kernel
theorem dX12_layFar_129 : decode cX12_layFar 129 = .ok (.iaload, 1) := by decide +kernel
theorem dX12_layFar_130 : decode cX12_layFar 130 = .ok (.aload_n 0, 1) := by decide +kernel
theorem dX12_layFar_131 : decode cX12_layFar 131 = .ok (.getfield 96, 3) := by decide +kernel
theorem dX12_layFar_134 : decode cX12_layFar 134 = .ok (.bipush 8, 2) := by decide +kernel
theorem dX12_layFar_136 : decode cX12_layFar 136 = .ok (.iload_n 2, 1) := by decide +kernel
theorem dX12_layFar_137 : decode cX12_layFar 137 = .ok (.imul, 1) := by decide +kernel
theorem dX12_layFar_138 : decode cX12_layFar 138 = .ok (.iload_n 1, 1) := by decide +kernel
theorem dX12_layFar_139 : decode cX12_layFar 139 = .ok (.iadd, 1) := by decide +kernel
theorem dX12_layFar_140 : decode cX12_layFar 140 = .ok (.iaload, 1) := by decide +kernel
theorem dX12_layFar_141 : decode cX12_layFar 141 = .ok (.aload_n 0, 1) := by decide +kernel
theorem dX12_layFar_142 : decode cX12_layFar 142 = .ok (.getfield 96, 3) := by decide +kernel
theorem dX12_layFar_145 : decode cX12_layFar 145 = .ok (.bipush 8, 2) := by decide +kernel
theorem dX12_layFar_147 : decode cX12_layFar 147 = .ok (.iload_n 1, 1) := by decide +kernel
theorem dX12_layFar_148 : decode cX12_layFar 148 = .ok (.imul, 1) := by decide +kernel
theorem dX12_layFar_149 : decode cX12_layFar 149 = .ok (.iload_n 3, 1) := by decide +kernel
theorem dX12_layFar_150 : decode cX12_layFar 150 = .ok (.iadd, 1) := by decide +kernel
theorem dX12_layFar_151 : decode cX12_layFar 151 = .ok (.iaload, 1) := by decide +kernel
theorem dX12_layFar_152 : decode cX12_layFar 152 = .ok (.iadd, 1) := by decide +kernel
theorem dX12_layFar_153 : decode cX12_layFar 153 = .ok (.invokestatic 371, 3) := by decide +kernel
theorem dX12_layFar_156 : decode cX12_layFar 156 = .ok (.iastore, 1) := by decide +kernel
theorem dX12_layFar_157 : decode cX12_layFar 157 = .ok (.iinc 3 1, 3) := by decide +kernel
theorem dX12_layFar_160 : decode cX12_layFar 160 = .ok (.goto (-59), 3) := by decide +kernel
theorem dX12_layFar_163 : decode cX12_layFar 163 = .ok (.iinc 2 1, 3) := by decide +kernel
theorem dX12_layFar_166 : decode cX12_layFar 166 = .ok (.goto (-75), 3) := by decide +kernel
theorem dX12_layFar_169 : decode cX12_layFar 169 = .ok (.iinc 1 1, 3) := by decide +kernel
theorem dX12_layFar_172 : decode cX12_layFar 172 = .ok (.goto (-91), 3) := by decide +kernel
theorem dX12_layFar_175 : decode cX12_layFar 175 = .ok (.return_, 1) := by decide +kernel
theorem dX12_layWhite_0 : decode cX12_layWhite 0 = .ok (.iconst 0, 1) := by decide +kernel
theorem dX12_layWhite_1 : decode cX12_layWhite 1 = .ok (.istore_n 3, 1) := by decide +kernel
theorem dX12_layWhite_2 : decode cX12_layWhite 2 = .ok (.iload_n 3, 1) := by decide +kernel
theorem dX12_layWhite_3 : decode cX12_layWhite 3 = .ok (.aload_n 0, 1) := by decide +kernel
theorem dX12_layWhite_4 : decode cX12_layWhite 4 = .ok (.getfield 325, 3) := by decide +kernel
theorem dX12_layWhite_7 : decode cX12_layWhite 7 = .ok (.if_icmp .ge 63, 3) := by decide +kernel
theorem dX12_layWhite_10 : decode cX12_layWhite 10 = .ok (.iconst 0, 1) := by decide +kernel
theorem dX12_layWhite_11 : decode cX12_layWhite 11 = .ok (.istore 4, 2) := by decide +kernel
theorem dX12_layWhite_13 : decode cX12_layWhite 13 = .ok (.iload 4, 2) := by decide +kernel
theorem dX12_layWhite_15 : decode cX12_layWhite 15 = .ok (.bipush 72, 2) := by decide +kernel
theorem dX12_layWhite_17 : decode cX12_layWhite 17 = .ok (.if_icmp .ge 47, 3) := by decide +kernel
theorem dX12_layWhite_20 : decode cX12_layWhite 20 = .ok (.iload_n 1, 1) := by decide +kernel
theorem dX12_layWhite_21 : decode cX12_layWhite 21 = .ok (.iload_n 3, 1) := by decide +kernel
theorem dX12_layWhite_22 : decode cX12_layWhite 22 = .ok (.ishr, 1) := by decide +kernel
theorem dX12_layWhite_23 : decode cX12_layWhite 23 = .ok (.iconst 1, 1) := by decide +kernel
theorem dX12_layWhite_24 : decode cX12_layWhite 24 = .ok (.iand, 1) := by decide +kernel
theorem dX12_layWhite_25 : decode cX12_layWhite 25 = .ok (.iconst 1, 1) := by decide +kernel
theorem dX12_layWhite_26 : decode cX12_layWhite 26 = .ok (.if_icmp .ne 38, 3) := by decide +kernel
theorem dX12_layWhite_29 : decode cX12_layWhite 29 = .ok (.aload_n 0, 1) := by decide +kernel
theorem dX12_layWhite_30 : decode cX12_layWhite 30 = .ok (.getfield 105, 3) := by decide +kernel
theorem dX12_layWhite_33 : decode cX12_layWhite 33 = .ok (.bipush 72, 2) := by decide +kernel
theorem dX12_layWhite_35 : decode cX12_layWhite 35 = .ok (.iload_n 3, 1) := by decide +kernel
theorem dX12_layWhite_36 : decode cX12_layWhite 36 = .ok (.imul, 1) := by decide +kernel
theorem dX12_layWhite_37 : decode cX12_layWhite 37 = .ok (.iload 4, 2) := by decide +kernel
theorem dX12_layWhite_39 : decode cX12_layWhite 39 = .ok (.iadd, 1) := by decide +kernel
theorem dX12_layWhite_40 : decode cX12_layWhite 40 = .ok (.aload_n 0, 1) := by decide +kernel
theorem dX12_layWhite_41 : decode cX12_layWhite 41 = .ok (.iload_n 3, 1) := by decide +kernel
theorem dX12_layWhite_42 : decode cX12_layWhite 42 = .ok (.iconst 0, 1) := by decide +kernel
theorem dX12_layWhite_43 : decode cX12_layWhite 43 = .ok (.iload 4, 2) := by decide +kernel
theorem dX12_layWhite_45 : decode cX12_layWhite 45 = .ok (.iload_n 2, 1) := by decide +kernel
theorem dX12_layWhite_46 : decode cX12_layWhite 46 = .ok (.invokevirtual 403, 3) := by decide +kernel
theorem dX12_layWhite_49 : decode cX12_layWhite 49 = .ok (.ifCond .le 7, 3) := by decide +kernel
theorem dX12_layWhite_52 : decode cX12_layWhite 52 = .ok (.iconst 1, 1) := by decide +kernel
theorem dX12_layWhite_53 : decode cX12_layWhite 53 = .ok (.goto 4, 3) := by decide +kernel
theorem dX12_layWhite_56 : decode cX12_layWhite 56 = .ok (.iconst 0, 1) := by decide +kernel
theorem dX12_layWhite_57 : decode cX12_layWhite 57 = .ok (.bastore, 1) := by decide +kernel
theorem dX12_layWhite_58 : decode cX12_layWhite 58 = .ok (.iinc 4 1, 3) := by decide +kernel
theorem dX12_layWhite_61 : decode cX12_layWhite 61 = .ok (.goto (-48), 3) := by decide +kernel
theorem dX12_layWhite_64 : decode cX12_layWhite 64 = .ok (.iinc 3 1, 3) := by decide +kernel
theorem dX12_layWhite_67 : decode cX12_layWhite 67 = .ok (.goto (-65), 3) := by decide +kernel
theorem dX12_layWhite_70 : decode cX12_layWhite 70 = .ok (.return_, 1) := by decide +kernel
theorem dX12_minutesOf_0 : decode cX12_minutesOf 0 = .ok (.iconst 0, 1) := by decide +kernel
theorem dX12_minutesOf_1 : decode cX12_minutesOf 1 = .ok (.istore_n 2, 1) := by decide +kernel
theorem dX12_minutesOf_2 : decode cX12_minutesOf 2 = .ok (.aload_n 0, 1) := by decide +kernel
theorem dX12_minutesOf_3 : decode cX12_minutesOf 3 = .ok (.getfield 154, 3) := by decide +kernel
theorem dX12_minutesOf_6 : decode cX12_minutesOf 6 = .ok (.istore_n 3, 1) := by decide +kernel
theorem dX12_minutesOf_7 : decode cX12_minutesOf 7 = .ok (.iconst 0, 1) := by decide +kernel
theorem dX12_minutesOf_8 : decode cX12_minutesOf 8 = .ok (.istore 4, 2) := by decide +kernel
theorem dX12_minutesOf_10 : decode cX12_minutesOf 10 = .ok (.iload 4, 2) := by decide +kernel
theorem dX12_minutesOf_12 : decode cX12_minutesOf 12 = .ok (.iload_n 1, 1) := by decide +kernel
theorem dX12_minutesOf_13 : decode cX12_minutesOf 13 = .ok (.if_icmp .ge 37, 3) := by decide +kernel
theorem dX12_minutesOf_16 : decode cX12_minutesOf 16 = .ok (.iload_n 2, 1) := by decide +kernel
theorem dX12_minutesOf_17 : decode cX12_minutesOf 17 = .ok (.aload_n 0, 1) := by decide +kernel
theorem dX12_minutesOf_18 : decode cX12_minutesOf 18 = .ok (.getfield 96, 3) := by decide +kernel
theorem dX12_minutesOf_21 : decode cX12_minutesOf 21 = .ok (.bipush 8, 2) := by decide +kernel
theorem dX12_minutesOf_23 : decode cX12_minutesOf 23 = .ok (.iload_n 3, 1) := by decide +kernel
theorem dX12_minutesOf_24 : decode cX12_minutesOf 24 = .ok (.imul, 1) := by decide +kernel
theorem dX12_minutesOf_25 : decode cX12_minutesOf 25 = .ok (.aload_n 0, 1) := by decide +kernel
theorem dX12_minutesOf_26 : decode cX12_minutesOf 26 = .ok (.getfield 99, 3) := by decide +kernel
theorem dX12_minutesOf_29 : decode cX12_minutesOf 29 = .ok (.iload 4, 2) := by decide +kernel
theorem dX12_minutesOf_31 : decode cX12_minutesOf 31 = .ok (.iaload, 1) := by decide +kernel
theorem dX12_minutesOf_32 : decode cX12_minutesOf 32 = .ok (.iadd, 1) := by decide +kernel
theorem dX12_minutesOf_33 : decode cX12_minutesOf 33 = .ok (.iaload, 1) := by decide +kernel
theorem dX12_minutesOf_34 : decode cX12_minutesOf 34 = .ok (.iadd, 1) := by decide +kernel
theorem dX12_minutesOf_35 : decode cX12_minutesOf 35 = .ok (.istore_n 2, 1) := by decide +kernel
theorem dX12_minutesOf_36 : decode cX12_minutesOf 36 = .ok (.aload_n 0, 1) := by decide +kernel
theorem dX12_minutesOf_37 : decode cX12_minutesOf 37 = .ok (.getfield 99, 3) := by decide +kernel
theorem dX12_minutesOf_40 : decode cX12_minutesOf 40 = .ok (.iload 4, 2) := by decide +kernel
theorem dX12_minutesOf_42 : decode cX12_minutesOf 42 = .ok (.iaload, 1) := by decide +kernel
theorem dX12_minutesOf_43 : decode cX12_minutesOf 43 = .ok (.istore_n 3, 1) := by decide +kernel
theorem dX12_minutesOf_44 : decode cX12_minutesOf 44 = .ok (.iinc 4 1, 3) := by decide +kernel
theorem dX12_minutesOf_47 : decode cX12_minutesOf 47 = .ok (.goto (-37), 3) := by decide +kernel
theorem dX12_minutesOf_50 : decode cX12_minutesOf 50 = .ok (.iload_n 2, 1) := by decide +kernel
theorem dX12_minutesOf_51 : decode cX12_minutesOf 51 = .ok (.ireturn, 1) := by decide +kernel
theorem dX12_whitesOf_0 : decode cX12_whitesOf 0 = .ok (.iconst 0, 1) := by decide +kernel
theorem dX12_whitesOf_1 : decode cX12_whitesOf 1 = .ok (.istore_n 2, 1) := by decide +kernel
theorem dX12_whitesOf_2 : decode cX12_whitesOf 2 = .ok (.iconst 0, 1) := by decide +kernel
theorem dX12_whitesOf_3 : decode cX12_whitesOf 3 = .ok (.istore_n 3, 1) := by decide +kernel
theorem dX12_whitesOf_4 : decode cX12_whitesOf 4 = .ok (.iload_n 3, 1) := by decide +kernel
theorem dX12_whitesOf_5 : decode cX12_whitesOf 5 = .ok (.iload_n 1, 1) := by decide +kernel
theorem dX12_whitesOf_6 : decode cX12_whitesOf 6 = .ok (.if_icmp .ge 50, 3) := by decide +kernel
theorem dX12_whitesOf_9 : decode cX12_whitesOf 9 = .ok (.iload_n 2, 1) := by decide +kernel
theorem dX12_whitesOf_10 : decode cX12_whitesOf 10 = .ok (.aload_n 0, 1) := by decide +kernel
theorem dX12_whitesOf_11 : decode cX12_whitesOf 11 = .ok (.getfield 105, 3) := by decide +kernel
theorem dX12_whitesOf_14 : decode cX12_whitesOf 14 = .ok (.bipush 72, 2) := by decide +kernel
theorem dX12_whitesOf_16 : decode cX12_whitesOf 16 = .ok (.aload_n 0, 1) := by decide +kernel
theorem dX12_whitesOf_17 : decode cX12_whitesOf 17 = .ok (.getfield 99, 3) := by decide +kernel
theorem dX12_whitesOf_20 : decode cX12_whitesOf 20 = .ok (.iload_n 3, 1) := by decide +kernel
theorem dX12_whitesOf_21 : decode cX12_whitesOf 21 = .ok (.iaload, 1) := by decide +kernel
theorem dX12_whitesOf_22 : decode cX12_whitesOf 22 = .ok (.imul, 1) := by decide +kernel
theorem dX12_whitesOf_23 : decode cX12_whitesOf 23 = .ok (.aload_n 0, 1) := by decide +kernel
theorem dX12_whitesOf_24 : decode cX12_whitesOf 24 = .ok (.iload_n 3, 1) := by decide +kernel
theorem dX12_whitesOf_25 : decode cX12_whitesOf 25 = .ok (.iconst 1, 1) := by decide +kernel
theorem dX12_whitesOf_26 : decode cX12_whitesOf 26 = .ok (.iadd, 1) := by decide +kernel
theorem dX12_whitesOf_27 : decode cX12_whitesOf 27 = .ok (.invokevirtual 423, 3) := by decide +kernel
theorem dX12_whitesOf_30 : decode cX12_whitesOf 30 = .ok (.bipush 10, 2) := by decide +kernel
theorem dX12_whitesOf_32 : decode cX12_whitesOf 32 = .ok (.idiv, 1) := by decide +kernel
theorem dX12_whitesOf_33 : decode cX12_whitesOf 33 = .ok (.bipush 71, 2) := by decide +kernel
theorem dX12_whitesOf_35 : decode cX12_whitesOf 35 = .ok (.invokestatic 371, 3) := by decide +kernel
theorem dX12_whitesOf_38 : decode cX12_whitesOf 38 = .ok (.iadd, 1) := by decide +kernel
theorem dX12_whitesOf_39 : decode cX12_whitesOf 39 = .ok (.baload, 1) := by decide +kernel
theorem dX12_whitesOf_40 : decode cX12_whitesOf 40 = .ok (.ifCond .eq 7, 3) := by decide +kernel
theorem dX12_whitesOf_43 : decode cX12_whitesOf 43 = .ok (.iconst 1, 1) := by decide +kernel
theorem dX12_whitesOf_44 : decode cX12_whitesOf 44 = .ok (.goto 4, 3) := by decide +kernel
theorem dX12_whitesOf_47 : decode cX12_whitesOf 47 = .ok (.iconst 0, 1) := by decide +kernel
theorem dX12_whitesOf_48 : decode cX12_whitesOf 48 = .ok (.iadd, 1) := by decide +kernel
theorem dX12_whitesOf_49 : decode cX12_whitesOf 49 = .ok (.istore_n 2, 1) := by decide +kernel
theorem dX12_whitesOf_50 : decode cX12_whitesOf 50 = .ok (.iinc 3 1, 3) := by decide +kernel
theorem dX12_whitesOf_53 : decode cX12_whitesOf 53 = .ok (.goto (-49), 3) := by decide +kernel
theorem dX12_whitesOf_56 : decode cX12_whitesOf 56 = .ok (.iload_n 2, 1) := by decide +kernel
theorem dX12_whitesOf_57 : decode cX12_whitesOf 57 = .ok (.ireturn, 1) := by decide +kernel
theorem dX12_nextOrder_0 : decode cX12_nextOrder 0 = .ok (.iload_n 1, 1) := by decide +kernel
theorem dX12_nextOrder_1 : decode cX12_nextOrder 1 = .ok (.iconst 2, 1) := by decide +kernel
theorem dX12_nextOrder_2 : decode cX12_nextOrder 2 = .ok (.isub, 1) := by decide +kernel
theorem dX12_nextOrder_3 : decode cX12_nextOrder 3 = .ok (.istore_n 2, 1) := by decide +kernel
theorem dX12_nextOrder_4 : decode cX12_nextOrder 4 = .ok (.iload_n 2, 1) := by decide +kernel
theorem dX12_nextOrder_5 : decode cX12_nextOrder 5 = .ok (.ifCond .lt 26, 3) := by decide +kernel
theorem dX12_nextOrder_8 : decode cX12_nextOrder 8 = .ok (.aload_n 0, 1) := by decide +kernel
theorem dX12_nextOrder_9 : decode cX12_nextOrder 9 = .ok (.getfield 99, 3) := by decide +kernel
theorem dX12_nextOrder_12 : decode cX12_nextOrder 12 = .ok (.iload_n 2, 1) := by decide +kernel
theorem dX12_nextOrder_13 : decode cX12_nextOrder 13 = .ok (.iaload, 1) := by decide +kernel
theorem dX12_nextOrder_14 : decode cX12_nextOrder 14 = .ok (.aload_n 0, 1) := by decide +kernel
theorem dX12_nextOrder_15 : decode cX12_nextOrder 15 = .ok (.getfield 99, 3) := by decide +kernel
theorem dX12_nextOrder_18 : decode cX12_nextOrder 18 = .ok (.iload_n 2, 1) := by decide +kernel
theorem dX12_nextOrder_19 : decode cX12_nextOrder 19 = .ok (.iconst 1, 1) := by decide +kernel
theorem dX12_nextOrder_20 : decode cX12_nextOrder 20 = .ok (.iadd, 1) := by decide +kernel
theorem dX12_nextOrder_21 : decode cX12_nextOrder 21 = .ok (.iaload, 1) := by decide +kernel
theorem dX12_nextOrder_22 : decode cX12_nextOrder 22 = .ok (.if_icmp .le 9, 3) := by decide +kernel
theorem dX12_nextOrder_25 : decode cX12_nextOrder 25 = .ok (.iinc 2 (-1), 3) := by decide +kernel
theorem dX12_nextOrder_28 : decode cX12_nextOrder 28 = .ok (.goto (-24), 3) := by decide +kernel
theorem dX12_nextOrder_31 : decode cX12_nextOrder 31 = .ok (.iload_n 2, 1) := by decide +kernel
theorem dX12_nextOrder_32 : decode cX12_nextOrder 32 = .ok (.ifCond .ge 5, 3) := by decide +kernel
theorem dX12_nextOrder_35 : decode cX12_nextOrder 35 = .ok (.iconst 0, 1) := by decide +kernel
theorem dX12_nextOrder_36 : decode cX12_nextOrder 36 = .ok (.ireturn, 1) := by decide +kernel
theorem dX12_nextOrder_37 : decode cX12_nextOrder 37 = .ok (.iload_n 1, 1) := by decide +kernel
theorem dX12_nextOrder_38 : decode cX12_nextOrder 38 = .ok (.iconst 1, 1) := by decide +kernel
theorem dX12_nextOrder_39 : decode cX12_nextOrder 39 = .ok (.isub, 1) := by decide +kernel
theorem dX12_nextOrder_40 : decode cX12_nextOrder 40 = .ok (.istore_n 3, 1) := by decide +kernel
theorem dX12_nextOrder_41 : decode cX12_nextOrder 41 = .ok (.aload_n 0, 1) := by decide +kernel
theorem dX12_nextOrder_42 : decode cX12_nextOrder 42 = .ok (.getfield 99, 3) := by decide +kernel
theorem dX12_nextOrder_45 : decode cX12_nextOrder 45 = .ok (.iload_n 3, 1) := by decide +kernel
theorem dX12_nextOrder_46 : decode cX12_nextOrder 46 = .ok (.iaload, 1) := by decide +kernel
theorem dX12_nextOrder_47 : decode cX12_nextOrder 47 = .ok (.aload_n 0, 1) := by decide +kernel
theorem dX12_nextOrder_48 : decode cX12_nextOrder 48 = .ok (.getfield 99, 3) := by decide +kernel
theorem dX12_nextOrder_51 : decode cX12_nextOrder 51 = .ok (.iload_n 2, 1) := by decide +kernel
theorem dX12_nextOrder_52 : decode cX12_nextOrder 52 = .ok (.iaload, 1) := by decide +kernel
theorem dX12_nextOrder_53 : decode cX12_nextOrder 53 = .ok (.if_icmp .ge 9, 3) := by decide +kernel
theorem dX12_nextOrder_56 : decode cX12_nextOrder 56 = .ok (.iinc 3 (-1), 3) := by decide +kernel
theorem dX12_nextOrder_59 : decode cX12_nextOrder 59 = .ok (.goto (-18), 3) := by decide +kernel
theorem dX12_nextOrder_62 : decode cX12_nextOrder 62 = .ok (.aload_n 0, 1) := by decide +kernel
theorem dX12_nextOrder_63 : decode cX12_nextOrder 63 = .ok (.iload_n 2, 1) := by decide +kernel
theorem dX12_nextOrder_64 : decode cX12_nextOrder 64 = .ok (.iload_n 3, 1) := by decide +kernel
theorem dX12_nextOrder_65 : decode cX12_nextOrder 65 = .ok (.invokevirtual 426, 3) := by decide +kernel
theorem dX12_nextOrder_68 : decode cX12_nextOrder 68 = .ok (.iload_n 2, 1) := by decide +kernel
theorem dX12_nextOrder_69 : decode cX12_nextOrder 69 = .ok (.iconst 1, 1) := by decide +kernel
theorem dX12_nextOrder_70 : decode cX12_nextOrder 70 = .ok (.iadd, 1) := by decide +kernel
theorem dX12_nextOrder_71 : decode cX12_nextOrder 71 = .ok (.istore 4, 2) := by decide +kernel
theorem dX12_nextOrder_73 : decode cX12_nextOrder 73 = .ok (.iload_n 1, 1) := by decide +kernel
theorem dX12_nextOrder_74 : decode cX12_nextOrder 74 = .ok (.iconst 1, 1) := by decide +kernel
theorem dX12_nextOrder_75 : decode cX12_nextOrder 75 = .ok (.isub, 1) := by decide +kernel
theorem dX12_nextOrder_76 : decode cX12_nextOrder 76 = .ok (.istore 5, 2) := by decide +kernel
theorem dX12_nextOrder_78 : decode cX12_nextOrder 78 = .ok (.iload 4, 2) := by decide +kernel
theorem dX12_nextOrder_80 : decode cX12_nextOrder 80 = .ok (.iload 5, 2) := by decide +kernel
theorem dX12_nextOrder_82 : decode cX12_nextOrder 82 = .ok (.if_icmp .ge 20, 3) := by decide +kernel
theorem dX12_nextOrder_85 : decode cX12_nextOrder 85 = .ok (.aload_n 0, 1) := by decide +kernel
theorem dX12_nextOrder_86 : decode cX12_nextOrder 86 = .ok (.iload 4, 2) := by decide +kernel
theorem dX12_nextOrder_88 : decode cX12_nextOrder 88 = .ok (.iload 5, 2) := by decide +kernel
theorem dX12_nextOrder_90 : decode cX12_nextOrder 90 = .ok (.invokevirtual 426, 3) := by decide +kernel
theorem dX12_nextOrder_93 : decode cX12_nextOrder 93 = .ok (.iinc 4 1, 3) := by decide +kernel
theorem dX12_nextOrder_96 : decode cX12_nextOrder 96 = .ok (.iinc 5 (-1), 3) := by decide +kernel
theorem dX12_nextOrder_99 : decode cX12_nextOrder 99 = .ok (.goto (-21), 3) := by decide +kernel
theorem dX12_nextOrder_102 : decode cX12_nextOrder 102 = .ok (.iconst 1, 1) := by decide +kernel
theorem dX12_nextOrder_103 : decode cX12_nextOrder 103 = .ok (.ireturn, 1) := by decide +kernel
theorem dX12_swap_0 : decode cX12_swap 0 = .ok (.aload_n 0, 1) := by decide +kernel
theorem dX12_swap_1 : decode cX12_swap 1 = .ok (.getfield 99, 3) := by decide +kernel
theorem dX12_swap_4 : decode cX12_swap 4 = .ok (.iload_n 1, 1) := by decide +kernel
theorem dX12_swap_5 : decode cX12_swap 5 = .ok (.iaload, 1) := by decide +kernel
theorem dX12_swap_6 : decode cX12_swap 6 = .ok (.istore_n 3, 1) := by decide +kernel
theorem dX12_swap_7 : decode cX12_swap 7 = .ok (.aload_n 0, 1) := by decide +kernel
theorem dX12_swap_8 : decode cX12_swap 8 = .ok (.getfield 99, 3) := by decide +kernel
theorem dX12_swap_11 : decode cX12_swap 11 = .ok (.iload_n 1, 1) := by decide +kernel
theorem dX12_swap_12 : decode cX12_swap 12 = .ok (.aload_n 0, 1) := by decide +kernel
theorem dX12_swap_13 : decode cX12_swap 13 = .ok (.getfield 99, 3) := by decide +kernel
theorem dX12_swap_16 : decode cX12_swap 16 = .ok (.iload_n 2, 1) := by decide +kernel
theorem dX12_swap_17 : decode cX12_swap 17 = .ok (.iaload, 1) := by decide +kernel
theorem dX12_swap_18 : decode cX12_swap 18 = .ok (.iastore, 1) := by decide +kernel
theorem dX12_swap_19 : decode cX12_swap 19 = .ok (.aload_n 0, 1) := by decide +kernel
theorem dX12_swap_20 : decode cX12_swap 20 = .ok (.getfield 99, 3) := by decide +kernel
theorem dX12_swap_23 : decode cX12_swap 23 = .ok (.iload_n 2, 1) := by decide +kernel
theorem dX12_swap_24 : decode cX12_swap 24 = .ok (.iload_n 3, 1) := by decide +kernel
theorem dX12_swap_25 : decode cX12_swap 25 = .ok (.iastore, 1) := by decide +kernel
theorem dX12_swap_26 : decode cX12_swap 26 = .ok (.return_, 1) := by decide +kernel
theorem dX12_round_0 : decode cX12_round 0 = .ok (.aload_n 0, 1) := by decide +kernel
theorem dX12_round_1 : decode cX12_round 1 = .ok (.iconst 0, 1) := by decide +kernel
theorem dX12_round_2 : decode cX12_round 2 = .ok (.putfield 352, 3) := by decide +kernel
theorem dX12_round_5 : decode cX12_round 5 = .ok (.aload_n 0, 1) := by decide +kernel
theorem dX12_round_6 : decode cX12_round 6 = .ok (.iload_n 1, 1) := by decide +kernel
theorem dX12_round_7 : decode cX12_round 7 = .ok (.invokevirtual 416, 3) := by decide +kernel
theorem dX12_round_10 : decode cX12_round 10 = .ok (.ifCond .eq 29, 3) := by decide +kernel
theorem dX12_round_13 : decode cX12_round 13 = .ok (.iload_n 2, 1) := by decide +kernel
theorem dX12_round_14 : decode cX12_round 14 = .ok (.iconst 0, 1) := by decide +kernel
theorem dX12_round_15 : decode cX12_round 15 = .ok (.bipush 99, 2) := by decide +kernel
theorem dX12_round_17 : decode cX12_round 17 = .ok (.invokestatic 355, 3) := by decide +kernel
theorem dX12_round_20 : decode cX12_round 20 = .ok (.ifCond .eq 19, 3) := by decide +kernel
theorem dX12_round_23 : decode cX12_round 23 = .ok (.iload_n 3, 1) := by decide +kernel
theorem dX12_round_24 : decode cX12_round 24 = .ok (.iconst 0, 1) := by decide +kernel
theorem dX12_round_25 : decode cX12_round 25 = .ok (.iconst 1, 1) := by decide +kernel
theorem dX12_round_26 : decode cX12_round 26 = .ok (.invokestatic 355, 3) := by decide +kernel
theorem dX12_round_29 : decode cX12_round 29 = .ok (.ifCond .eq 10, 3) := by decide +kernel
theorem dX12_round_32 : decode cX12_round 32 = .ok (.aload_n 0, 1) := by decide +kernel
theorem dX12_round_33 : decode cX12_round 33 = .ok (.getfield 154, 3) := by decide +kernel
theorem dX12_round_36 : decode cX12_round 36 = .ok (.ifCond .ge 5, 3) := by decide +kernel
theorem dX12_round_39 : decode cX12_round 39 = .ok (.iconst (-1), 1) := by decide +kernel
theorem dX12_round_40 : decode cX12_round 40 = .ok (.ireturn, 1) := by decide +kernel
theorem dX12_round_41 : decode cX12_round 41 = .ok (.iconst 0, 1) := by decide +kernel
theorem dX12_round_42 : decode cX12_round 42 = .ok (.istore 4, 2) := by decide +kernel
theorem dX12_round_44 : decode cX12_round 44 = .ok (.iconst 0, 1) := by decide +kernel
theorem dX12_round_45 : decode cX12_round 45 = .ok (.istore 5, 2) := by decide +kernel
theorem dX12_round_47 : decode cX12_round 47 = .ok (.iload 5, 2) := by decide +kernel
theorem dX12_round_49 : decode cX12_round 49 = .ok (.aload_n 0, 1) := by decide +kernel
theorem dX12_round_50 : decode cX12_round 50 = .ok (.getfield 325, 3) := by decide +kernel
theorem dX12_round_53 : decode cX12_round 53 = .ok (.if_icmp .ge 42, 3) := by decide +kernel
theorem dX12_round_56 : decode cX12_round 56 = .ok (.iload_n 1, 1) := by decide +kernel
theorem dX12_round_57 : decode cX12_round 57 = .ok (.iload 5, 2) := by decide +kernel
theorem dX12_round_59 : decode cX12_round 59 = .ok (.ishr, 1) := by decide +kernel
theorem dX12_round_60 : decode cX12_round 60 = .ok (.iconst 1, 1) := by decide +kernel
theorem dX12_round_61 : decode cX12_round 61 = .ok (.iand, 1) := by decide +kernel
theorem dX12_round_62 : decode cX12_round 62 = .ok (.ifCond .ne 6, 3) := by decide +kernel
theorem dX12_round_65 : decode cX12_round 65 = .ok (.goto 24, 3) := by decide +kernel
theorem dX12_round_68 : decode cX12_round 68 = .ok (.iload 4, 2) := by decide +kernel
theorem dX12_round_70 : decode cX12_round 70 = .ok (.bipush 7, 2) := by decide +kernel
theorem dX12_round_72 : decode cX12_round 72 = .ok (.if_icmp .ne 5, 3) := by decide +kernel
theorem dX12_round_75 : decode cX12_round 75 = .ok (.iconst (-1), 1) := by decide +kernel
theorem dX12_round_76 : decode cX12_round 76 = .ok (.ireturn, 1) := by decide +kernel
theorem dX12_round_77 : decode cX12_round 77 = .ok (.aload_n 0, 1) := by decide +kernel
theorem dX12_round_78 : decode cX12_round 78 = .ok (.getfield 99, 3) := by decide +kernel
theorem dX12_round_81 : decode cX12_round 81 = .ok (.iload 4, 2) := by decide +kernel
theorem dX12_round_83 : decode cX12_round 83 = .ok (.iload 5, 2) := by decide +kernel
theorem dX12_round_85 : decode cX12_round 85 = .ok (.iastore, 1) := by decide +kernel
theorem dX12_round_86 : decode cX12_round 86 = .ok (.iinc 4 1, 3) := by decide +kernel
theorem dX12_round_89 : decode cX12_round 89 = .ok (.iinc 5 1, 3) := by decide +kernel
theorem dX12_round_92 : decode cX12_round 92 = .ok (.goto (-45), 3) := by decide +kernel
theorem dX12_round_95 : decode cX12_round 95 = .ok (.aload_n 0, 1) := by decide +kernel
theorem dX12_round_96 : decode cX12_round 96 = .ok (.invokevirtual 429, 3) := by decide +kernel
theorem dX12_round_99 : decode cX12_round 99 = .ok (.iconst 0, 1) := by decide +kernel
theorem dX12_round_100 : decode cX12_round 100 = .ok (.istore 5, 2) := by decide +kernel
theorem dX12_round_102 : decode cX12_round 102 = .ok (.iload 5, 2) := by decide +kernel
theorem dX12_round_104 : decode cX12_round 104 = .ok (.iload 4, 2) := by decide +kernel
theorem dX12_round_106 : decode cX12_round 106 = .ok (.if_icmp .ge 37, 3) := by decide +kernel
theorem dX12_round_109 : decode cX12_round 109 = .ok (.aload_n 0, 1) := by decide +kernel
theorem dX12_round_110 : decode cX12_round 110 = .ok (.getfield 96, 3) := by decide +kernel
theorem dX12_round_113 : decode cX12_round 113 = .ok (.bipush 8, 2) := by decide +kernel
theorem dX12_round_115 : decode cX12_round 115 = .ok (.aload_n 0, 1) := by decide +kernel
theorem dX12_round_116 : decode cX12_round 116 = .ok (.getfield 154, 3) := by decide +kernel
theorem dX12_round_119 : decode cX12_round 119 = .ok (.imul, 1) := by decide +kernel
theorem dX12_round_120 : decode cX12_round 120 = .ok (.aload_n 0, 1) := by decide +kernel
theorem dX12_round_121 : decode cX12_round 121 = .ok (.getfield 99, 3) := by decide +kernel
theorem dX12_round_124 : decode cX12_round 124 = .ok (.iload 5, 2) := by decide +kernel
theorem dX12_round_126 : decode cX12_round 126 = .ok (.iaload, 1) := by decide +kernel
theorem dX12_round_127 : decode cX12_round 127 = .ok (.iadd, 1) := by decide +kernel
theorem dX12_round_128 : decode cX12_round 128 = .ok (.iaload, 1) := by decide +kernel
theorem dX12_round_129 : decode cX12_round 129 = .ok (.ldc_w 422, 3) := by decide +kernel
theorem dX12_round_132 : decode cX12_round 132 = .ok (.if_icmp .lt 5, 3) := by decide +kernel
theorem dX12_round_135 : decode cX12_round 135 = .ok (.iconst (-1), 1) := by decide +kernel
theorem dX12_round_136 : decode cX12_round 136 = .ok (.ireturn, 1) := by decide +kernel
theorem dX12_round_137 : decode cX12_round 137 = .ok (.iinc 5 1, 3) := by decide +kernel
theorem dX12_round_140 : decode cX12_round 140 = .ok (.goto (-38), 3) := by decide +kernel
theorem dX12_round_143 : decode cX12_round 143 = .ok (.aload_n 0, 1) := by decide +kernel
theorem dX12_round_144 : decode cX12_round 144 = .ok (.iload_n 1, 1) := by decide +kernel
theorem dX12_round_145 : decode cX12_round 145 = .ok (.iload_n 2, 1) := by decide +kernel
theorem dX12_round_146 : decode cX12_round 146 = .ok (.invokevirtual 432, 3) := by decide +kernel
theorem dX12_round_149 : decode cX12_round 149 = .ok (.iconst (-1), 1) := by decide +kernel
theorem dX12_round_150 : decode cX12_round 150 = .ok (.istore 5, 2) := by decide +kernel
theorem dX12_round_152 : decode cX12_round 152 = .ok (.iconst 0, 1) := by decide +kernel
theorem dX12_round_153 : decode cX12_round 153 = .ok (.istore 6, 2) := by decide +kernel
theorem dX12_round_155 : decode cX12_round 155 = .ok (.iconst 1, 1) := by decide +kernel
theorem dX12_round_156 : decode cX12_round 156 = .ok (.istore 7, 2) := by decide +kernel
theorem dX12_round_158 : decode cX12_round 158 = .ok (.iload 7, 2) := by decide +kernel
theorem dX12_round_160 : decode cX12_round 160 = .ok (.ifCond .eq 94, 3) := by decide +kernel
theorem dX12_round_163 : decode cX12_round 163 = .ok (.aload_n 0, 1) := by decide +kernel
theorem dX12_round_164 : decode cX12_round 164 = .ok (.iload 4, 2) := by decide +kernel
theorem dX12_round_166 : decode cX12_round 166 = .ok (.invokevirtual 435, 3) := by decide +kernel
theorem dX12_round_169 : decode cX12_round 169 = .ok (.istore 8, 2) := by decide +kernel
theorem dX12_round_171 : decode cX12_round 171 = .ok (.aload_n 0, 1) := by decide +kernel
theorem dX12_round_172 : decode cX12_round 172 = .ok (.iload 4, 2) := by decide +kernel
theorem dX12_round_174 : decode cX12_round 174 = .ok (.invokevirtual 423, 3) := by decide +kernel
theorem dX12_round_177 : decode cX12_round 177 = .ok (.istore 9, 2) := by decide +kernel
theorem dX12_round_179 : decode cX12_round 179 = .ok (.iload 5, 2) := by decide +kernel
theorem dX12_round_181 : decode cX12_round 181 = .ok (.ifCond .lt 24, 3) := by decide +kernel
theorem dX12_round_184 : decode cX12_round 184 = .ok (.iload 8, 2) := by decide +kernel
theorem dX12_round_186 : decode cX12_round 186 = .ok (.iload 5, 2) := by decide +kernel
theorem dX12_round_188 : decode cX12_round 188 = .ok (.if_icmp .lt 17, 3) := by decide +kernel
theorem dX12_round_191 : decode cX12_round 191 = .ok (.iload 8, 2) := by decide +kernel
theorem dX12_round_193 : decode cX12_round 193 = .ok (.iload 5, 2) := by decide +kernel
theorem dX12_round_195 : decode cX12_round 195 = .ok (.if_icmp .ne 48, 3) := by decide +kernel
theorem dX12_round_198 : decode cX12_round 198 = .ok (.iload 9, 2) := by decide +kernel
theorem dX12_round_200 : decode cX12_round 200 = .ok (.iload 6, 2) := by decide +kernel
theorem dX12_round_202 : decode cX12_round 202 = .ok (.if_icmp .ge 41, 3) := by decide +kernel
theorem dX12_round_205 : decode cX12_round 205 = .ok (.iload 8, 2) := by decide +kernel
theorem dX12_round_207 : decode cX12_round 207 = .ok (.istore 5, 2) := by decide +kernel
theorem dX12_round_209 : decode cX12_round 209 = .ok (.iload 9, 2) := by decide +kernel
theorem dX12_round_211 : decode cX12_round 211 = .ok (.istore 6, 2) := by decide +kernel
theorem dX12_round_213 : decode cX12_round 213 = .ok (.iconst 0, 1) := by decide +kernel
theorem dX12_round_214 : decode cX12_round 214 = .ok (.istore 10, 2) := by decide +kernel
theorem dX12_round_216 : decode cX12_round 216 = .ok (.iload 10, 2) := by decide +kernel
theorem dX12_round_218 : decode cX12_round 218 = .ok (.iload 4, 2) := by decide +kernel
theorem dX12_round_220 : decode cX12_round 220 = .ok (.if_icmp .ge 23, 3) := by decide +kernel
theorem dX12_round_223 : decode cX12_round 223 = .ok (.aload_n 0, 1) := by decide +kernel
theorem dX12_round_224 : decode cX12_round 224 = .ok (.getfield 102, 3) := by decide +kernel
theorem dX12_round_227 : decode cX12_round 227 = .ok (.iload 10, 2) := by decide +kernel
theorem dX12_round_229 : decode cX12_round 229 = .ok (.aload_n 0, 1) := by decide +kernel
theorem dX12_round_230 : decode cX12_round 230 = .ok (.getfield 99, 3) := by decide +kernel
theorem dX12_round_233 : decode cX12_round 233 = .ok (.iload 10, 2) := by decide +kernel
theorem dX12_round_235 : decode cX12_round 235 = .ok (.iaload, 1) := by decide +kernel
theorem dX12_round_236 : decode cX12_round 236 = .ok (.iastore, 1) := by decide +kernel
theorem dX12_round_237 : decode cX12_round 237 = .ok (.iinc 10 1, 3) := by decide +kernel
theorem dX12_round_240 : decode cX12_round 240 = .ok (.goto (-24), 3) := by decide +kernel
theorem dX12_round_243 : decode cX12_round 243 = .ok (.aload_n 0, 1) := by decide +kernel
theorem dX12_round_244 : decode cX12_round 244 = .ok (.iload 4, 2) := by decide +kernel
theorem dX12_round_246 : decode cX12_round 246 = .ok (.invokevirtual 438, 3) := by decide +kernel
theorem dX12_round_249 : decode cX12_round 249 = .ok (.istore 7, 2) := by decide +kernel
theorem dX12_round_251 : decode cX12_round 251 = .ok (.goto (-93), 3) := by decide +kernel
theorem dX12_round_254 : decode cX12_round 254 = .ok (.aload_n 0, 1) := by decide +kernel
theorem dX12_round_255 : decode cX12_round 255 = .ok (.iload 4, 2) := by decide +kernel
theorem dX12_round_257 : decode cX12_round 257 = .ok (.putfield 352, 3) := by decide +kernel
theorem dX12_round_260 : decode cX12_round 260 = .ok (.iload_n 3, 1) := by decide +kernel
theorem dX12_round_261 : decode cX12_round 261 = .ok (.ifCond .ne 8, 3) := by decide +kernel
theorem dX12_round_264 : decode cX12_round 264 = .ok (.iload 5, 2) := by decide +kernel
theorem dX12_round_266 : decode cX12_round 266 = .ok (.goto 5, 3) := by decide +kernel
theorem dX12_round_269 : decode cX12_round 269 = .ok (.iload 6, 2) := by decide +kernel
theorem dX12_round_271 : decode cX12_round 271 = .ok (.ireturn, 1) := by decide +kernel
theorem dX12_lies_0 : decode cX12_lies 0 = .ok (.iload_n 1, 1) := by decide +kernel
theorem dX12_lies_1 : decode cX12_lies 1 = .ok (.iconst 0, 1) := by decide +kernel
theorem dX12_lies_2 : decode cX12_lies 2 = .ok (.aload_n 0, 1) := by decide +kernel
theorem dX12_lies_3 : decode cX12_lies 3 = .ok (.getfield 352, 3) := by decide +kernel
theorem dX12_lies_6 : decode cX12_lies 6 = .ok (.iconst 1, 1) := by decide +kernel
theorem dX12_lies_7 : decode cX12_lies 7 = .ok (.isub, 1) := by decide +kernel
theorem dX12_lies_8 : decode cX12_lies 8 = .ok (.invokestatic 355, 3) := by decide +kernel
theorem dX12_lies_11 : decode cX12_lies 11 = .ok (.ifCond .eq 12, 3) := by decide +kernel
theorem dX12_lies_14 : decode cX12_lies 14 = .ok (.aload_n 0, 1) := by decide +kernel
theorem dX12_lies_15 : decode cX12_lies 15 = .ok (.getfield 102, 3) := by decide +kernel
theorem dX12_lies_18 : decode cX12_lies 18 = .ok (.iload_n 1, 1) := by decide +kernel
theorem dX12_lies_19 : decode cX12_lies 19 = .ok (.iaload, 1) := by decide +kernel
theorem dX12_lies_20 : decode cX12_lies 20 = .ok (.goto 4, 3) := by decide +kernel
theorem dX12_lies_23 : decode cX12_lies 23 = .ok (.iconst (-1), 1) := by decide +kernel
theorem dX12_lies_24 : decode cX12_lies 24 = .ok (.ireturn, 1) := by decide +kernel
theorem dX12_layBlocked_0 : decode cX12_layBlocked 0 = .ok (.iconst 0, 1) := by decide +kernel
theorem dX12_layBlocked_1 : decode cX12_layBlocked 1 = .ok (.istore_n 1, 1) := by decide +kernel
theorem dX12_layBlocked_2 : decode cX12_layBlocked 2 = .ok (.iload_n 1, 1) := by decide +kernel
theorem dX12_layBlocked_3 : decode cX12_layBlocked 3 = .ok (.bipush 72, 2) := by decide +kernel
theorem dX12_layBlocked_5 : decode cX12_layBlocked 5 = .ok (.if_icmp .gt 16, 3) := by decide +kernel
theorem dX12_layBlocked_8 : decode cX12_layBlocked 8 = .ok (.aload_n 0, 1) := by decide +kernel
theorem dX12_layBlocked_9 : decode cX12_layBlocked 9 = .ok (.getfield 112, 3) := by decide +kernel
theorem dX12_layBlocked_12 : decode cX12_layBlocked 12 = .ok (.iload_n 1, 1) := by decide +kernel
theorem dX12_layBlocked_13 : decode cX12_layBlocked 13 = .ok (.iconst 0, 1) := by decide +kernel
theorem dX12_layBlocked_14 : decode cX12_layBlocked 14 = .ok (.iastore, 1) := by decide +kernel
theorem dX12_layBlocked_15 : decode cX12_layBlocked 15 = .ok (.iinc 1 1, 3) := by decide +kernel
theorem dX12_layBlocked_18 : decode cX12_layBlocked 18 = .ok (.goto (-16), 3) := by decide +kernel
theorem dX12_layBlocked_21 : decode cX12_layBlocked 21 = .ok (.iconst 0, 1) := by decide +kernel
theorem dX12_layBlocked_22 : decode cX12_layBlocked 22 = .ok (.istore_n 1, 1) := by decide +kernel
theorem dX12_layBlocked_23 : decode cX12_layBlocked 23 = .ok (.iload_n 1, 1) := by decide +kernel
theorem dX12_layBlocked_24 : decode cX12_layBlocked 24 = .ok (.aload_n 0, 1) := by decide +kernel
theorem dX12_layBlocked_25 : decode cX12_layBlocked 25 = .ok (.getfield 325, 3) := by decide +kernel
theorem dX12_layBlocked_28 : decode cX12_layBlocked 28 = .ok (.if_icmp .ge 64, 3) := by decide +kernel
theorem dX12_layBlocked_31 : decode cX12_layBlocked 31 = .ok (.aload_n 0, 1) := by decide +kernel
theorem dX12_layBlocked_32 : decode cX12_layBlocked 32 = .ok (.iload_n 1, 1) := by decide +kernel
theorem dX12_layBlocked_33 : decode cX12_layBlocked 33 = .ok (.invokevirtual 380, 3) := by decide +kernel
theorem dX12_layBlocked_36 : decode cX12_layBlocked 36 = .ok (.iconst 0, 1) := by decide +kernel
theorem dX12_layBlocked_37 : decode cX12_layBlocked 37 = .ok (.istore_n 2, 1) := by decide +kernel
theorem dX12_layBlocked_38 : decode cX12_layBlocked 38 = .ok (.iload_n 2, 1) := by decide +kernel
theorem dX12_layBlocked_39 : decode cX12_layBlocked 39 = .ok (.bipush 72, 2) := by decide +kernel
theorem dX12_layBlocked_41 : decode cX12_layBlocked 41 = .ok (.if_icmp .gt 45, 3) := by decide +kernel
theorem dX12_layBlocked_44 : decode cX12_layBlocked 44 = .ok (.aload_n 0, 1) := by decide +kernel
theorem dX12_layBlocked_45 : decode cX12_layBlocked 45 = .ok (.getfield 112, 3) := by decide +kernel
theorem dX12_layBlocked_48 : decode cX12_layBlocked 48 = .ok (.iload_n 2, 1) := by decide +kernel
theorem dX12_layBlocked_49 : decode cX12_layBlocked 49 = .ok (.dup2, 1) := by decide +kernel
theorem dX12_layBlocked_50 : decode cX12_layBlocked 50 = .ok (.iaload, 1) := by decide +kernel
theorem dX12_layBlocked_51 : decode cX12_layBlocked 51 = .ok (.aload_n 0, 1) := by decide +kernel
theorem dX12_layBlocked_52 : decode cX12_layBlocked 52 = .ok (.iload_n 1, 1) := by decide +kernel
theorem dX12_layBlocked_53 : decode cX12_layBlocked 53 = .ok (.invokevirtual 397, 3) := by decide +kernel
theorem dX12_layBlocked_56 : decode cX12_layBlocked 56 = .ok (.ifCond .eq 9, 3) := by decide +kernel
theorem dX12_layBlocked_59 : decode cX12_layBlocked 59 = .ok (.iconst 1, 1) := by decide +kernel
theorem dX12_layBlocked_60 : decode cX12_layBlocked 60 = .ok (.iload_n 1, 1) := by decide +kernel
theorem dX12_layBlocked_61 : decode cX12_layBlocked 61 = .ok (.ishl, 1) := by decide +kernel
theorem dX12_layBlocked_62 : decode cX12_layBlocked 62 = .ok (.goto 4, 3) := by decide +kernel
theorem dX12_layBlocked_65 : decode cX12_layBlocked 65 = .ok (.iconst 0, 1) := by decide +kernel
theorem dX12_layBlocked_66 : decode cX12_layBlocked 66 = .ok (.ior, 1) := by decide +kernel
theorem dX12_layBlocked_67 : decode cX12_layBlocked 67 = .ok (.iastore, 1) := by decide +kernel
theorem dX12_layBlocked_68 : decode cX12_layBlocked 68 = .ok (.aload_n 0, 1) := by decide +kernel
theorem dX12_layBlocked_69 : decode cX12_layBlocked 69 = .ok (.iload_n 1, 1) := by decide +kernel
theorem dX12_layBlocked_70 : decode cX12_layBlocked 70 = .ok (.aload_n 0, 1) := by decide +kernel
theorem dX12_layBlocked_71 : decode cX12_layBlocked 71 = .ok (.getfield 343, 3) := by decide +kernel
theorem dX12_layBlocked_74 : decode cX12_layBlocked 74 = .ok (.iload_n 2, 1) := by decide +kernel
theorem dX12_layBlocked_75 : decode cX12_layBlocked 75 = .ok (.iadd, 1) := by decide +kernel
theorem dX12_layBlocked_76 : decode cX12_layBlocked 76 = .ok (.iconst 0, 1) := by decide +kernel
theorem dX12_layBlocked_77 : decode cX12_layBlocked 77 = .ok (.invokevirtual 383, 3) := by decide +kernel
theorem dX12_layBlocked_80 : decode cX12_layBlocked 80 = .ok (.iinc 2 1, 3) := by decide +kernel
theorem dX12_layBlocked_83 : decode cX12_layBlocked 83 = .ok (.goto (-45), 3) := by decide +kernel
theorem dX12_layBlocked_86 : decode cX12_layBlocked 86 = .ok (.iinc 1 1, 3) := by decide +kernel
theorem dX12_layBlocked_89 : decode cX12_layBlocked 89 = .ok (.goto (-66), 3) := by decide +kernel
theorem dX12_layBlocked_92 : decode cX12_layBlocked 92 = .ok (.return_, 1) := by decide +kernel
theorem dX12_open_0 : decode cX12_open 0 = .ok (.aload_n 0, 1) := by decide +kernel
theorem dX12_open_1 : decode cX12_open 1 = .ok (.iload_n 1, 1) := by decide +kernel
theorem dX12_open_2 : decode cX12_open 2 = .ok (.invokevirtual 391, 3) := by decide +kernel
theorem dX12_open_5 : decode cX12_open 5 = .ok (.ifCond .eq 21, 3) := by decide +kernel
theorem dX12_open_8 : decode cX12_open 8 = .ok (.aload_n 0, 1) := by decide +kernel
theorem dX12_open_9 : decode cX12_open 9 = .ok (.iload_n 2, 1) := by decide +kernel
theorem dX12_open_10 : decode cX12_open 10 = .ok (.invokevirtual 391, 3) := by decide +kernel
theorem dX12_open_13 : decode cX12_open 13 = .ok (.ifCond .eq 13, 3) := by decide +kernel
theorem dX12_open_16 : decode cX12_open 16 = .ok (.iload_n 3, 1) := by decide +kernel
theorem dX12_open_17 : decode cX12_open 17 = .ok (.iconst 0, 1) := by decide +kernel
theorem dX12_open_18 : decode cX12_open 18 = .ok (.bipush 71, 2) := by decide +kernel
theorem dX12_open_20 : decode cX12_open 20 = .ok (.invokestatic 355, 3) := by decide +kernel
theorem dX12_open_23 : decode cX12_open 23 = .ok (.ifCond .ne 5, 3) := by decide +kernel
theorem dX12_open_26 : decode cX12_open 26 = .ok (.iconst (-1), 1) := by decide +kernel
theorem dX12_open_27 : decode cX12_open 27 = .ok (.ireturn, 1) := by decide +kernel
theorem dX12_open_28 : decode cX12_open 28 = .ok (.aload_n 0, 1) := by decide +kernel
theorem dX12_open_29 : decode cX12_open 29 = .ok (.invokevirtual 441, 3) := by decide +kernel
theorem dX12_open_32 : decode cX12_open 32 = .ok (.iconst 0, 1) := by decide +kernel
theorem dX12_open_33 : decode cX12_open 33 = .ok (.istore 4, 2) := by decide +kernel
theorem dX12_open_35 : decode cX12_open 35 = .ok (.iload 4, 2) := by decide +kernel
theorem dX12_open_37 : decode cX12_open 37 = .ok (.sipush 720, 3) := by decide +kernel
theorem dX12_open_40 : decode cX12_open 40 = .ok (.if_icmp .gt 17, 3) := by decide +kernel
theorem dX12_open_43 : decode cX12_open 43 = .ok (.aload_n 0, 1) := by decide +kernel
theorem dX12_open_44 : decode cX12_open 44 = .ok (.getfield 109, 3) := by decide +kernel
theorem dX12_open_47 : decode cX12_open 47 = .ok (.iload 4, 2) := by decide +kernel
theorem dX12_open_49 : decode cX12_open 49 = .ok (.iconst 0, 1) := by decide +kernel
theorem dX12_open_50 : decode cX12_open 50 = .ok (.iastore, 1) := by decide +kernel
theorem dX12_open_51 : decode cX12_open 51 = .ok (.iinc 4 1, 3) := by decide +kernel
theorem dX12_open_54 : decode cX12_open 54 = .ok (.goto (-19), 3) := by decide +kernel
theorem dX12_open_57 : decode cX12_open 57 = .ok (.aload_n 0, 1) := by decide +kernel
theorem dX12_open_58 : decode cX12_open 58 = .ok (.getfield 109, 3) := by decide +kernel
theorem dX12_open_61 : decode cX12_open 61 = .ok (.iconst 0, 1) := by decide +kernel
theorem dX12_open_62 : decode cX12_open 62 = .ok (.iconst 1, 1) := by decide +kernel
theorem dX12_open_63 : decode cX12_open 63 = .ok (.iload_n 1, 1) := by decide +kernel
theorem dX12_open_64 : decode cX12_open 64 = .ok (.ishl, 1) := by decide +kernel
theorem dX12_open_65 : decode cX12_open 65 = .ok (.iastore, 1) := by decide +kernel
theorem dX12_open_66 : decode cX12_open 66 = .ok (.iconst 0, 1) := by decide +kernel
theorem dX12_open_67 : decode cX12_open 67 = .ok (.istore 4, 2) := by decide +kernel
theorem dX12_open_69 : decode cX12_open 69 = .ok (.iload 4, 2) := by decide +kernel
theorem dX12_open_71 : decode cX12_open 71 = .ok (.sipush 720, 3) := by decide +kernel
theorem dX12_open_74 : decode cX12_open 74 = .ok (.if_icmp .gt 158, 3) := by decide +kernel
theorem dX12_open_77 : decode cX12_open 77 = .ok (.aload_n 0, 1) := by decide +kernel
theorem dX12_open_78 : decode cX12_open 78 = .ok (.getfield 109, 3) := by decide +kernel
theorem dX12_open_81 : decode cX12_open 81 = .ok (.iload 4, 2) := by decide +kernel
theorem dX12_open_83 : decode cX12_open 83 = .ok (.dup2, 1) := by decide +kernel
theorem dX12_open_84 : decode cX12_open 84 = .ok (.iaload, 1) := by decide +kernel
theorem dX12_open_85 : decode cX12_open 85 = .ok (.aload_n 0, 1) := by decide +kernel
theorem dX12_open_86 : decode cX12_open 86 = .ok (.getfield 112, 3) := by decide +kernel
theorem dX12_open_89 : decode cX12_open 89 = .ok (.iload_n 3, 1) := by decide +kernel
theorem dX12_open_90 : decode cX12_open 90 = .ok (.iload 4, 2) := by decide +kernel
theorem dX12_open_92 : decode cX12_open 92 = .ok (.bipush 10, 2) := by decide +kernel
theorem dX12_open_94 : decode cX12_open 94 = .ok (.idiv, 1) := by decide +kernel
theorem dX12_open_95 : decode cX12_open 95 = .ok (.iadd, 1) := by decide +kernel
theorem dX12_open_96 : decode cX12_open 96 = .ok (.bipush 72, 2) := by decide +kernel
theorem dX12_open_98 : decode cX12_open 98 = .ok (.invokestatic 371, 3) := by decide +kernel
theorem dX12_open_101 : decode cX12_open 101 = .ok (.iaload, 1) := by decide +kernel
theorem dX12_open_102 : decode cX12_open 102 = .ok (.iconst (-1), 1) := by decide +kernel
theorem dX12_open_103 : decode cX12_open 103 = .ok (.ixor, 1) := by decide +kernel
theorem dX12_open_104 : decode cX12_open 104 = .ok (.iand, 1) := by decide +kernel
theorem dX12_open_105 : decode cX12_open 105 = .ok (.iastore, 1) := by decide +kernel
theorem dX12_open_106 : decode cX12_open 106 = .ok (.aload_n 0, 1) := by decide +kernel
theorem dX12_open_107 : decode cX12_open 107 = .ok (.getfield 109, 3) := by decide +kernel
theorem dX12_open_110 : decode cX12_open 110 = .ok (.iload 4, 2) := by decide +kernel
theorem dX12_open_112 : decode cX12_open 112 = .ok (.iaload, 1) := by decide +kernel
theorem dX12_open_113 : decode cX12_open 113 = .ok (.iload_n 2, 1) := by decide +kernel
theorem dX12_open_114 : decode cX12_open 114 = .ok (.ishr, 1) := by decide +kernel
theorem dX12_open_115 : decode cX12_open 115 = .ok (.iconst 1, 1) := by decide +kernel
theorem dX12_open_116 : decode cX12_open 116 = .ok (.iand, 1) := by decide +kernel
theorem dX12_open_117 : decode cX12_open 117 = .ok (.iconst 1, 1) := by decide +kernel
theorem dX12_open_118 : decode cX12_open 118 = .ok (.if_icmp .ne 6, 3) := by decide +kernel
theorem dX12_open_121 : decode cX12_open 121 = .ok (.iload 4, 2) := by decide +kernel
theorem dX12_open_123 : decode cX12_open 123 = .ok (.ireturn, 1) := by decide +kernel
theorem dX12_open_124 : decode cX12_open 124 = .ok (.iconst 0, 1) := by decide +kernel
theorem dX12_open_125 : decode cX12_open 125 = .ok (.istore 5, 2) := by decide +kernel
theorem dX12_open_127 : decode cX12_open 127 = .ok (.iload 5, 2) := by decide +kernel
theorem dX12_open_129 : decode cX12_open 129 = .ok (.aload_n 0, 1) := by decide +kernel
theorem dX12_open_130 : decode cX12_open 130 = .ok (.getfield 325, 3) := by decide +kernel
theorem dX12_open_133 : decode cX12_open 133 = .ok (.if_icmp .ge 93, 3) := by decide +kernel
theorem dX12_open_136 : decode cX12_open 136 = .ok (.aload_n 0, 1) := by decide +kernel
theorem dX12_open_137 : decode cX12_open 137 = .ok (.getfield 109, 3) := by decide +kernel
theorem dX12_open_140 : decode cX12_open 140 = .ok (.iload 4, 2) := by decide +kernel
theorem dX12_open_142 : decode cX12_open 142 = .ok (.iaload, 1) := by decide +kernel
theorem dX12_open_143 : decode cX12_open 143 = .ok (.iload 5, 2) := by decide +kernel
theorem dX12_open_145 : decode cX12_open 145 = .ok (.ishr, 1) := by decide +kernel
theorem dX12_open_146 : decode cX12_open 146 = .ok (.iconst 1, 1) := by decide +kernel
theorem dX12_open_147 : decode cX12_open 147 = .ok (.iand, 1) := by decide +kernel
theorem dX12_open_148 : decode cX12_open 148 = .ok (.ifCond .ne 6, 3) := by decide +kernel
theorem dX12_open_151 : decode cX12_open 151 = .ok (.goto 69, 3) := by decide +kernel
theorem dX12_open_154 : decode cX12_open 154 = .ok (.iconst 0, 1) := by decide +kernel
theorem dX12_open_155 : decode cX12_open 155 = .ok (.istore 6, 2) := by decide +kernel
theorem dX12_open_157 : decode cX12_open 157 = .ok (.iload 6, 2) := by decide +kernel
theorem dX12_open_159 : decode cX12_open 159 = .ok (.aload_n 0, 1) := by decide +kernel
theorem dX12_open_160 : decode cX12_open 160 = .ok (.getfield 325, 3) := by decide +kernel
theorem dX12_open_163 : decode cX12_open 163 = .ok (.if_icmp .ge 57, 3) := by decide +kernel
theorem dX12_open_166 : decode cX12_open 166 = .ok (.aload_n 0, 1) := by decide +kernel
theorem dX12_open_167 : decode cX12_open 167 = .ok (.getfield 69, 3) := by decide +kernel
theorem dX12_open_170 : decode cX12_open 170 = .ok (.bipush 8, 2) := by decide +kernel
theorem dX12_open_172 : decode cX12_open 172 = .ok (.iload 5, 2) := by decide +kernel
theorem dX12_open_174 : decode cX12_open 174 = .ok (.imul, 1) := by decide +kernel
theorem dX12_open_175 : decode cX12_open 175 = .ok (.iload 6, 2) := by decide +kernel
theorem dX12_open_177 : decode cX12_open 177 = .ok (.iadd, 1) := by decide +kernel
theorem dX12_open_178 : decode cX12_open 178 = .ok (.iaload, 1) := by decide +kernel
theorem dX12_open_179 : decode cX12_open 179 = .ok (.istore 7, 2) := by decide +kernel
theorem dX12_open_181 : decode cX12_open 181 = .ok (.iload 7, 2) := by decide +kernel
theorem dX12_open_183 : decode cX12_open 183 = .ok (.ifCond .le 31, 3) := by decide +kernel
theorem dX12_open_186 : decode cX12_open 186 = .ok (.iload 4, 2) := by decide +kernel
theorem dX12_open_188 : decode cX12_open 188 = .ok (.iload 7, 2) := by decide +kernel
theorem dX12_open_190 : decode cX12_open 190 = .ok (.iadd, 1) := by decide +kernel
theorem dX12_open_191 : decode cX12_open 191 = .ok (.sipush 720, 3) := by decide +kernel
theorem dX12_open_194 : decode cX12_open 194 = .ok (.if_icmp .gt 20, 3) := by decide +kernel
theorem dX12_open_197 : decode cX12_open 197 = .ok (.aload_n 0, 1) := by decide +kernel
theorem dX12_open_198 : decode cX12_open 198 = .ok (.getfield 109, 3) := by decide +kernel
theorem dX12_open_201 : decode cX12_open 201 = .ok (.iload 4, 2) := by decide +kernel
theorem dX12_open_203 : decode cX12_open 203 = .ok (.iload 7, 2) := by decide +kernel
theorem dX12_open_205 : decode cX12_open 205 = .ok (.iadd, 1) := by decide +kernel
theorem dX12_open_206 : decode cX12_open 206 = .ok (.dup2, 1) := by decide +kernel
theorem dX12_open_207 : decode cX12_open 207 = .ok (.iaload, 1) := by decide +kernel
theorem dX12_open_208 : decode cX12_open 208 = .ok (.iconst 1, 1) := by decide +kernel
theorem dX12_open_209 : decode cX12_open 209 = .ok (.iload 6, 2) := by decide +kernel
theorem dX12_open_211 : decode cX12_open 211 = .ok (.ishl, 1) := by decide +kernel
theorem dX12_open_212 : decode cX12_open 212 = .ok (.ior, 1) := by decide +kernel
theorem dX12_open_213 : decode cX12_open 213 = .ok (.iastore, 1) := by decide +kernel
theorem dX12_open_214 : decode cX12_open 214 = .ok (.iinc 6 1, 3) := by decide +kernel
theorem dX12_open_217 : decode cX12_open 217 = .ok (.goto (-60), 3) := by decide +kernel
theorem dX12_open_220 : decode cX12_open 220 = .ok (.iinc 5 1, 3) := by decide +kernel
theorem dX12_open_223 : decode cX12_open 223 = .ok (.goto (-96), 3) := by decide +kernel
theorem dX12_open_226 : decode cX12_open 226 = .ok (.iinc 4 1, 3) := by decide +kernel
theorem dX12_open_229 : decode cX12_open 229 = .ok (.goto (-160), 3) := by decide +kernel
theorem dX12_open_232 : decode cX12_open 232 = .ok (.iconst (-1), 1) := by decide +kernel
theorem dX12_open_233 : decode cX12_open 233 = .ok (.ireturn, 1) := by decide +kernel
theorem dX12_read_0 : decode cX12_read 0 = .ok (.aload_n 0, 1) := by decide +kernel
theorem dX12_read_1 : decode cX12_read 1 = .ok (.iload_n 1, 1) := by decide +kernel
theorem dX12_read_2 : decode cX12_read 2 = .ok (.invokevirtual 391, 3) := by decide +kernel
theorem dX12_read_5 : decode cX12_read 5 = .ok (.ifCond .eq 63, 3) := by decide +kernel
theorem dX12_read_8 : decode cX12_read 8 = .ok (.iload_n 2, 1) := by decide +kernel
theorem dX12_read_9 : decode cX12_read 9 = .ok (.iconst 0, 1) := by decide +kernel
theorem dX12_read_10 : decode cX12_read 10 = .ok (.aload_n 0, 1) := by decide +kernel
theorem dX12_read_11 : decode cX12_read 11 = .ok (.getfield 63, 3) := by decide +kernel
theorem dX12_read_14 : decode cX12_read 14 = .ok (.iload_n 1, 1) := by decide +kernel
theorem dX12_read_15 : decode cX12_read 15 = .ok (.iaload, 1) := by decide +kernel
theorem dX12_read_16 : decode cX12_read 16 = .ok (.iconst 1, 1) := by decide +kernel
theorem dX12_read_17 : decode cX12_read 17 = .ok (.isub, 1) := by decide +kernel
theorem dX12_read_18 : decode cX12_read 18 = .ok (.invokestatic 355, 3) := by decide +kernel
theorem dX12_read_21 : decode cX12_read 21 = .ok (.ifCond .eq 47, 3) := by decide +kernel
theorem dX12_read_24 : decode cX12_read 24 = .ok (.iload_n 3, 1) := by decide +kernel
theorem dX12_read_25 : decode cX12_read 25 = .ok (.iconst 0, 1) := by decide +kernel
theorem dX12_read_26 : decode cX12_read 26 = .ok (.bipush 72, 2) := by decide +kernel
theorem dX12_read_28 : decode cX12_read 28 = .ok (.invokestatic 355, 3) := by decide +kernel
theorem dX12_read_31 : decode cX12_read 31 = .ok (.ifCond .eq 37, 3) := by decide +kernel
theorem dX12_read_34 : decode cX12_read 34 = .ok (.iload 4, 2) := by decide +kernel
theorem dX12_read_36 : decode cX12_read 36 = .ok (.sipush (-999), 3) := by decide +kernel
theorem dX12_read_39 : decode cX12_read 39 = .ok (.sipush 999, 3) := by decide +kernel
theorem dX12_read_42 : decode cX12_read 42 = .ok (.invokestatic 355, 3) := by decide +kernel
theorem dX12_read_45 : decode cX12_read 45 = .ok (.ifCond .eq 23, 3) := by decide +kernel
theorem dX12_read_48 : decode cX12_read 48 = .ok (.iload 5, 2) := by decide +kernel
theorem dX12_read_50 : decode cX12_read 50 = .ok (.iconst 0, 1) := by decide +kernel
theorem dX12_read_51 : decode cX12_read 51 = .ok (.bipush 99, 2) := by decide +kernel
theorem dX12_read_53 : decode cX12_read 53 = .ok (.invokestatic 355, 3) := by decide +kernel
theorem dX12_read_56 : decode cX12_read 56 = .ok (.ifCond .eq 12, 3) := by decide +kernel
theorem dX12_read_59 : decode cX12_read 59 = .ok (.aload_n 0, 1) := by decide +kernel
theorem dX12_read_60 : decode cX12_read 60 = .ok (.getfield 349, 3) := by decide +kernel
theorem dX12_read_63 : decode cX12_read 63 = .ok (.bipush 30, 2) := by decide +kernel
theorem dX12_read_65 : decode cX12_read 65 = .ok (.if_icmp .ne 5, 3) := by decide +kernel
theorem dX12_read_68 : decode cX12_read 68 = .ok (.iconst (-1), 1) := by decide +kernel
theorem dX12_read_69 : decode cX12_read 69 = .ok (.ireturn, 1) := by decide +kernel
theorem dX12_read_70 : decode cX12_read 70 = .ok (.aload_n 0, 1) := by decide +kernel
theorem dX12_read_71 : decode cX12_read 71 = .ok (.getfield 115, 3) := by decide +kernel
theorem dX12_read_74 : decode cX12_read 74 = .ok (.aload_n 0, 1) := by decide +kernel
theorem dX12_read_75 : decode cX12_read 75 = .ok (.getfield 349, 3) := by decide +kernel
theorem dX12_read_78 : decode cX12_read 78 = .ok (.iload_n 1, 1) := by decide +kernel
theorem dX12_read_79 : decode cX12_read 79 = .ok (.iastore, 1) := by decide +kernel
theorem dX12_read_80 : decode cX12_read 80 = .ok (.aload_n 0, 1) := by decide +kernel
theorem dX12_read_81 : decode cX12_read 81 = .ok (.getfield 118, 3) := by decide +kernel
theorem dX12_read_84 : decode cX12_read 84 = .ok (.aload_n 0, 1) := by decide +kernel
theorem dX12_read_85 : decode cX12_read 85 = .ok (.getfield 349, 3) := by decide +kernel
theorem dX12_read_88 : decode cX12_read 88 = .ok (.iload_n 2, 1) := by decide +kernel
theorem dX12_read_89 : decode cX12_read 89 = .ok (.iastore, 1) := by decide +kernel
theorem dX12_read_90 : decode cX12_read 90 = .ok (.aload_n 0, 1) := by decide +kernel
theorem dX12_read_91 : decode cX12_read 91 = .ok (.getfield 121, 3) := by decide +kernel
theorem dX12_read_94 : decode cX12_read 94 = .ok (.aload_n 0, 1) := by decide +kernel
theorem dX12_read_95 : decode cX12_read 95 = .ok (.getfield 349, 3) := by decide +kernel
theorem dX12_read_98 : decode cX12_read 98 = .ok (.iload_n 3, 1) := by decide +kernel
theorem dX12_read_99 : decode cX12_read 99 = .ok (.iastore, 1) := by decide +kernel
theorem dX12_read_100 : decode cX12_read 100 = .ok (.aload_n 0, 1) := by decide +kernel
theorem dX12_read_101 : decode cX12_read 101 = .ok (.getfield 124, 3) := by decide +kernel
theorem dX12_read_104 : decode cX12_read 104 = .ok (.aload_n 0, 1) := by decide +kernel
theorem dX12_read_105 : decode cX12_read 105 = .ok (.getfield 349, 3) := by decide +kernel
theorem dX12_read_108 : decode cX12_read 108 = .ok (.iload 4, 2) := by decide +kernel
theorem dX12_read_110 : decode cX12_read 110 = .ok (.iastore, 1) := by decide +kernel
theorem dX12_read_111 : decode cX12_read 111 = .ok (.aload_n 0, 1) := by decide +kernel
theorem dX12_read_112 : decode cX12_read 112 = .ok (.getfield 127, 3) := by decide +kernel
theorem dX12_read_115 : decode cX12_read 115 = .ok (.aload_n 0, 1) := by decide +kernel
theorem dX12_read_116 : decode cX12_read 116 = .ok (.getfield 349, 3) := by decide +kernel
theorem dX12_read_119 : decode cX12_read 119 = .ok (.iload 5, 2) := by decide +kernel
theorem dX12_read_121 : decode cX12_read 121 = .ok (.iastore, 1) := by decide +kernel
theorem dX12_read_122 : decode cX12_read 122 = .ok (.aload_n 0, 1) := by decide +kernel
theorem dX12_read_123 : decode cX12_read 123 = .ok (.getfield 130, 3) := by decide +kernel
theorem dX12_read_126 : decode cX12_read 126 = .ok (.aload_n 0, 1) := by decide +kernel
theorem dX12_read_127 : decode cX12_read 127 = .ok (.getfield 349, 3) := by decide +kernel
theorem dX12_read_130 : decode cX12_read 130 = .ok (.aload_n 0, 1) := by decide +kernel
theorem dX12_read_131 : decode cX12_read 131 = .ok (.getfield 444, 3) := by decide +kernel
theorem dX12_read_134 : decode cX12_read 134 = .ok (.iastore, 1) := by decide +kernel
theorem dX12_read_135 : decode cX12_read 135 = .ok (.aload_n 0, 1) := by decide +kernel
theorem dX12_read_136 : decode cX12_read 136 = .ok (.getfield 133, 3) := by decide +kernel
theorem dX12_read_139 : decode cX12_read 139 = .ok (.aload_n 0, 1) := by decide +kernel
theorem dX12_read_140 : decode cX12_read 140 = .ok (.getfield 349, 3) := by decide +kernel
theorem dX12_read_143 : decode cX12_read 143 = .ok (.iconst (-1), 1) := by decide +kernel
theorem dX12_read_144 : decode cX12_read 144 = .ok (.iastore, 1) := by decide +kernel
theorem dX12_read_145 : decode cX12_read 145 = .ok (.aload_n 0, 1) := by decide +kernel
theorem dX12_read_146 : decode cX12_read 146 = .ok (.dup, 1) := by decide +kernel
theorem dX12_read_147 : decode cX12_read 147 = .ok (.getfield 349, 3) := by decide +kernel
theorem dX12_read_150 : decode cX12_read 150 = .ok (.iconst 1, 1) := by decide +kernel
theorem dX12_read_151 : decode cX12_read 151 = .ok (.iadd, 1) := by decide +kernel
theorem dX12_read_152 : decode cX12_read 152 = .ok (.putfield 349, 3) := by decide +kernel
theorem dX12_read_155 : decode cX12_read 155 = .ok (.aload_n 0, 1) := by decide +kernel
theorem dX12_read_156 : decode cX12_read 156 = .ok (.getfield 349, 3) := by decide +kernel
theorem dX12_read_159 : decode cX12_read 159 = .ok (.iconst 1, 1) := by decide +kernel
theorem dX12_read_160 : decode cX12_read 160 = .ok (.isub, 1) := by decide +kernel
theorem dX12_read_161 : decode cX12_read 161 = .ok (.ireturn, 1) := by decide +kernel
theorem dX12_untell_0 : decode cX12_untell 0 = .ok (.iload_n 1, 1) := by decide +kernel
theorem dX12_untell_1 : decode cX12_untell 1 = .ok (.iconst 0, 1) := by decide +kernel
theorem dX12_untell_2 : decode cX12_untell 2 = .ok (.aload_n 0, 1) := by decide +kernel
theorem dX12_untell_3 : decode cX12_untell 3 = .ok (.getfield 349, 3) := by decide +kernel
theorem dX12_untell_6 : decode cX12_untell 6 = .ok (.iconst 1, 1) := by decide +kernel
theorem dX12_untell_7 : decode cX12_untell 7 = .ok (.isub, 1) := by decide +kernel
theorem dX12_untell_8 : decode cX12_untell 8 = .ok (.invokestatic 355, 3) := by decide +kernel
theorem dX12_untell_11 : decode cX12_untell 11 = .ok (.ifCond .eq 12, 3) := by decide +kernel
theorem dX12_untell_14 : decode cX12_untell 14 = .ok (.aload_n 0, 1) := by decide +kernel
theorem dX12_untell_15 : decode cX12_untell 15 = .ok (.getfield 133, 3) := by decide +kernel
theorem dX12_untell_18 : decode cX12_untell 18 = .ok (.iload_n 1, 1) := by decide +kernel
theorem dX12_untell_19 : decode cX12_untell 19 = .ok (.iaload, 1) := by decide +kernel
theorem dX12_untell_20 : decode cX12_untell 20 = .ok (.ifCond .lt 5, 3) := by decide +kernel
theorem dX12_untell_23 : decode cX12_untell 23 = .ok (.iconst 0, 1) := by decide +kernel
theorem dX12_untell_24 : decode cX12_untell 24 = .ok (.ireturn, 1) := by decide +kernel
theorem dX12_untell_25 : decode cX12_untell 25 = .ok (.aload_n 0, 1) := by decide +kernel
theorem dX12_untell_26 : decode cX12_untell 26 = .ok (.getfield 133, 3) := by decide +kernel
theorem dX12_untell_29 : decode cX12_untell 29 = .ok (.iload_n 1, 1) := by decide +kernel
theorem dX12_untell_30 : decode cX12_untell 30 = .ok (.aload_n 0, 1) := by decide +kernel
theorem dX12_untell_31 : decode cX12_untell 31 = .ok (.getfield 444, 3) := by decide +kernel
theorem dX12_untell_34 : decode cX12_untell 34 = .ok (.iastore, 1) := by decide +kernel
theorem dX12_untell_35 : decode cX12_untell 35 = .ok (.iconst 1, 1) := by decide +kernel
theorem dX12_untell_36 : decode cX12_untell 36 = .ok (.ireturn, 1) := by decide +kernel
theorem dX12_later_0 : decode cX12_later 0 = .ok (.iload_n 1, 1) := by decide +kernel
theorem dX12_later_1 : decode cX12_later 1 = .ok (.ifCond .lt 22, 3) := by decide +kernel
theorem dX12_later_4 : decode cX12_later 4 = .ok (.iload_n 1, 1) := by decide +kernel
theorem dX12_later_5 : decode cX12_later 5 = .ok (.sipush 1000, 3) := by decide +kernel
theorem dX12_later_8 : decode cX12_later 8 = .ok (.if_icmp .gt 15, 3) := by decide +kernel
theorem dX12_later_11 : decode cX12_later 11 = .ok (.aload_n 0, 1) := by decide +kernel
theorem dX12_later_12 : decode cX12_later 12 = .ok (.getfield 444, 3) := by decide +kernel
theorem dX12_later_15 : decode cX12_later 15 = .ok (.iload_n 1, 1) := by decide +kernel
theorem dX12_later_16 : decode cX12_later 16 = .ok (.iadd, 1) := by decide +kernel
theorem dX12_later_17 : decode cX12_later 17 = .ok (.ldc_w 447, 3) := by decide +kernel
theorem dX12_later_20 : decode cX12_later 20 = .ok (.if_icmp .le 5, 3) := by decide +kernel
theorem dX12_later_23 : decode cX12_later 23 = .ok (.iconst (-1), 1) := by decide +kernel
theorem dX12_later_24 : decode cX12_later 24 = .ok (.ireturn, 1) := by decide +kernel
theorem dX12_later_25 : decode cX12_later 25 = .ok (.aload_n 0, 1) := by decide +kernel
theorem dX12_later_26 : decode cX12_later 26 = .ok (.dup, 1) := by decide +kernel
theorem dX12_later_27 : decode cX12_later 27 = .ok (.getfield 444, 3) := by decide +kernel
theorem dX12_later_30 : decode cX12_later 30 = .ok (.iload_n 1, 1) := by decide +kernel
theorem dX12_later_31 : decode cX12_later 31 = .ok (.iadd, 1) := by decide +kernel
theorem dX12_later_32 : decode cX12_later 32 = .ok (.putfield 444, 3) := by decide +kernel
theorem dX12_later_35 : decode cX12_later 35 = .ok (.aload_n 0, 1) := by decide +kernel
theorem dX12_later_36 : decode cX12_later 36 = .ok (.getfield 444, 3) := by decide +kernel
theorem dX12_later_39 : decode cX12_later 39 = .ok (.ireturn, 1) := by decide +kernel
theorem dX12_counts_0 : decode cX12_counts 0 = .ok (.aload_n 0, 1) := by decide +kernel
theorem dX12_counts_1 : decode cX12_counts 1 = .ok (.getfield 130, 3) := by decide +kernel
theorem dX12_counts_4 : decode cX12_counts 4 = .ok (.iload_n 1, 1) := by decide +kernel
theorem dX12_counts_5 : decode cX12_counts 5 = .ok (.iaload, 1) := by decide +kernel
theorem dX12_counts_6 : decode cX12_counts 6 = .ok (.iload_n 2, 1) := by decide +kernel
theorem dX12_counts_7 : decode cX12_counts 7 = .ok (.if_icmp .gt 26, 3) := by decide +kernel
theorem dX12_counts_10 : decode cX12_counts 10 = .ok (.aload_n 0, 1) := by decide +kernel
theorem dX12_counts_11 : decode cX12_counts 11 = .ok (.getfield 133, 3) := by decide +kernel
theorem dX12_counts_14 : decode cX12_counts 14 = .ok (.iload_n 1, 1) := by decide +kernel
theorem dX12_counts_15 : decode cX12_counts 15 = .ok (.iaload, 1) := by decide +kernel
theorem dX12_counts_16 : decode cX12_counts 16 = .ok (.ifCond .lt 13, 3) := by decide +kernel
theorem dX12_counts_19 : decode cX12_counts 19 = .ok (.aload_n 0, 1) := by decide +kernel
theorem dX12_counts_20 : decode cX12_counts 20 = .ok (.getfield 133, 3) := by decide +kernel
theorem dX12_counts_23 : decode cX12_counts 23 = .ok (.iload_n 1, 1) := by decide +kernel
theorem dX12_counts_24 : decode cX12_counts 24 = .ok (.iaload, 1) := by decide +kernel
theorem dX12_counts_25 : decode cX12_counts 25 = .ok (.iload_n 2, 1) := by decide +kernel
theorem dX12_counts_26 : decode cX12_counts 26 = .ok (.if_icmp .le 7, 3) := by decide +kernel
theorem dX12_counts_29 : decode cX12_counts 29 = .ok (.iconst 1, 1) := by decide +kernel
theorem dX12_counts_30 : decode cX12_counts 30 = .ok (.goto 4, 3) := by decide +kernel
theorem dX12_counts_33 : decode cX12_counts 33 = .ok (.iconst 0, 1) := by decide +kernel
theorem dX12_counts_34 : decode cX12_counts 34 = .ok (.ireturn, 1) := by decide +kernel
theorem dX12_warmBehind_0 : decode cX12_warmBehind 0 = .ok (.aload_n 0, 1) := by decide +kernel
theorem dX12_warmBehind_1 : decode cX12_warmBehind 1 = .ok (.iload_n 1, 1) := by decide +kernel
theorem dX12_warmBehind_2 : decode cX12_warmBehind 2 = .ok (.invokevirtual 448, 3) := by decide +kernel
theorem dX12_warmBehind_5 : decode cX12_warmBehind 5 = .ok (.iconst 0, 1) := by decide +kernel
theorem dX12_warmBehind_6 : decode cX12_warmBehind 6 = .ok (.istore 5, 2) := by decide +kernel
theorem dX12_warmBehind_8 : decode cX12_warmBehind 8 = .ok (.iload 5, 2) := by decide +kernel
theorem dX12_warmBehind_10 : decode cX12_warmBehind 10 = .ok (.iload_n 3, 1) := by decide +kernel
theorem dX12_warmBehind_11 : decode cX12_warmBehind 11 = .ok (.if_icmp .ge 18, 3) := by decide +kernel
theorem dX12_warmBehind_14 : decode cX12_warmBehind 14 = .ok (.aload_n 0, 1) := by decide +kernel
theorem dX12_warmBehind_15 : decode cX12_warmBehind 15 = .ok (.iload_n 1, 1) := by decide +kernel
theorem dX12_warmBehind_16 : decode cX12_warmBehind 16 = .ok (.iload 5, 2) := by decide +kernel
theorem dX12_warmBehind_18 : decode cX12_warmBehind 18 = .ok (.iload 4, 2) := by decide +kernel
theorem dX12_warmBehind_20 : decode cX12_warmBehind 20 = .ok (.invokevirtual 383, 3) := by decide +kernel
theorem dX12_warmBehind_23 : decode cX12_warmBehind 23 = .ok (.iinc 5 1, 3) := by decide +kernel
theorem dX12_warmBehind_26 : decode cX12_warmBehind 26 = .ok (.goto (-18), 3) := by decide +kernel
theorem dX12_warmBehind_29 : decode cX12_warmBehind 29 = .ok (.aload_n 0, 1) := by decide +kernel
theorem dX12_warmBehind_30 : decode cX12_warmBehind 30 = .ok (.getfield 87, 3) := by decide +kernel
theorem dX12_warmBehind_33 : decode cX12_warmBehind 33 = .ok (.iload_n 2, 1) := by decide +kernel
theorem dX12_warmBehind_34 : decode cX12_warmBehind 34 = .ok (.iaload, 1) := by decide +kernel
theorem dX12_warmBehind_35 : decode cX12_warmBehind 35 = .ok (.ireturn, 1) := by decide +kernel
theorem dX12_isSo_0 : decode cX12_isSo 0 = .ok (.aload_n 0, 1) := by decide +kernel
theorem dX12_isSo_1 : decode cX12_isSo 1 = .ok (.aload_n 0, 1) := by decide +kernel
theorem dX12_isSo_2 : decode cX12_isSo 2 = .ok (.getfield 115, 3) := by decide +kernel
theorem dX12_isSo_5 : decode cX12_isSo 5 = .ok (.iload_n 1, 1) := by decide +kernel
theorem dX12_isSo_6 : decode cX12_isSo 6 = .ok (.iaload, 1) := by decide +kernel
theorem dX12_isSo_7 : decode cX12_isSo 7 = .ok (.aload_n 0, 1) := by decide +kernel
theorem dX12_isSo_8 : decode cX12_isSo 8 = .ok (.getfield 118, 3) := by decide +kernel
theorem dX12_isSo_11 : decode cX12_isSo 11 = .ok (.iload_n 1, 1) := by decide +kernel
theorem dX12_isSo_12 : decode cX12_isSo 12 = .ok (.iaload, 1) := by decide +kernel
theorem dX12_isSo_13 : decode cX12_isSo 13 = .ok (.aload_n 0, 1) := by decide +kernel
theorem dX12_isSo_14 : decode cX12_isSo 14 = .ok (.getfield 121, 3) := by decide +kernel
theorem dX12_isSo_17 : decode cX12_isSo 17 = .ok (.iload_n 1, 1) := by decide +kernel
theorem dX12_isSo_18 : decode cX12_isSo 18 = .ok (.iaload, 1) := by decide +kernel
theorem dX12_isSo_19 : decode cX12_isSo 19 = .ok (.iload_n 2, 1) := by decide +kernel
theorem dX12_isSo_20 : decode cX12_isSo 20 = .ok (.invokevirtual 451, 3) := by decide +kernel
theorem dX12_isSo_23 : decode cX12_isSo 23 = .ok (.aload_n 0, 1) := by decide +kernel
theorem dX12_isSo_24 : decode cX12_isSo 24 = .ok (.getfield 124, 3) := by decide +kernel
theorem dX12_isSo_27 : decode cX12_isSo 27 = .ok (.iload_n 1, 1) := by decide +kernel
theorem dX12_isSo_28 : decode cX12_isSo 28 = .ok (.iaload, 1) := by decide +kernel
theorem dX12_isSo_29 : decode cX12_isSo 29 = .ok (.isub, 1) := by decide +kernel
theorem dX12_isSo_30 : decode cX12_isSo 30 = .ok (.istore_n 3, 1) := by decide +kernel
theorem dX12_isSo_31 : decode cX12_isSo 31 = .ok (.iload_n 3, 1) := by decide +kernel
theorem dX12_isSo_32 : decode cX12_isSo 32 = .ok (.ifCond .ge 8, 3) := by decide +kernel
theorem dX12_isSo_35 : decode cX12_isSo 35 = .ok (.iload_n 3, 1) := by decide +kernel
theorem dX12_isSo_36 : decode cX12_isSo 36 = .ok (.ineg, 1) := by decide +kernel
theorem dX12_isSo_37 : decode cX12_isSo 37 = .ok (.goto 4, 3) := by decide +kernel
theorem dX12_isSo_40 : decode cX12_isSo 40 = .ok (.iload_n 3, 1) := by decide +kernel
theorem dX12_isSo_41 : decode cX12_isSo 41 = .ok (.aload_n 0, 1) := by decide +kernel
theorem dX12_isSo_42 : decode cX12_isSo 42 = .ok (.getfield 127, 3) := by decide +kernel
theorem dX12_isSo_45 : decode cX12_isSo 45 = .ok (.iload_n 1, 1) := by decide +kernel
theorem dX12_isSo_46 : decode cX12_isSo 46 = .ok (.iaload, 1) := by decide +kernel
theorem dX12_isSo_47 : decode cX12_isSo 47 = .ok (.if_icmp .gt 7, 3) := by decide +kernel
theorem dX12_isSo_50 : decode cX12_isSo 50 = .ok (.iconst 1, 1) := by decide +kernel
theorem dX12_isSo_51 : decode cX12_isSo 51 = .ok (.goto 4, 3) := by decide +kernel
theorem dX12_isSo_54 : decode cX12_isSo 54 = .ok (.iconst 0, 1) := by decide +kernel
theorem dX12_isSo_55 : decode cX12_isSo 55 = .ok (.ireturn, 1) := by decide +kernel
theorem dX12_left_0 : decode cX12_left 0 = .ok (.iconst 0, 1) := by decide +kernel
theorem dX12_left_1 : decode cX12_left 1 = .ok (.istore_n 2, 1) := by decide +kernel
theorem dX12_left_2 : decode cX12_left 2 = .ok (.iconst 0, 1) := by decide +kernel
theorem dX12_left_3 : decode cX12_left 3 = .ok (.istore_n 3, 1) := by decide +kernel
theorem dX12_left_4 : decode cX12_left 4 = .ok (.iload_n 3, 1) := by decide +kernel
theorem dX12_left_5 : decode cX12_left 5 = .ok (.aload_n 0, 1) := by decide +kernel
theorem dX12_left_6 : decode cX12_left 6 = .ok (.getfield 334, 3) := by decide +kernel
theorem dX12_left_9 : decode cX12_left 9 = .ok (.if_icmp .ge 82, 3) := by decide +kernel
theorem dX12_left_12 : decode cX12_left 12 = .ok (.iconst 1, 1) := by decide +kernel
theorem dX12_left_13 : decode cX12_left 13 = .ok (.istore 4, 2) := by decide +kernel
theorem dX12_left_15 : decode cX12_left 15 = .ok (.iconst 0, 1) := by decide +kernel
theorem dX12_left_16 : decode cX12_left 16 = .ok (.istore 5, 2) := by decide +kernel
theorem dX12_left_18 : decode cX12_left 18 = .ok (.iload 5, 2) := by decide +kernel
theorem dX12_left_20 : decode cX12_left 20 = .ok (.aload_n 0, 1) := by decide +kernel
theorem dX12_left_21 : decode cX12_left 21 = .ok (.getfield 349, 3) := by decide +kernel
theorem dX12_left_24 : decode cX12_left 24 = .ok (.if_icmp .ge 46, 3) := by decide +kernel
theorem dX12_left_27 : decode cX12_left 27 = .ok (.iload 4, 2) := by decide +kernel
theorem dX12_left_29 : decode cX12_left 29 = .ok (.ifCond .eq 41, 3) := by decide +kernel
theorem dX12_left_32 : decode cX12_left 32 = .ok (.aload_n 0, 1) := by decide +kernel
theorem dX12_left_33 : decode cX12_left 33 = .ok (.iload 5, 2) := by decide +kernel
theorem dX12_left_35 : decode cX12_left 35 = .ok (.iload_n 1, 1) := by decide +kernel
theorem dX12_left_36 : decode cX12_left 36 = .ok (.invokevirtual 454, 3) := by decide +kernel
theorem dX12_left_39 : decode cX12_left 39 = .ok (.ifCond .eq 18, 3) := by decide +kernel
theorem dX12_left_42 : decode cX12_left 42 = .ok (.aload_n 0, 1) := by decide +kernel
theorem dX12_left_43 : decode cX12_left 43 = .ok (.iload 5, 2) := by decide +kernel
theorem dX12_left_45 : decode cX12_left 45 = .ok (.aload_n 0, 1) := by decide +kernel
theorem dX12_left_46 : decode cX12_left 46 = .ok (.getfield 81, 3) := by decide +kernel
theorem dX12_left_49 : decode cX12_left 49 = .ok (.iload_n 3, 1) := by decide +kernel
theorem dX12_left_50 : decode cX12_left 50 = .ok (.iaload, 1) := by decide +kernel
theorem dX12_left_51 : decode cX12_left 51 = .ok (.invokevirtual 458, 3) := by decide +kernel
theorem dX12_left_54 : decode cX12_left 54 = .ok (.ifCond .eq 7, 3) := by decide +kernel
theorem dX12_left_57 : decode cX12_left 57 = .ok (.iconst 1, 1) := by decide +kernel
theorem dX12_left_58 : decode cX12_left 58 = .ok (.goto 4, 3) := by decide +kernel
theorem dX12_left_61 : decode cX12_left 61 = .ok (.iconst 0, 1) := by decide +kernel
theorem dX12_left_62 : decode cX12_left 62 = .ok (.istore 4, 2) := by decide +kernel
theorem dX12_left_64 : decode cX12_left 64 = .ok (.iinc 5 1, 3) := by decide +kernel
theorem dX12_left_67 : decode cX12_left 67 = .ok (.goto (-49), 3) := by decide +kernel
theorem dX12_left_70 : decode cX12_left 70 = .ok (.iload_n 2, 1) := by decide +kernel
theorem dX12_left_71 : decode cX12_left 71 = .ok (.iload 4, 2) := by decide +kernel
theorem dX12_left_73 : decode cX12_left 73 = .ok (.ifCond .eq 9, 3) := by decide +kernel
theorem dX12_left_76 : decode cX12_left 76 = .ok (.iconst 1, 1) := by decide +kernel
theorem dX12_left_77 : decode cX12_left 77 = .ok (.iload_n 3, 1) := by decide +kernel
theorem dX12_left_78 : decode cX12_left 78 = .ok (.ishl, 1) := by decide +kernel
theorem dX12_left_79 : decode cX12_left 79 = .ok (.goto 4, 3) := by decide +kernel
theorem dX12_left_82 : decode cX12_left 82 = .ok (.iconst 0, 1) := by decide +kernel
theorem dX12_left_83 : decode cX12_left 83 = .ok (.ior, 1) := by decide +kernel
theorem dX12_left_84 : decode cX12_left 84 = .ok (.istore_n 2, 1) := by decide +kernel
theorem dX12_left_85 : decode cX12_left 85 = .ok (.iinc 3 1, 3) := by decide +kernel
theorem dX12_left_88 : decode cX12_left 88 = .ok (.goto (-84), 3) := by decide +kernel
theorem dX12_left_91 : decode cX12_left 91 = .ok (.iload_n 2, 1) := by decide +kernel
theorem dX12_left_92 : decode cX12_left 92 = .ok (.ireturn, 1) := by decide +kernel
theorem dX12_greatestPart_0 : decode cX12_greatestPart 0 = .ok (.iconst 0, 1) := by decide +kernel
theorem dX12_greatestPart_1 : decode cX12_greatestPart 1 = .ok (.istore 5, 2) := by decide +kernel
theorem dX12_greatestPart_3 : decode cX12_greatestPart 3 = .ok (.iload 5, 2) := by decide +kernel
theorem dX12_greatestPart_5 : decode cX12_greatestPart 5 = .ok (.aload_n 0, 1) := by decide +kernel
theorem dX12_greatestPart_6 : decode cX12_greatestPart 6 = .ok (.getfield 334, 3) := by decide +kernel
theorem dX12_greatestPart_9 : decode cX12_greatestPart 9 = .ok (.if_icmp .ge 30, 3) := by decide +kernel
theorem dX12_greatestPart_12 : decode cX12_greatestPart 12 = .ok (.aload_n 0, 1) := by decide +kernel
theorem dX12_greatestPart_13 : decode cX12_greatestPart 13 = .ok (.getfield 136, 3) := by decide +kernel
theorem dX12_greatestPart_16 : decode cX12_greatestPart 16 = .ok (.iload 5, 2) := by decide +kernel
theorem dX12_greatestPart_18 : decode cX12_greatestPart 18 = .ok (.aload_n 0, 1) := by decide +kernel
theorem dX12_greatestPart_19 : decode cX12_greatestPart 19 = .ok (.iload_n 1, 1) := by decide +kernel
theorem dX12_greatestPart_20 : decode cX12_greatestPart 20 = .ok (.iload_n 2, 1) := by decide +kernel
theorem dX12_greatestPart_21 : decode cX12_greatestPart 21 = .ok (.iload_n 3, 1) := by decide +kernel
theorem dX12_greatestPart_22 : decode cX12_greatestPart 22 = .ok (.aload_n 0, 1) := by decide +kernel
theorem dX12_greatestPart_23 : decode cX12_greatestPart 23 = .ok (.getfield 81, 3) := by decide +kernel
theorem dX12_greatestPart_26 : decode cX12_greatestPart 26 = .ok (.iload 5, 2) := by decide +kernel
theorem dX12_greatestPart_28 : decode cX12_greatestPart 28 = .ok (.iaload, 1) := by decide +kernel
theorem dX12_greatestPart_29 : decode cX12_greatestPart 29 = .ok (.invokevirtual 451, 3) := by decide +kernel
theorem dX12_greatestPart_32 : decode cX12_greatestPart 32 = .ok (.iastore, 1) := by decide +kernel
theorem dX12_greatestPart_33 : decode cX12_greatestPart 33 = .ok (.iinc 5 1, 3) := by decide +kernel
theorem dX12_greatestPart_36 : decode cX12_greatestPart 36 = .ok (.goto (-33), 3) := by decide +kernel
theorem dX12_greatestPart_39 : decode cX12_greatestPart 39 = .ok (.iconst 0, 1) := by decide +kernel
theorem dX12_greatestPart_40 : decode cX12_greatestPart 40 = .ok (.istore 5, 2) := by decide +kernel
theorem dX12_greatestPart_42 : decode cX12_greatestPart 42 = .ok (.iconst 0, 1) := by decide +kernel
theorem dX12_greatestPart_43 : decode cX12_greatestPart 43 = .ok (.istore 6, 2) := by decide +kernel
theorem dX12_greatestPart_45 : decode cX12_greatestPart 45 = .ok (.iload 6, 2) := by decide +kernel
theorem dX12_greatestPart_47 : decode cX12_greatestPart 47 = .ok (.aload_n 0, 1) := by decide +kernel
theorem dX12_greatestPart_48 : decode cX12_greatestPart 48 = .ok (.getfield 334, 3) := by decide +kernel
theorem dX12_greatestPart_51 : decode cX12_greatestPart 51 = .ok (.if_icmp .ge 97, 3) := by decide +kernel
theorem dX12_greatestPart_54 : decode cX12_greatestPart 54 = .ok (.iload 4, 2) := by decide +kernel
theorem dX12_greatestPart_56 : decode cX12_greatestPart 56 = .ok (.iload 6, 2) := by decide +kernel
theorem dX12_greatestPart_58 : decode cX12_greatestPart 58 = .ok (.ishr, 1) := by decide +kernel
theorem dX12_greatestPart_59 : decode cX12_greatestPart 59 = .ok (.iconst 1, 1) := by decide +kernel
theorem dX12_greatestPart_60 : decode cX12_greatestPart 60 = .ok (.iand, 1) := by decide +kernel
theorem dX12_greatestPart_61 : decode cX12_greatestPart 61 = .ok (.ifCond .ne 6, 3) := by decide +kernel
theorem dX12_greatestPart_64 : decode cX12_greatestPart 64 = .ok (.goto 78, 3) := by decide +kernel
theorem dX12_greatestPart_67 : decode cX12_greatestPart 67 = .ok (.iconst 0, 1) := by decide +kernel
theorem dX12_greatestPart_68 : decode cX12_greatestPart 68 = .ok (.istore 7, 2) := by decide +kernel
theorem dX12_greatestPart_70 : decode cX12_greatestPart 70 = .ok (.iconst 0, 1) := by decide +kernel
theorem dX12_greatestPart_71 : decode cX12_greatestPart 71 = .ok (.istore 8, 2) := by decide +kernel
theorem dX12_greatestPart_73 : decode cX12_greatestPart 73 = .ok (.iload 8, 2) := by decide +kernel
theorem dX12_greatestPart_75 : decode cX12_greatestPart 75 = .ok (.aload_n 0, 1) := by decide +kernel
theorem dX12_greatestPart_76 : decode cX12_greatestPart 76 = .ok (.getfield 334, 3) := by decide +kernel
theorem dX12_greatestPart_79 : decode cX12_greatestPart 79 = .ok (.if_icmp .ge 47, 3) := by decide +kernel
theorem dX12_greatestPart_82 : decode cX12_greatestPart 82 = .ok (.iload 7, 2) := by decide +kernel
theorem dX12_greatestPart_84 : decode cX12_greatestPart 84 = .ok (.iload 4, 2) := by decide +kernel
theorem dX12_greatestPart_86 : decode cX12_greatestPart 86 = .ok (.iload 8, 2) := by decide +kernel
theorem dX12_greatestPart_88 : decode cX12_greatestPart 88 = .ok (.ishr, 1) := by decide +kernel
theorem dX12_greatestPart_89 : decode cX12_greatestPart 89 = .ok (.iconst 1, 1) := by decide +kernel
theorem dX12_greatestPart_90 : decode cX12_greatestPart 90 = .ok (.iand, 1) := by decide +kernel
theorem dX12_greatestPart_91 : decode cX12_greatestPart 91 = .ok (.iconst 1, 1) := by decide +kernel
theorem dX12_greatestPart_92 : decode cX12_greatestPart 92 = .ok (.if_icmp .ne 24, 3) := by decide +kernel
theorem dX12_greatestPart_95 : decode cX12_greatestPart 95 = .ok (.aload_n 0, 1) := by decide +kernel
theorem dX12_greatestPart_96 : decode cX12_greatestPart 96 = .ok (.getfield 136, 3) := by decide +kernel
theorem dX12_greatestPart_99 : decode cX12_greatestPart 99 = .ok (.iload 8, 2) := by decide +kernel
theorem dX12_greatestPart_101 : decode cX12_greatestPart 101 = .ok (.iaload, 1) := by decide +kernel
theorem dX12_greatestPart_102 : decode cX12_greatestPart 102 = .ok (.aload_n 0, 1) := by decide +kernel
theorem dX12_greatestPart_103 : decode cX12_greatestPart 103 = .ok (.getfield 136, 3) := by decide +kernel
theorem dX12_greatestPart_106 : decode cX12_greatestPart 106 = .ok (.iload 6, 2) := by decide +kernel
theorem dX12_greatestPart_108 : decode cX12_greatestPart 108 = .ok (.iaload, 1) := by decide +kernel
theorem dX12_greatestPart_109 : decode cX12_greatestPart 109 = .ok (.if_icmp .ne 7, 3) := by decide +kernel
theorem dX12_greatestPart_112 : decode cX12_greatestPart 112 = .ok (.iconst 1, 1) := by decide +kernel
theorem dX12_greatestPart_113 : decode cX12_greatestPart 113 = .ok (.goto 4, 3) := by decide +kernel
theorem dX12_greatestPart_116 : decode cX12_greatestPart 116 = .ok (.iconst 0, 1) := by decide +kernel
theorem dX12_greatestPart_117 : decode cX12_greatestPart 117 = .ok (.iadd, 1) := by decide +kernel
theorem dX12_greatestPart_118 : decode cX12_greatestPart 118 = .ok (.istore 7, 2) := by decide +kernel
theorem dX12_greatestPart_120 : decode cX12_greatestPart 120 = .ok (.iinc 8 1, 3) := by decide +kernel
theorem dX12_greatestPart_123 : decode cX12_greatestPart 123 = .ok (.goto (-50), 3) := by decide +kernel
theorem dX12_greatestPart_126 : decode cX12_greatestPart 126 = .ok (.iload 7, 2) := by decide +kernel
theorem dX12_greatestPart_128 : decode cX12_greatestPart 128 = .ok (.iload 5, 2) := by decide +kernel
theorem dX12_greatestPart_130 : decode cX12_greatestPart 130 = .ok (.if_icmp .le 8, 3) := by decide +kernel
theorem dX12_greatestPart_133 : decode cX12_greatestPart 133 = .ok (.iload 7, 2) := by decide +kernel
theorem dX12_greatestPart_135 : decode cX12_greatestPart 135 = .ok (.goto 5, 3) := by decide +kernel
theorem dX12_greatestPart_138 : decode cX12_greatestPart 138 = .ok (.iload 5, 2) := by decide +kernel
theorem dX12_greatestPart_140 : decode cX12_greatestPart 140 = .ok (.istore 5, 2) := by decide +kernel
theorem dX12_greatestPart_142 : decode cX12_greatestPart 142 = .ok (.iinc 6 1, 3) := by decide +kernel
theorem dX12_greatestPart_145 : decode cX12_greatestPart 145 = .ok (.goto (-100), 3) := by decide +kernel
theorem dX12_greatestPart_148 : decode cX12_greatestPart 148 = .ok (.iload 5, 2) := by decide +kernel
theorem dX12_greatestPart_150 : decode cX12_greatestPart 150 = .ok (.ireturn, 1) := by decide +kernel
theorem dX12_tells_0 : decode cX12_tells 0 = .ok (.iload_n 1, 1) := by decide +kernel
theorem dX12_tells_1 : decode cX12_tells 1 = .ok (.iconst 0, 1) := by decide +kernel
theorem dX12_tells_2 : decode cX12_tells 2 = .ok (.bipush 72, 2) := by decide +kernel
theorem dX12_tells_4 : decode cX12_tells 4 = .ok (.invokestatic 355, 3) := by decide +kernel
theorem dX12_tells_7 : decode cX12_tells 7 = .ok (.ifCond .eq 12, 3) := by decide +kernel
theorem dX12_tells_10 : decode cX12_tells 10 = .ok (.iload_n 2, 1) := by decide +kernel
theorem dX12_tells_11 : decode cX12_tells 11 = .ok (.iconst 0, 1) := by decide +kernel
theorem dX12_tells_12 : decode cX12_tells 12 = .ok (.iconst 2, 1) := by decide +kernel
theorem dX12_tells_13 : decode cX12_tells 13 = .ok (.invokestatic 355, 3) := by decide +kernel
theorem dX12_tells_16 : decode cX12_tells 16 = .ok (.ifCond .ne 5, 3) := by decide +kernel
theorem dX12_tells_19 : decode cX12_tells 19 = .ok (.iconst (-1), 1) := by decide +kernel
theorem dX12_tells_20 : decode cX12_tells 20 = .ok (.ireturn, 1) := by decide +kernel
theorem dX12_tells_21 : decode cX12_tells 21 = .ok (.aload_n 0, 1) := by decide +kernel
theorem dX12_tells_22 : decode cX12_tells 22 = .ok (.iload_n 3, 1) := by decide +kernel
theorem dX12_tells_23 : decode cX12_tells 23 = .ok (.invokevirtual 407, 3) := by decide +kernel
theorem dX12_tells_26 : decode cX12_tells 26 = .ok (.istore 4, 2) := by decide +kernel
theorem dX12_tells_28 : decode cX12_tells 28 = .ok (.iload 4, 2) := by decide +kernel
theorem dX12_tells_30 : decode cX12_tells 30 = .ok (.ifCond .ne 5, 3) := by decide +kernel
theorem dX12_tells_33 : decode cX12_tells 33 = .ok (.iconst (-1), 1) := by decide +kernel
theorem dX12_tells_34 : decode cX12_tells 34 = .ok (.ireturn, 1) := by decide +kernel
theorem dX12_tells_35 : decode cX12_tells 35 = .ok (.iconst (-1), 1) := by decide +kernel
theorem dX12_tells_36 : decode cX12_tells 36 = .ok (.istore 5, 2) := by decide +kernel
theorem dX12_tells_38 : decode cX12_tells 38 = .ok (.iconst 0, 1) := by decide +kernel
theorem dX12_tells_39 : decode cX12_tells 39 = .ok (.istore 6, 2) := by decide +kernel
theorem dX12_tells_41 : decode cX12_tells 41 = .ok (.iconst 0, 1) := by decide +kernel
theorem dX12_tells_42 : decode cX12_tells 42 = .ok (.istore 7, 2) := by decide +kernel
theorem dX12_tells_44 : decode cX12_tells 44 = .ok (.iload 7, 2) := by decide +kernel
theorem dX12_tells_46 : decode cX12_tells 46 = .ok (.aload_n 0, 1) := by decide +kernel
theorem dX12_tells_47 : decode cX12_tells 47 = .ok (.getfield 325, 3) := by decide +kernel
theorem dX12_tells_50 : decode cX12_tells 50 = .ok (.if_icmp .ge 71, 3) := by decide +kernel
theorem dX12_tells_53 : decode cX12_tells 53 = .ok (.iconst 0, 1) := by decide +kernel
theorem dX12_tells_54 : decode cX12_tells 54 = .ok (.istore 8, 2) := by decide +kernel
theorem dX12_tells_56 : decode cX12_tells 56 = .ok (.iload 8, 2) := by decide +kernel
theorem dX12_tells_58 : decode cX12_tells 58 = .ok (.aload_n 0, 1) := by decide +kernel
theorem dX12_tells_59 : decode cX12_tells 59 = .ok (.getfield 63, 3) := by decide +kernel
theorem dX12_tells_62 : decode cX12_tells 62 = .ok (.iload 7, 2) := by decide +kernel
theorem dX12_tells_64 : decode cX12_tells 64 = .ok (.iaload, 1) := by decide +kernel
theorem dX12_tells_65 : decode cX12_tells 65 = .ok (.if_icmp .ge 50, 3) := by decide +kernel
theorem dX12_tells_68 : decode cX12_tells 68 = .ok (.aload_n 0, 1) := by decide +kernel
theorem dX12_tells_69 : decode cX12_tells 69 = .ok (.iload 7, 2) := by decide +kernel
theorem dX12_tells_71 : decode cX12_tells 71 = .ok (.iload 8, 2) := by decide +kernel
theorem dX12_tells_73 : decode cX12_tells 73 = .ok (.iload_n 1, 1) := by decide +kernel
theorem dX12_tells_74 : decode cX12_tells 74 = .ok (.iload 4, 2) := by decide +kernel
theorem dX12_tells_76 : decode cX12_tells 76 = .ok (.invokevirtual 461, 3) := by decide +kernel
theorem dX12_tells_79 : decode cX12_tells 79 = .ok (.istore 9, 2) := by decide +kernel
theorem dX12_tells_81 : decode cX12_tells 81 = .ok (.iload 5, 2) := by decide +kernel
theorem dX12_tells_83 : decode cX12_tells 83 = .ok (.ifCond .lt 13, 3) := by decide +kernel
theorem dX12_tells_86 : decode cX12_tells 86 = .ok (.iload 9, 2) := by decide +kernel
theorem dX12_tells_88 : decode cX12_tells 88 = .ok (.iload 6, 2) := by decide +kernel
theorem dX12_tells_90 : decode cX12_tells 90 = .ok (.if_icmp .lt 6, 3) := by decide +kernel
theorem dX12_tells_93 : decode cX12_tells 93 = .ok (.goto 16, 3) := by decide +kernel
theorem dX12_tells_96 : decode cX12_tells 96 = .ok (.iconst 5, 1) := by decide +kernel
theorem dX12_tells_97 : decode cX12_tells 97 = .ok (.iload 7, 2) := by decide +kernel
theorem dX12_tells_99 : decode cX12_tells 99 = .ok (.imul, 1) := by decide +kernel
theorem dX12_tells_100 : decode cX12_tells 100 = .ok (.iload 8, 2) := by decide +kernel
theorem dX12_tells_102 : decode cX12_tells 102 = .ok (.iadd, 1) := by decide +kernel
theorem dX12_tells_103 : decode cX12_tells 103 = .ok (.istore 5, 2) := by decide +kernel
theorem dX12_tells_105 : decode cX12_tells 105 = .ok (.iload 9, 2) := by decide +kernel
theorem dX12_tells_107 : decode cX12_tells 107 = .ok (.istore 6, 2) := by decide +kernel
theorem dX12_tells_109 : decode cX12_tells 109 = .ok (.iinc 8 1, 3) := by decide +kernel
theorem dX12_tells_112 : decode cX12_tells 112 = .ok (.goto (-56), 3) := by decide +kernel
theorem dX12_tells_115 : decode cX12_tells 115 = .ok (.iinc 7 1, 3) := by decide +kernel
theorem dX12_tells_118 : decode cX12_tells 118 = .ok (.goto (-74), 3) := by decide +kernel
theorem dX12_tells_121 : decode cX12_tells 121 = .ok (.iload 5, 2) := by decide +kernel
theorem dX12_tells_123 : decode cX12_tells 123 = .ok (.ifCond .ge 7, 3) := by decide +kernel
theorem dX12_tells_126 : decode cX12_tells 126 = .ok (.iconst (-1), 1) := by decide +kernel
theorem dX12_tells_127 : decode cX12_tells 127 = .ok (.goto 28, 3) := by decide +kernel
theorem dX12_tells_130 : decode cX12_tells 130 = .ok (.iload_n 2, 1) := by decide +kernel
theorem dX12_tells_131 : decode cX12_tells 131 = .ok (.ifCond .ne 10, 3) := by decide +kernel
theorem dX12_tells_134 : decode cX12_tells 134 = .ok (.iload 5, 2) := by decide +kernel
theorem dX12_tells_136 : decode cX12_tells 136 = .ok (.iconst 5, 1) := by decide +kernel
theorem dX12_tells_137 : decode cX12_tells 137 = .ok (.idiv, 1) := by decide +kernel
theorem dX12_tells_138 : decode cX12_tells 138 = .ok (.goto 17, 3) := by decide +kernel
theorem dX12_tells_141 : decode cX12_tells 141 = .ok (.iload_n 2, 1) := by decide +kernel
theorem dX12_tells_142 : decode cX12_tells 142 = .ok (.iconst 1, 1) := by decide +kernel
theorem dX12_tells_143 : decode cX12_tells 143 = .ok (.if_icmp .ne 10, 3) := by decide +kernel
theorem dX12_tells_146 : decode cX12_tells 146 = .ok (.iload 5, 2) := by decide +kernel
theorem dX12_tells_148 : decode cX12_tells 148 = .ok (.iconst 5, 1) := by decide +kernel
theorem dX12_tells_149 : decode cX12_tells 149 = .ok (.irem, 1) := by decide +kernel
theorem dX12_tells_150 : decode cX12_tells 150 = .ok (.goto 5, 3) := by decide +kernel
theorem dX12_tells_153 : decode cX12_tells 153 = .ok (.iload 6, 2) := by decide +kernel
theorem dX12_tells_155 : decode cX12_tells 155 = .ok (.ireturn, 1) := by decide +kernel
theorem dX12_isBox_0 : decode cX12_isBox 0 = .ok (.iload_n 0, 1) := by decide +kernel
theorem dX12_isBox_1 : decode cX12_isBox 1 = .ok (.ifCond .lt 12, 3) := by decide +kernel
theorem dX12_isBox_4 : decode cX12_isBox 4 = .ok (.iload_n 0, 1) := by decide +kernel
theorem dX12_isBox_5 : decode cX12_isBox 5 = .ok (.iconst 3, 1) := by decide +kernel
theorem dX12_isBox_6 : decode cX12_isBox 6 = .ok (.if_icmp .ge 7, 3) := by decide +kernel
theorem dX12_isBox_9 : decode cX12_isBox 9 = .ok (.iconst 1, 1) := by decide +kernel
theorem dX12_isBox_10 : decode cX12_isBox 10 = .ok (.goto 4, 3) := by decide +kernel
theorem dX12_isBox_13 : decode cX12_isBox 13 = .ok (.iconst 0, 1) := by decide +kernel
theorem dX12_isBox_14 : decode cX12_isBox 14 = .ok (.ireturn, 1) := by decide +kernel
theorem dX12_image_0 : decode cX12_image 0 = .ok (.iload_n 1, 1) := by decide +kernel
theorem dX12_image_1 : decode cX12_image 1 = .ok (.invokestatic 464, 3) := by decide +kernel
theorem dX12_image_4 : decode cX12_image 4 = .ok (.ifCond .ne 5, 3) := by decide +kernel
theorem dX12_image_7 : decode cX12_image 7 = .ok (.iconst (-1), 1) := by decide +kernel
theorem dX12_image_8 : decode cX12_image 8 = .ok (.ireturn, 1) := by decide +kernel
theorem dX12_image_9 : decode cX12_image 9 = .ok (.aload_n 0, 1) := by decide +kernel
theorem dX12_image_10 : decode cX12_image 10 = .ok (.getfield 139, 3) := by decide +kernel
theorem dX12_image_13 : decode cX12_image 13 = .ok (.iload_n 1, 1) := by decide +kernel
theorem dX12_image_14 : decode cX12_image 14 = .ok (.iconst 1, 1) := by decide +kernel
theorem dX12_image_15 : decode cX12_image 15 = .ok (.bastore, 1) := by decide +kernel
theorem dX12_image_16 : decode cX12_image 16 = .ok (.iconst 0, 1) := by decide +kernel
theorem dX12_image_17 : decode cX12_image 17 = .ok (.istore_n 2, 1) := by decide +kernel
theorem dX12_image_18 : decode cX12_image 18 = .ok (.iload_n 2, 1) := by decide +kernel
theorem dX12_image_19 : decode cX12_image 19 = .ok (.bipush 40, 2) := by decide +kernel
theorem dX12_image_21 : decode cX12_image 21 = .ok (.if_icmp .ge 26, 3) := by decide +kernel
theorem dX12_image_24 : decode cX12_image 24 = .ok (.aload_n 0, 1) := by decide +kernel
theorem dX12_image_25 : decode cX12_image 25 = .ok (.getfield 142, 3) := by decide +kernel
theorem dX12_image_28 : decode cX12_image 28 = .ok (.bipush 40, 2) := by decide +kernel
theorem dX12_image_30 : decode cX12_image 30 = .ok (.iload_n 1, 1) := by decide +kernel
theorem dX12_image_31 : decode cX12_image 31 = .ok (.imul, 1) := by decide +kernel
theorem dX12_image_32 : decode cX12_image 32 = .ok (.iload_n 2, 1) := by decide +kernel
theorem dX12_image_33 : decode cX12_image 33 = .ok (.iadd, 1) := by decide +kernel
theorem dX12_image_34 : decode cX12_image 34 = .ok (.aload_n 0, 1) := by decide +kernel
theorem dX12_image_35 : decode cX12_image 35 = .ok (.getfield 90, 3) := by decide +kernel
theorem dX12_image_38 : decode cX12_image 38 = .ok (.iload_n 2, 1) := by decide +kernel
theorem dX12_image_39 : decode cX12_image 39 = .ok (.iaload, 1) := by decide +kernel
theorem dX12_image_40 : decode cX12_image 40 = .ok (.iastore, 1) := by decide +kernel
theorem dX12_image_41 : decode cX12_image 41 = .ok (.iinc 2 1, 3) := by decide +kernel
theorem dX12_image_44 : decode cX12_image 44 = .ok (.goto (-26), 3) := by decide +kernel
theorem dX12_image_47 : decode cX12_image 47 = .ok (.iconst 0, 1) := by decide +kernel
theorem dX12_image_48 : decode cX12_image 48 = .ok (.istore_n 2, 1) := by decide +kernel
theorem dX12_image_49 : decode cX12_image 49 = .ok (.iload_n 2, 1) := by decide +kernel
theorem dX12_image_50 : decode cX12_image 50 = .ok (.bipush 32, 2) := by decide +kernel
theorem dX12_image_52 : decode cX12_image 52 = .ok (.if_icmp .ge 26, 3) := by decide +kernel
theorem dX12_image_55 : decode cX12_image 55 = .ok (.aload_n 0, 1) := by decide +kernel
theorem dX12_image_56 : decode cX12_image 56 = .ok (.getfield 145, 3) := by decide +kernel
theorem dX12_image_59 : decode cX12_image 59 = .ok (.bipush 32, 2) := by decide +kernel
theorem dX12_image_61 : decode cX12_image 61 = .ok (.iload_n 1, 1) := by decide +kernel
theorem dX12_image_62 : decode cX12_image 62 = .ok (.imul, 1) := by decide +kernel
theorem dX12_image_63 : decode cX12_image 63 = .ok (.iload_n 2, 1) := by decide +kernel
theorem dX12_image_64 : decode cX12_image 64 = .ok (.iadd, 1) := by decide +kernel
theorem dX12_image_65 : decode cX12_image 65 = .ok (.aload_n 0, 1) := by decide +kernel
theorem dX12_image_66 : decode cX12_image 66 = .ok (.getfield 93, 3) := by decide +kernel
theorem dX12_image_69 : decode cX12_image 69 = .ok (.iload_n 2, 1) := by decide +kernel
theorem dX12_image_70 : decode cX12_image 70 = .ok (.iaload, 1) := by decide +kernel
theorem dX12_image_71 : decode cX12_image 71 = .ok (.iastore, 1) := by decide +kernel
theorem dX12_image_72 : decode cX12_image 72 = .ok (.iinc 2 1, 3) := by decide +kernel
theorem dX12_image_75 : decode cX12_image 75 = .ok (.goto (-26), 3) := by decide +kernel
theorem dX12_image_78 : decode cX12_image 78 = .ok (.aload_n 0, 1) := by decide +kernel
theorem dX12_image_79 : decode cX12_image 79 = .ok (.getfield 148, 3) := by decide +kernel
theorem dX12_image_82 : decode cX12_image 82 = .ok (.iconst 3, 1) := by decide +kernel
theorem dX12_image_83 : decode cX12_image 83 = .ok (.iload_n 1, 1) := by decide +kernel
theorem dX12_image_84 : decode cX12_image 84 = .ok (.imul, 1) := by decide +kernel
theorem dX12_image_85 : decode cX12_image 85 = .ok (.aload_n 0, 1) := by decide +kernel
theorem dX12_image_86 : decode cX12_image 86 = .ok (.getfield 343, 3) := by decide +kernel
theorem dX12_image_89 : decode cX12_image 89 = .ok (.iastore, 1) := by decide +kernel
theorem dX12_image_90 : decode cX12_image 90 = .ok (.aload_n 0, 1) := by decide +kernel
theorem dX12_image_91 : decode cX12_image 91 = .ok (.getfield 148, 3) := by decide +kernel
theorem dX12_image_94 : decode cX12_image 94 = .ok (.iconst 3, 1) := by decide +kernel
theorem dX12_image_95 : decode cX12_image 95 = .ok (.iload_n 1, 1) := by decide +kernel
theorem dX12_image_96 : decode cX12_image 96 = .ok (.imul, 1) := by decide +kernel
theorem dX12_image_97 : decode cX12_image 97 = .ok (.iconst 1, 1) := by decide +kernel
theorem dX12_image_98 : decode cX12_image 98 = .ok (.iadd, 1) := by decide +kernel
theorem dX12_image_99 : decode cX12_image 99 = .ok (.aload_n 0, 1) := by decide +kernel
theorem dX12_image_100 : decode cX12_image 100 = .ok (.getfield 346, 3) := by decide +kernel
theorem dX12_image_103 : decode cX12_image 103 = .ok (.iastore, 1) := by decide +kernel
theorem dX12_image_104 : decode cX12_image 104 = .ok (.aload_n 0, 1) := by decide +kernel
theorem dX12_image_105 : decode cX12_image 105 = .ok (.getfield 148, 3) := by decide +kernel
theorem dX12_image_108 : decode cX12_image 108 = .ok (.iconst 3, 1) := by decide +kernel
theorem dX12_image_109 : decode cX12_image 109 = .ok (.iload_n 1, 1) := by decide +kernel
theorem dX12_image_110 : decode cX12_image 110 = .ok (.imul, 1) := by decide +kernel
theorem dX12_image_111 : decode cX12_image 111 = .ok (.iconst 2, 1) := by decide +kernel
theorem dX12_image_112 : decode cX12_image 112 = .ok (.iadd, 1) := by decide +kernel
theorem dX12_image_113 : decode cX12_image 113 = .ok (.aload_n 0, 1) := by decide +kernel
theorem dX12_image_114 : decode cX12_image 114 = .ok (.getfield 151, 3) := by decide +kernel
theorem dX12_image_117 : decode cX12_image 117 = .ok (.iastore, 1) := by decide +kernel
theorem dX12_image_118 : decode cX12_image 118 = .ok (.aload_n 0, 1) := by decide +kernel
theorem dX12_image_119 : decode cX12_image 119 = .ok (.getfield 343, 3) := by decide +kernel
theorem dX12_image_122 : decode cX12_image 122 = .ok (.ireturn, 1) := by decide +kernel
theorem dX12_back_0 : decode cX12_back 0 = .ok (.iload_n 1, 1) := by decide +kernel
theorem dX12_back_1 : decode cX12_back 1 = .ok (.invokestatic 464, 3) := by decide +kernel
theorem dX12_back_4 : decode cX12_back 4 = .ok (.ifCond .eq 12, 3) := by decide +kernel
theorem dX12_back_7 : decode cX12_back 7 = .ok (.aload_n 0, 1) := by decide +kernel
theorem dX12_back_8 : decode cX12_back 8 = .ok (.getfield 139, 3) := by decide +kernel
theorem dX12_back_11 : decode cX12_back 11 = .ok (.iload_n 1, 1) := by decide +kernel
theorem dX12_back_12 : decode cX12_back 12 = .ok (.baload, 1) := by decide +kernel
theorem dX12_back_13 : decode cX12_back 13 = .ok (.ifCond .ne 5, 3) := by decide +kernel
theorem dX12_back_16 : decode cX12_back 16 = .ok (.iconst (-1), 1) := by decide +kernel
theorem dX12_back_17 : decode cX12_back 17 = .ok (.ireturn, 1) := by decide +kernel
theorem dX12_back_18 : decode cX12_back 18 = .ok (.iconst 0, 1) := by decide +kernel
theorem dX12_back_19 : decode cX12_back 19 = .ok (.istore_n 2, 1) := by decide +kernel
theorem dX12_back_20 : decode cX12_back 20 = .ok (.iload_n 2, 1) := by decide +kernel
theorem dX12_back_21 : decode cX12_back 21 = .ok (.bipush 40, 2) := by decide +kernel
theorem dX12_back_23 : decode cX12_back 23 = .ok (.if_icmp .ge 26, 3) := by decide +kernel
theorem dX12_back_26 : decode cX12_back 26 = .ok (.aload_n 0, 1) := by decide +kernel
theorem dX12_back_27 : decode cX12_back 27 = .ok (.getfield 90, 3) := by decide +kernel
theorem dX12_back_30 : decode cX12_back 30 = .ok (.iload_n 2, 1) := by decide +kernel
theorem dX12_back_31 : decode cX12_back 31 = .ok (.aload_n 0, 1) := by decide +kernel
theorem dX12_back_32 : decode cX12_back 32 = .ok (.getfield 142, 3) := by decide +kernel
theorem dX12_back_35 : decode cX12_back 35 = .ok (.bipush 40, 2) := by decide +kernel
theorem dX12_back_37 : decode cX12_back 37 = .ok (.iload_n 1, 1) := by decide +kernel
theorem dX12_back_38 : decode cX12_back 38 = .ok (.imul, 1) := by decide +kernel
theorem dX12_back_39 : decode cX12_back 39 = .ok (.iload_n 2, 1) := by decide +kernel
theorem dX12_back_40 : decode cX12_back 40 = .ok (.iadd, 1) := by decide +kernel
theorem dX12_back_41 : decode cX12_back 41 = .ok (.iaload, 1) := by decide +kernel
theorem dX12_back_42 : decode cX12_back 42 = .ok (.iastore, 1) := by decide +kernel
theorem dX12_back_43 : decode cX12_back 43 = .ok (.iinc 2 1, 3) := by decide +kernel
theorem dX12_back_46 : decode cX12_back 46 = .ok (.goto (-26), 3) := by decide +kernel
theorem dX12_back_49 : decode cX12_back 49 = .ok (.iconst 0, 1) := by decide +kernel
theorem dX12_back_50 : decode cX12_back 50 = .ok (.istore_n 2, 1) := by decide +kernel
theorem dX12_back_51 : decode cX12_back 51 = .ok (.iload_n 2, 1) := by decide +kernel
theorem dX12_back_52 : decode cX12_back 52 = .ok (.bipush 32, 2) := by decide +kernel
theorem dX12_back_54 : decode cX12_back 54 = .ok (.if_icmp .ge 26, 3) := by decide +kernel
theorem dX12_back_57 : decode cX12_back 57 = .ok (.aload_n 0, 1) := by decide +kernel
theorem dX12_back_58 : decode cX12_back 58 = .ok (.getfield 93, 3) := by decide +kernel
theorem dX12_back_61 : decode cX12_back 61 = .ok (.iload_n 2, 1) := by decide +kernel
theorem dX12_back_62 : decode cX12_back 62 = .ok (.aload_n 0, 1) := by decide +kernel
theorem dX12_back_63 : decode cX12_back 63 = .ok (.getfield 145, 3) := by decide +kernel
theorem dX12_back_66 : decode cX12_back 66 = .ok (.bipush 32, 2) := by decide +kernel
theorem dX12_back_68 : decode cX12_back 68 = .ok (.iload_n 1, 1) := by decide +kernel
theorem dX12_back_69 : decode cX12_back 69 = .ok (.imul, 1) := by decide +kernel
theorem dX12_back_70 : decode cX12_back 70 = .ok (.iload_n 2, 1) := by decide +kernel
theorem dX12_back_71 : decode cX12_back 71 = .ok (.iadd, 1) := by decide +kernel
theorem dX12_back_72 : decode cX12_back 72 = .ok (.iaload, 1) := by decide +kernel
theorem dX12_back_73 : decode cX12_back 73 = .ok (.iastore, 1) := by decide +kernel
theorem dX12_back_74 : decode cX12_back 74 = .ok (.iinc 2 1, 3) := by decide +kernel
theorem dX12_back_77 : decode cX12_back 77 = .ok (.goto (-26), 3) := by decide +kernel
theorem dX12_back_80 : decode cX12_back 80 = .ok (.aload_n 0, 1) := by decide +kernel
theorem dX12_back_81 : decode cX12_back 81 = .ok (.aload_n 0, 1) := by decide +kernel
theorem dX12_back_82 : decode cX12_back 82 = .ok (.getfield 148, 3) := by decide +kernel
theorem dX12_back_85 : decode cX12_back 85 = .ok (.iconst 3, 1) := by decide +kernel
theorem dX12_back_86 : decode cX12_back 86 = .ok (.iload_n 1, 1) := by decide +kernel
theorem dX12_back_87 : decode cX12_back 87 = .ok (.imul, 1) := by decide +kernel
theorem dX12_back_88 : decode cX12_back 88 = .ok (.iaload, 1) := by decide +kernel
theorem dX12_back_89 : decode cX12_back 89 = .ok (.putfield 343, 3) := by decide +kernel
theorem dX12_back_92 : decode cX12_back 92 = .ok (.aload_n 0, 1) := by decide +kernel
theorem dX12_back_93 : decode cX12_back 93 = .ok (.aload_n 0, 1) := by decide +kernel
theorem dX12_back_94 : decode cX12_back 94 = .ok (.getfield 148, 3) := by decide +kernel
theorem dX12_back_97 : decode cX12_back 97 = .ok (.iconst 3, 1) := by decide +kernel
theorem dX12_back_98 : decode cX12_back 98 = .ok (.iload_n 1, 1) := by decide +kernel
theorem dX12_back_99 : decode cX12_back 99 = .ok (.imul, 1) := by decide +kernel
theorem dX12_back_100 : decode cX12_back 100 = .ok (.iconst 1, 1) := by decide +kernel
theorem dX12_back_101 : decode cX12_back 101 = .ok (.iadd, 1) := by decide +kernel
theorem dX12_back_102 : decode cX12_back 102 = .ok (.iaload, 1) := by decide +kernel
theorem dX12_back_103 : decode cX12_back 103 = .ok (.putfield 346, 3) := by decide +kernel
theorem dX12_back_106 : decode cX12_back 106 = .ok (.aload_n 0, 1) := by decide +kernel
theorem dX12_back_107 : decode cX12_back 107 = .ok (.aload_n 0, 1) := by decide +kernel
theorem dX12_back_108 : decode cX12_back 108 = .ok (.getfield 148, 3) := by decide +kernel
theorem dX12_back_111 : decode cX12_back 111 = .ok (.iconst 3, 1) := by decide +kernel
theorem dX12_back_112 : decode cX12_back 112 = .ok (.iload_n 1, 1) := by decide +kernel
theorem dX12_back_113 : decode cX12_back 113 = .ok (.imul, 1) := by decide +kernel
theorem dX12_back_114 : decode cX12_back 114 = .ok (.iconst 2, 1) := by decide +kernel
theorem dX12_back_115 : decode cX12_back 115 = .ok (.iadd, 1) := by decide +kernel
theorem dX12_back_116 : decode cX12_back 116 = .ok (.iaload, 1) := by decide +kernel
theorem dX12_back_117 : decode cX12_back 117 = .ok (.putfield 151, 3) := by decide +kernel
theorem dX12_back_120 : decode cX12_back 120 = .ok (.aload_n 0, 1) := by decide +kernel
theorem dX12_back_121 : decode cX12_back 121 = .ok (.getfield 343, 3) := by decide +kernel
theorem dX12_back_124 : decode cX12_back 124 = .ok (.ireturn, 1) := by decide +kernel
