theorem dX11_feed_0 : decode cX11_feed 0 = .ok (.aload_n 0, 1) := by decide +kernel
theorem dX11_feed_1 : decode cX11_feed 1 = .ok (.getfield 13, 3) := by decide +kernel
theorem dX11_feed_4 : decode cX11_feed 4 = .ok (.bipush 20, 2) := by decide +kernel
theorem dX11_feed_6 : decode cX11_feed 6 = .ok (.iadd, 1) := by decide +kernel
theorem dX11_feed_7 : decode cX11_feed 7 = .ok (.sipush 1700, 3) := by decide +kernel
theorem dX11_feed_10 : decode cX11_feed 10 = .ok (.if_icmp .le 5, 3) := by decide +kernel
theorem dX11_feed_13 : decode cX11_feed 13 = .ok (.iconst (-1), 1) := by decide +kernel
theorem dX11_feed_14 : decode cX11_feed 14 = .ok (.ireturn, 1) := by decide +kernel
theorem dX11_feed_15 : decode cX11_feed 15 = .ok (.aload_n 0, 1) := by decide +kernel
theorem dX11_feed_16 : decode cX11_feed 16 = .ok (.iload_n 1, 1) := by decide +kernel
theorem dX11_feed_17 : decode cX11_feed 17 = .ok (.invokevirtual 90, 3) := by decide +kernel
theorem dX11_feed_20 : decode cX11_feed 20 = .ok (.aload_n 0, 1) := by decide +kernel
theorem dX11_feed_21 : decode cX11_feed 21 = .ok (.iload_n 2, 1) := by decide +kernel
theorem dX11_feed_22 : decode cX11_feed 22 = .ok (.invokevirtual 90, 3) := by decide +kernel
theorem dX11_feed_25 : decode cX11_feed 25 = .ok (.aload_n 0, 1) := by decide +kernel
theorem dX11_feed_26 : decode cX11_feed 26 = .ok (.iload_n 3, 1) := by decide +kernel
theorem dX11_feed_27 : decode cX11_feed 27 = .ok (.invokevirtual 90, 3) := by decide +kernel
theorem dX11_feed_30 : decode cX11_feed 30 = .ok (.aload_n 0, 1) := by decide +kernel
theorem dX11_feed_31 : decode cX11_feed 31 = .ok (.iload 4, 2) := by decide +kernel
theorem dX11_feed_33 : decode cX11_feed 33 = .ok (.invokevirtual 90, 3) := by decide +kernel
theorem dX11_feed_36 : decode cX11_feed 36 = .ok (.aload_n 0, 1) := by decide +kernel
theorem dX11_feed_37 : decode cX11_feed 37 = .ok (.iload 5, 2) := by decide +kernel
theorem dX11_feed_39 : decode cX11_feed 39 = .ok (.invokevirtual 90, 3) := by decide +kernel
theorem dX11_feed_42 : decode cX11_feed 42 = .ok (.aload_n 0, 1) := by decide +kernel
theorem dX11_feed_43 : decode cX11_feed 43 = .ok (.getfield 13, 3) := by decide +kernel
theorem dX11_feed_46 : decode cX11_feed 46 = .ok (.ireturn, 1) := by decide +kernel
theorem dX11_end_0 : decode cX11_end 0 = .ok (.iload_n 1, 1) := by decide +kernel
theorem dX11_end_1 : decode cX11_end 1 = .ok (.ifCond .lt 11, 3) := by decide +kernel
theorem dX11_end_4 : decode cX11_end 4 = .ok (.iload_n 1, 1) := by decide +kernel
theorem dX11_end_5 : decode cX11_end 5 = .ok (.aload_n 0, 1) := by decide +kernel
theorem dX11_end_6 : decode cX11_end 6 = .ok (.getfield 13, 3) := by decide +kernel
theorem dX11_end_9 : decode cX11_end 9 = .ok (.if_icmp .le 5, 3) := by decide +kernel
theorem dX11_end_12 : decode cX11_end 12 = .ok (.iconst (-1), 1) := by decide +kernel
theorem dX11_end_13 : decode cX11_end 13 = .ok (.ireturn, 1) := by decide +kernel
theorem dX11_end_14 : decode cX11_end 14 = .ok (.aload_n 0, 1) := by decide +kernel
theorem dX11_end_15 : decode cX11_end 15 = .ok (.iload_n 1, 1) := by decide +kernel
theorem dX11_end_16 : decode cX11_end 16 = .ok (.putfield 13, 3) := by decide +kernel
theorem dX11_end_19 : decode cX11_end 19 = .ok (.iload_n 1, 1) := by decide +kernel
theorem dX11_end_20 : decode cX11_end 20 = .ok (.ireturn, 1) := by decide +kernel
theorem dX11_land_0 : decode cX11_land 0 = .ok (.aload_n 0, 1) := by decide +kernel
theorem dX11_land_1 : decode cX11_land 1 = .ok (.getfield 32, 3) := by decide +kernel
theorem dX11_land_4 : decode cX11_land 4 = .ok (.aload_n 0, 1) := by decide +kernel
theorem dX11_land_5 : decode cX11_land 5 = .ok (.getfield 9, 3) := by decide +kernel
theorem dX11_land_8 : decode cX11_land 8 = .ok (.aload_n 0, 1) := by decide +kernel
theorem dX11_land_9 : decode cX11_land 9 = .ok (.getfield 13, 3) := by decide +kernel
theorem dX11_land_12 : decode cX11_land 12 = .ok (.aload_n 0, 1) := by decide +kernel
theorem dX11_land_13 : decode cX11_land 13 = .ok (.getfield 24, 3) := by decide +kernel
theorem dX11_land_16 : decode cX11_land 16 = .ok (.invokevirtual 94, 3) := by decide +kernel
theorem dX11_land_19 : decode cX11_land 19 = .ok (.istore_n 1, 1) := by decide +kernel
theorem dX11_land_20 : decode cX11_land 20 = .ok (.aload_n 0, 1) := by decide +kernel
theorem dX11_land_21 : decode cX11_land 21 = .ok (.iconst 0, 1) := by decide +kernel
theorem dX11_land_22 : decode cX11_land 22 = .ok (.putfield 13, 3) := by decide +kernel
theorem dX11_land_25 : decode cX11_land 25 = .ok (.iload_n 1, 1) := by decide +kernel
theorem dX11_land_26 : decode cX11_land 26 = .ok (.ifCond .ne 5, 3) := by decide +kernel
theorem dX11_land_29 : decode cX11_land 29 = .ok (.iconst (-1), 1) := by decide +kernel
theorem dX11_land_30 : decode cX11_land 30 = .ok (.ireturn, 1) := by decide +kernel
theorem dX11_land_31 : decode cX11_land 31 = .ok (.aload_n 0, 1) := by decide +kernel
theorem dX11_land_32 : decode cX11_land 32 = .ok (.getfield 20, 3) := by decide +kernel
theorem dX11_land_35 : decode cX11_land 35 = .ok (.astore_n 2, 1) := by decide +kernel
theorem dX11_land_36 : decode cX11_land 36 = .ok (.aload_n 0, 1) := by decide +kernel
theorem dX11_land_37 : decode cX11_land 37 = .ok (.aload_n 0, 1) := by decide +kernel
theorem dX11_land_38 : decode cX11_land 38 = .ok (.getfield 24, 3) := by decide +kernel
theorem dX11_land_41 : decode cX11_land 41 = .ok (.putfield 20, 3) := by decide +kernel
theorem dX11_land_44 : decode cX11_land 44 = .ok (.aload_n 0, 1) := by decide +kernel
theorem dX11_land_45 : decode cX11_land 45 = .ok (.aload_n 2, 1) := by decide +kernel
theorem dX11_land_46 : decode cX11_land 46 = .ok (.putfield 24, 3) := by decide +kernel
theorem dX11_land_49 : decode cX11_land 49 = .ok (.aload_n 0, 1) := by decide +kernel
theorem dX11_land_50 : decode cX11_land 50 = .ok (.getfield 39, 3) := by decide +kernel
theorem dX11_land_53 : decode cX11_land 53 = .ok (.aload_n 0, 1) := by decide +kernel
theorem dX11_land_54 : decode cX11_land 54 = .ok (.getfield 20, 3) := by decide +kernel
theorem dX11_land_57 : decode cX11_land 57 = .ok (.invokevirtual 98, 3) := by decide +kernel
theorem dX11_land_60 : decode cX11_land 60 = .ok (.aload_n 0, 1) := by decide +kernel
theorem dX11_land_61 : decode cX11_land 61 = .ok (.getfield 74, 3) := by decide +kernel
theorem dX11_land_64 : decode cX11_land 64 = .ok (.invokevirtual 101, 3) := by decide +kernel
theorem dX11_land_67 : decode cX11_land 67 = .ok (.aload_n 0, 1) := by decide +kernel
theorem dX11_land_68 : decode cX11_land 68 = .ok (.getfield 60, 3) := by decide +kernel
theorem dX11_land_71 : decode cX11_land 71 = .ok (.invokevirtual 104, 3) := by decide +kernel
theorem dX11_land_74 : decode cX11_land 74 = .ok (.iconst 0, 1) := by decide +kernel
theorem dX11_land_75 : decode cX11_land 75 = .ok (.istore_n 3, 1) := by decide +kernel
theorem dX11_land_76 : decode cX11_land 76 = .ok (.iload_n 3, 1) := by decide +kernel
theorem dX11_land_77 : decode cX11_land 77 = .ok (.iconst 3, 1) := by decide +kernel
theorem dX11_land_78 : decode cX11_land 78 = .ok (.if_icmp .ge 16, 3) := by decide +kernel
theorem dX11_land_81 : decode cX11_land 81 = .ok (.aload_n 0, 1) := by decide +kernel
theorem dX11_land_82 : decode cX11_land 82 = .ok (.getfield 86, 3) := by decide +kernel
theorem dX11_land_85 : decode cX11_land 85 = .ok (.iload_n 3, 1) := by decide +kernel
theorem dX11_land_86 : decode cX11_land 86 = .ok (.iconst 0, 1) := by decide +kernel
theorem dX11_land_87 : decode cX11_land 87 = .ok (.bastore, 1) := by decide +kernel
theorem dX11_land_88 : decode cX11_land 88 = .ok (.iinc 3 1, 3) := by decide +kernel
theorem dX11_land_91 : decode cX11_land 91 = .ok (.goto (-15), 3) := by decide +kernel
theorem dX11_land_94 : decode cX11_land 94 = .ok (.aload_n 0, 1) := by decide +kernel
theorem dX11_land_95 : decode cX11_land 95 = .ok (.getfield 20, 3) := by decide +kernel
theorem dX11_land_98 : decode cX11_land 98 = .ok (.getfield 107, 3) := by decide +kernel
theorem dX11_land_101 : decode cX11_land 101 = .ok (.ireturn, 1) := by decide +kernel
theorem dX11_fault_0 : decode cX11_fault 0 = .ok (.iload_n 1, 1) := by decide +kernel
theorem dX11_fault_1 : decode cX11_fault 1 = .ok (.ifCond .ne 11, 3) := by decide +kernel
theorem dX11_fault_4 : decode cX11_fault 4 = .ok (.aload_n 0, 1) := by decide +kernel
theorem dX11_fault_5 : decode cX11_fault 5 = .ok (.getfield 32, 3) := by decide +kernel
theorem dX11_fault_8 : decode cX11_fault 8 = .ok (.getfield 110, 3) := by decide +kernel
theorem dX11_fault_11 : decode cX11_fault 11 = .ok (.ireturn, 1) := by decide +kernel
theorem dX11_fault_12 : decode cX11_fault 12 = .ok (.iload_n 1, 1) := by decide +kernel
theorem dX11_fault_13 : decode cX11_fault 13 = .ok (.iconst 1, 1) := by decide +kernel
theorem dX11_fault_14 : decode cX11_fault 14 = .ok (.if_icmp .ne 13, 3) := by decide +kernel
theorem dX11_fault_17 : decode cX11_fault 17 = .ok (.aload_n 0, 1) := by decide +kernel
theorem dX11_fault_18 : decode cX11_fault 18 = .ok (.getfield 32, 3) := by decide +kernel
theorem dX11_fault_21 : decode cX11_fault 21 = .ok (.getfield 113, 3) := by decide +kernel
theorem dX11_fault_24 : decode cX11_fault 24 = .ok (.goto 4, 3) := by decide +kernel
theorem dX11_fault_27 : decode cX11_fault 27 = .ok (.iconst (-1), 1) := by decide +kernel
theorem dX11_fault_28 : decode cX11_fault 28 = .ok (.ireturn, 1) := by decide +kernel
theorem dX11_run_0 : decode cX11_run 0 = .ok (.iload_n 1, 1) := by decide +kernel
theorem dX11_run_1 : decode cX11_run 1 = .ok (.ifCond .lt 25, 3) := by decide +kernel
theorem dX11_run_4 : decode cX11_run 4 = .ok (.iload_n 1, 1) := by decide +kernel
theorem dX11_run_5 : decode cX11_run 5 = .ok (.sipush 144, 3) := by decide +kernel
theorem dX11_run_8 : decode cX11_run 8 = .ok (.if_icmp .gt 18, 3) := by decide +kernel
theorem dX11_run_11 : decode cX11_run 11 = .ok (.aload_n 0, 1) := by decide +kernel
theorem dX11_run_12 : decode cX11_run 12 = .ok (.getfield 39, 3) := by decide +kernel
theorem dX11_run_15 : decode cX11_run 15 = .ok (.getfield 116, 3) := by decide +kernel
theorem dX11_run_18 : decode cX11_run 18 = .ok (.iload_n 1, 1) := by decide +kernel
theorem dX11_run_19 : decode cX11_run 19 = .ok (.iadd, 1) := by decide +kernel
theorem dX11_run_20 : decode cX11_run 20 = .ok (.sipush 720, 3) := by decide +kernel
theorem dX11_run_23 : decode cX11_run 23 = .ok (.if_icmp .le 5, 3) := by decide +kernel
theorem dX11_run_26 : decode cX11_run 26 = .ok (.iconst (-1), 1) := by decide +kernel
theorem dX11_run_27 : decode cX11_run 27 = .ok (.ireturn, 1) := by decide +kernel
theorem dX11_run_28 : decode cX11_run 28 = .ok (.iconst 0, 1) := by decide +kernel
theorem dX11_run_29 : decode cX11_run 29 = .ok (.istore_n 2, 1) := by decide +kernel
theorem dX11_run_30 : decode cX11_run 30 = .ok (.iload_n 2, 1) := by decide +kernel
theorem dX11_run_31 : decode cX11_run 31 = .ok (.iload_n 1, 1) := by decide +kernel
theorem dX11_run_32 : decode cX11_run 32 = .ok (.if_icmp .ge 16, 3) := by decide +kernel
theorem dX11_run_35 : decode cX11_run 35 = .ok (.aload_n 0, 1) := by decide +kernel
theorem dX11_run_36 : decode cX11_run 36 = .ok (.getfield 39, 3) := by decide +kernel
theorem dX11_run_39 : decode cX11_run 39 = .ok (.invokevirtual 119, 3) := by decide +kernel
theorem dX11_run_42 : decode cX11_run 42 = .ok (.iinc 2 1, 3) := by decide +kernel
theorem dX11_run_45 : decode cX11_run 45 = .ok (.goto (-15), 3) := by decide +kernel
theorem dX11_run_48 : decode cX11_run 48 = .ok (.aload_n 0, 1) := by decide +kernel
theorem dX11_run_49 : decode cX11_run 49 = .ok (.getfield 39, 3) := by decide +kernel
theorem dX11_run_52 : decode cX11_run 52 = .ok (.getfield 116, 3) := by decide +kernel
theorem dX11_run_55 : decode cX11_run 55 = .ok (.ireturn, 1) := by decide +kernel
theorem dX11_shift_0 : decode cX11_shift 0 = .ok (.iload_n 1, 1) := by decide +kernel
theorem dX11_shift_1 : decode cX11_shift 1 = .ok (.invokestatic 122, 3) := by decide +kernel
theorem dX11_shift_4 : decode cX11_shift 4 = .ok (.ifCond .ne 6, 3) := by decide +kernel
theorem dX11_shift_7 : decode cX11_shift 7 = .ok (.ldc 126, 2) := by decide +kernel
theorem dX11_shift_9 : decode cX11_shift 9 = .ok (.ireturn, 1) := by decide +kernel
theorem dX11_shift_10 : decode cX11_shift 10 = .ok (.aload_n 0, 1) := by decide +kernel
theorem dX11_shift_11 : decode cX11_shift 11 = .ok (.getfield 39, 3) := by decide +kernel
theorem dX11_shift_14 : decode cX11_shift 14 = .ok (.getfield 127, 3) := by decide +kernel
theorem dX11_shift_17 : decode cX11_shift 17 = .ok (.istore_n 2, 1) := by decide +kernel
theorem dX11_shift_18 : decode cX11_shift 18 = .ok (.aload_n 0, 1) := by decide +kernel
theorem dX11_shift_19 : decode cX11_shift 19 = .ok (.getfield 39, 3) := by decide +kernel
theorem dX11_shift_22 : decode cX11_shift 22 = .ok (.iload_n 1, 1) := by decide +kernel
theorem dX11_shift_23 : decode cX11_shift 23 = .ok (.putfield 127, 3) := by decide +kernel
theorem dX11_shift_26 : decode cX11_shift 26 = .ok (.iload_n 2, 1) := by decide +kernel
theorem dX11_shift_27 : decode cX11_shift 27 = .ok (.ireturn, 1) := by decide +kernel
theorem dX11_spread_0 : decode cX11_spread 0 = .ok (.aload_n 0, 1) := by decide +kernel
theorem dX11_spread_1 : decode cX11_spread 1 = .ok (.iload_n 1, 1) := by decide +kernel
theorem dX11_spread_2 : decode cX11_spread 2 = .ok (.invokevirtual 130, 3) := by decide +kernel
theorem dX11_spread_5 : decode cX11_spread 5 = .ok (.ifCond .eq 25, 3) := by decide +kernel
theorem dX11_spread_8 : decode cX11_spread 8 = .ok (.iload_n 2, 1) := by decide +kernel
theorem dX11_spread_9 : decode cX11_spread 9 = .ok (.iconst 1, 1) := by decide +kernel
theorem dX11_spread_10 : decode cX11_spread 10 = .ok (.if_icmp .lt 20, 3) := by decide +kernel
theorem dX11_spread_13 : decode cX11_spread 13 = .ok (.iload_n 2, 1) := by decide +kernel
theorem dX11_spread_14 : decode cX11_spread 14 = .ok (.bipush 99, 2) := by decide +kernel
theorem dX11_spread_16 : decode cX11_spread 16 = .ok (.if_icmp .gt 14, 3) := by decide +kernel
theorem dX11_spread_19 : decode cX11_spread 19 = .ok (.iload_n 2, 1) := by decide +kernel
theorem dX11_spread_20 : decode cX11_spread 20 = .ok (.aload_n 0, 1) := by decide +kernel
theorem dX11_spread_21 : decode cX11_spread 21 = .ok (.getfield 39, 3) := by decide +kernel
theorem dX11_spread_24 : decode cX11_spread 24 = .ok (.getfield 133, 3) := by decide +kernel
theorem dX11_spread_27 : decode cX11_spread 27 = .ok (.if_icmp .le 5, 3) := by decide +kernel
theorem dX11_spread_30 : decode cX11_spread 30 = .ok (.iconst (-1), 1) := by decide +kernel
theorem dX11_spread_31 : decode cX11_spread 31 = .ok (.ireturn, 1) := by decide +kernel
theorem dX11_spread_32 : decode cX11_spread 32 = .ok (.aload_n 0, 1) := by decide +kernel
theorem dX11_spread_33 : decode cX11_spread 33 = .ok (.getfield 39, 3) := by decide +kernel
theorem dX11_spread_36 : decode cX11_spread 36 = .ok (.iload_n 1, 1) := by decide +kernel
theorem dX11_spread_37 : decode cX11_spread 37 = .ok (.iload_n 2, 1) := by decide +kernel
theorem dX11_spread_38 : decode cX11_spread 38 = .ok (.invokevirtual 136, 3) := by decide +kernel
theorem dX11_spread_41 : decode cX11_spread 41 = .ok (.aload_n 0, 1) := by decide +kernel
theorem dX11_spread_42 : decode cX11_spread 42 = .ok (.getfield 39, 3) := by decide +kernel
theorem dX11_spread_45 : decode cX11_spread 45 = .ok (.getfield 133, 3) := by decide +kernel
theorem dX11_spread_48 : decode cX11_spread 48 = .ok (.ireturn, 1) := by decide +kernel
theorem dX11_yard_0 : decode cX11_yard 0 = .ok (.aload_n 0, 1) := by decide +kernel
theorem dX11_yard_1 : decode cX11_yard 1 = .ok (.iload_n 1, 1) := by decide +kernel
theorem dX11_yard_2 : decode cX11_yard 2 = .ok (.invokevirtual 130, 3) := by decide +kernel
theorem dX11_yard_5 : decode cX11_yard 5 = .ok (.ifCond .ne 5, 3) := by decide +kernel
theorem dX11_yard_8 : decode cX11_yard 8 = .ok (.iconst (-1), 1) := by decide +kernel
theorem dX11_yard_9 : decode cX11_yard 9 = .ok (.ireturn, 1) := by decide +kernel
theorem dX11_yard_10 : decode cX11_yard 10 = .ok (.aload_n 0, 1) := by decide +kernel
theorem dX11_yard_11 : decode cX11_yard 11 = .ok (.getfield 39, 3) := by decide +kernel
theorem dX11_yard_14 : decode cX11_yard 14 = .ok (.getfield 140, 3) := by decide +kernel
theorem dX11_yard_17 : decode cX11_yard 17 = .ok (.iload_n 1, 1) := by decide +kernel
theorem dX11_yard_18 : decode cX11_yard 18 = .ok (.aaload, 1) := by decide +kernel
theorem dX11_yard_19 : decode cX11_yard 19 = .ok (.astore_n 3, 1) := by decide +kernel
theorem dX11_yard_20 : decode cX11_yard 20 = .ok (.aload_n 0, 1) := by decide +kernel
theorem dX11_yard_21 : decode cX11_yard 21 = .ok (.getfield 20, 3) := by decide +kernel
theorem dX11_yard_24 : decode cX11_yard 24 = .ok (.getfield 144, 3) := by decide +kernel
theorem dX11_yard_27 : decode cX11_yard 27 = .ok (.iload_n 1, 1) := by decide +kernel
theorem dX11_yard_28 : decode cX11_yard 28 = .ok (.aaload, 1) := by decide +kernel
theorem dX11_yard_29 : decode cX11_yard 29 = .ok (.astore 4, 2) := by decide +kernel
theorem dX11_yard_31 : decode cX11_yard 31 = .ok (.iload_n 2, 1) := by decide +kernel
theorem dX11_yard_32 : decode cX11_yard 32 = .ok (.tableswitch 98 0 6 #[44, 49, 54, 59, 64, 77, 92], 44) := by decide +kernel
theorem dX11_yard_76 : decode cX11_yard 76 = .ok (.aload_n 3, 1) := by decide +kernel
theorem dX11_yard_77 : decode cX11_yard 77 = .ok (.getfield 148, 3) := by decide +kernel
theorem dX11_yard_80 : decode cX11_yard 80 = .ok (.ireturn, 1) := by decide +kernel
theorem dX11_yard_81 : decode cX11_yard 81 = .ok (.aload_n 3, 1) := by decide +kernel
theorem dX11_yard_82 : decode cX11_yard 82 = .ok (.getfield 153, 3) := by decide +kernel
theorem dX11_yard_85 : decode cX11_yard 85 = .ok (.ireturn, 1) := by decide +kernel
theorem dX11_yard_86 : decode cX11_yard 86 = .ok (.aload_n 3, 1) := by decide +kernel
theorem dX11_yard_87 : decode cX11_yard 87 = .ok (.getfield 156, 3) := by decide +kernel
theorem dX11_yard_90 : decode cX11_yard 90 = .ok (.ireturn, 1) := by decide +kernel
theorem dX11_yard_91 : decode cX11_yard 91 = .ok (.aload_n 3, 1) := by decide +kernel
theorem dX11_yard_92 : decode cX11_yard 92 = .ok (.getfield 159, 3) := by decide +kernel
theorem dX11_yard_95 : decode cX11_yard 95 = .ok (.ireturn, 1) := by decide +kernel
theorem dX11_yard_96 : decode cX11_yard 96 = .ok (.aload_n 3, 1) := by decide +kernel
theorem dX11_yard_97 : decode cX11_yard 97 = .ok (.invokevirtual 162, 3) := by decide +kernel
theorem dX11_yard_100 : decode cX11_yard 100 = .ok (.ifCond .eq 7, 3) := by decide +kernel
theorem dX11_yard_103 : decode cX11_yard 103 = .ok (.iconst 1, 1) := by decide +kernel
theorem dX11_yard_104 : decode cX11_yard 104 = .ok (.goto 4, 3) := by decide +kernel
theorem dX11_yard_107 : decode cX11_yard 107 = .ok (.iconst 0, 1) := by decide +kernel
theorem dX11_yard_108 : decode cX11_yard 108 = .ok (.ireturn, 1) := by decide +kernel
theorem dX11_yard_109 : decode cX11_yard 109 = .ok (.aload_n 3, 1) := by decide +kernel
theorem dX11_yard_110 : decode cX11_yard 110 = .ok (.aload 4, 2) := by decide +kernel
theorem dX11_yard_112 : decode cX11_yard 112 = .ok (.invokevirtual 166, 3) := by decide +kernel
theorem dX11_yard_115 : decode cX11_yard 115 = .ok (.ifCond .eq 7, 3) := by decide +kernel
theorem dX11_yard_118 : decode cX11_yard 118 = .ok (.iconst 1, 1) := by decide +kernel
theorem dX11_yard_119 : decode cX11_yard 119 = .ok (.goto 4, 3) := by decide +kernel
theorem dX11_yard_122 : decode cX11_yard 122 = .ok (.iconst 0, 1) := by decide +kernel
theorem dX11_yard_123 : decode cX11_yard 123 = .ok (.ireturn, 1) := by decide +kernel
theorem dX11_yard_124 : decode cX11_yard 124 = .ok (.aload 4, 2) := by decide +kernel
theorem dX11_yard_126 : decode cX11_yard 126 = .ok (.getfield 170, 3) := by decide +kernel
theorem dX11_yard_129 : decode cX11_yard 129 = .ok (.ireturn, 1) := by decide +kernel
theorem dX11_yard_130 : decode cX11_yard 130 = .ok (.iconst (-1), 1) := by decide +kernel
theorem dX11_yard_131 : decode cX11_yard 131 = .ok (.ireturn, 1) := by decide +kernel
theorem dX11_warm_0 : decode cX11_warm 0 = .ok (.aload_n 0, 1) := by decide +kernel
theorem dX11_warm_1 : decode cX11_warm 1 = .ok (.iload_n 1, 1) := by decide +kernel
theorem dX11_warm_2 : decode cX11_warm 2 = .ok (.iload_n 2, 1) := by decide +kernel
theorem dX11_warm_3 : decode cX11_warm 3 = .ok (.invokevirtual 175, 3) := by decide +kernel
theorem dX11_warm_6 : decode cX11_warm 6 = .ok (.ifCond .eq 20, 3) := by decide +kernel
theorem dX11_warm_9 : decode cX11_warm 9 = .ok (.aload_n 0, 1) := by decide +kernel
theorem dX11_warm_10 : decode cX11_warm 10 = .ok (.getfield 39, 3) := by decide +kernel
theorem dX11_warm_13 : decode cX11_warm 13 = .ok (.getfield 140, 3) := by decide +kernel
theorem dX11_warm_16 : decode cX11_warm 16 = .ok (.iload_n 1, 1) := by decide +kernel
theorem dX11_warm_17 : decode cX11_warm 17 = .ok (.aaload, 1) := by decide +kernel
theorem dX11_warm_18 : decode cX11_warm 18 = .ok (.getfield 179, 3) := by decide +kernel
theorem dX11_warm_21 : decode cX11_warm 21 = .ok (.iload_n 2, 1) := by decide +kernel
theorem dX11_warm_22 : decode cX11_warm 22 = .ok (.iaload, 1) := by decide +kernel
theorem dX11_warm_23 : decode cX11_warm 23 = .ok (.goto 5, 3) := by decide +kernel
theorem dX11_warm_26 : decode cX11_warm 26 = .ok (.ldc 126, 2) := by decide +kernel
theorem dX11_warm_28 : decode cX11_warm 28 = .ok (.ireturn, 1) := by decide +kernel
theorem dX11_when_0 : decode cX11_when 0 = .ok (.aload_n 0, 1) := by decide +kernel
theorem dX11_when_1 : decode cX11_when 1 = .ok (.iload_n 1, 1) := by decide +kernel
theorem dX11_when_2 : decode cX11_when 2 = .ok (.invokevirtual 130, 3) := by decide +kernel
theorem dX11_when_5 : decode cX11_when 5 = .ok (.ifCond .eq 10, 3) := by decide +kernel
theorem dX11_when_8 : decode cX11_when 8 = .ok (.iload_n 2, 1) := by decide +kernel
theorem dX11_when_9 : decode cX11_when 9 = .ok (.invokestatic 122, 3) := by decide +kernel
theorem dX11_when_12 : decode cX11_when 12 = .ok (.ifCond .ne 5, 3) := by decide +kernel
theorem dX11_when_15 : decode cX11_when 15 = .ok (.iconst (-1), 1) := by decide +kernel
theorem dX11_when_16 : decode cX11_when 16 = .ok (.ireturn, 1) := by decide +kernel
theorem dX11_when_17 : decode cX11_when 17 = .ok (.aload_n 0, 1) := by decide +kernel
theorem dX11_when_18 : decode cX11_when 18 = .ok (.getfield 46, 3) := by decide +kernel
theorem dX11_when_21 : decode cX11_when 21 = .ok (.aload_n 0, 1) := by decide +kernel
theorem dX11_when_22 : decode cX11_when 22 = .ok (.getfield 39, 3) := by decide +kernel
theorem dX11_when_25 : decode cX11_when 25 = .ok (.iload_n 1, 1) := by decide +kernel
theorem dX11_when_26 : decode cX11_when 26 = .ok (.iload_n 2, 1) := by decide +kernel
theorem dX11_when_27 : decode cX11_when 27 = .ok (.iconst 0, 1) := by decide +kernel
theorem dX11_when_28 : decode cX11_when 28 = .ok (.iconst 0, 1) := by decide +kernel
theorem dX11_when_29 : decode cX11_when 29 = .ok (.invokevirtual 183, 3) := by decide +kernel
theorem dX11_when_32 : decode cX11_when 32 = .ok (.ireturn, 1) := by decide +kernel
theorem dX11_deep_0 : decode cX11_deep 0 = .ok (.aload_n 0, 1) := by decide +kernel
theorem dX11_deep_1 : decode cX11_deep 1 = .ok (.iload_n 1, 1) := by decide +kernel
theorem dX11_deep_2 : decode cX11_deep 2 = .ok (.invokevirtual 130, 3) := by decide +kernel
theorem dX11_deep_5 : decode cX11_deep 5 = .ok (.ifCond .eq 20, 3) := by decide +kernel
theorem dX11_deep_8 : decode cX11_deep 8 = .ok (.iload_n 2, 1) := by decide +kernel
theorem dX11_deep_9 : decode cX11_deep 9 = .ok (.invokestatic 122, 3) := by decide +kernel
theorem dX11_deep_12 : decode cX11_deep 12 = .ok (.ifCond .eq 13, 3) := by decide +kernel
theorem dX11_deep_15 : decode cX11_deep 15 = .ok (.iload_n 3, 1) := by decide +kernel
theorem dX11_deep_16 : decode cX11_deep 16 = .ok (.ifCond .lt 9, 3) := by decide +kernel
theorem dX11_deep_19 : decode cX11_deep 19 = .ok (.iload_n 3, 1) := by decide +kernel
theorem dX11_deep_20 : decode cX11_deep 20 = .ok (.bipush 72, 2) := by decide +kernel
theorem dX11_deep_22 : decode cX11_deep 22 = .ok (.if_icmp .le 5, 3) := by decide +kernel
theorem dX11_deep_25 : decode cX11_deep 25 = .ok (.iconst (-1), 1) := by decide +kernel
theorem dX11_deep_26 : decode cX11_deep 26 = .ok (.ireturn, 1) := by decide +kernel
theorem dX11_deep_27 : decode cX11_deep 27 = .ok (.aload_n 0, 1) := by decide +kernel
theorem dX11_deep_28 : decode cX11_deep 28 = .ok (.getfield 46, 3) := by decide +kernel
theorem dX11_deep_31 : decode cX11_deep 31 = .ok (.aload_n 0, 1) := by decide +kernel
theorem dX11_deep_32 : decode cX11_deep 32 = .ok (.getfield 39, 3) := by decide +kernel
theorem dX11_deep_35 : decode cX11_deep 35 = .ok (.iload_n 1, 1) := by decide +kernel
theorem dX11_deep_36 : decode cX11_deep 36 = .ok (.iload_n 2, 1) := by decide +kernel
theorem dX11_deep_37 : decode cX11_deep 37 = .ok (.iload_n 3, 1) := by decide +kernel
theorem dX11_deep_38 : decode cX11_deep 38 = .ok (.invokevirtual 187, 3) := by decide +kernel
theorem dX11_deep_41 : decode cX11_deep 41 = .ok (.ireturn, 1) := by decide +kernel
theorem dX11_least_0 : decode cX11_least 0 = .ok (.aload_n 0, 1) := by decide +kernel
theorem dX11_least_1 : decode cX11_least 1 = .ok (.iload_n 1, 1) := by decide +kernel
theorem dX11_least_2 : decode cX11_least 2 = .ok (.invokevirtual 130, 3) := by decide +kernel
theorem dX11_least_5 : decode cX11_least 5 = .ok (.ifCond .eq 10, 3) := by decide +kernel
theorem dX11_least_8 : decode cX11_least 8 = .ok (.iload_n 2, 1) := by decide +kernel
theorem dX11_least_9 : decode cX11_least 9 = .ok (.invokestatic 122, 3) := by decide +kernel
theorem dX11_least_12 : decode cX11_least 12 = .ok (.ifCond .ne 5, 3) := by decide +kernel
theorem dX11_least_15 : decode cX11_least 15 = .ok (.iconst (-1), 1) := by decide +kernel
theorem dX11_least_16 : decode cX11_least 16 = .ok (.ireturn, 1) := by decide +kernel
theorem dX11_least_17 : decode cX11_least 17 = .ok (.iconst 0, 1) := by decide +kernel
theorem dX11_least_18 : decode cX11_least 18 = .ok (.istore_n 3, 1) := by decide +kernel
theorem dX11_least_19 : decode cX11_least 19 = .ok (.iload_n 3, 1) := by decide +kernel
theorem dX11_least_20 : decode cX11_least 20 = .ok (.bipush 99, 2) := by decide +kernel
theorem dX11_least_22 : decode cX11_least 22 = .ok (.if_icmp .gt 30, 3) := by decide +kernel
theorem dX11_least_25 : decode cX11_least 25 = .ok (.aload_n 0, 1) := by decide +kernel
theorem dX11_least_26 : decode cX11_least 26 = .ok (.getfield 46, 3) := by decide +kernel
theorem dX11_least_29 : decode cX11_least 29 = .ok (.aload_n 0, 1) := by decide +kernel
theorem dX11_least_30 : decode cX11_least 30 = .ok (.getfield 39, 3) := by decide +kernel
theorem dX11_least_33 : decode cX11_least 33 = .ok (.iload_n 1, 1) := by decide +kernel
theorem dX11_least_34 : decode cX11_least 34 = .ok (.iload_n 2, 1) := by decide +kernel
theorem dX11_least_35 : decode cX11_least 35 = .ok (.iload_n 3, 1) := by decide +kernel
theorem dX11_least_36 : decode cX11_least 36 = .ok (.iconst 0, 1) := by decide +kernel
theorem dX11_least_37 : decode cX11_least 37 = .ok (.invokevirtual 183, 3) := by decide +kernel
theorem dX11_least_40 : decode cX11_least 40 = .ok (.iconst (-1), 1) := by decide +kernel
theorem dX11_least_41 : decode cX11_least 41 = .ok (.if_icmp .ne 5, 3) := by decide +kernel
theorem dX11_least_44 : decode cX11_least 44 = .ok (.iload_n 3, 1) := by decide +kernel
theorem dX11_least_45 : decode cX11_least 45 = .ok (.ireturn, 1) := by decide +kernel
theorem dX11_least_46 : decode cX11_least 46 = .ok (.iinc 3 1, 3) := by decide +kernel
theorem dX11_least_49 : decode cX11_least 49 = .ok (.goto (-30), 3) := by decide +kernel
theorem dX11_least_52 : decode cX11_least 52 = .ok (.iconst (-1), 1) := by decide +kernel
theorem dX11_least_53 : decode cX11_least 53 = .ok (.ireturn, 1) := by decide +kernel
theorem dX11_latest_0 : decode cX11_latest 0 = .ok (.aload_n 0, 1) := by decide +kernel
theorem dX11_latest_1 : decode cX11_latest 1 = .ok (.iload_n 1, 1) := by decide +kernel
theorem dX11_latest_2 : decode cX11_latest 2 = .ok (.invokevirtual 130, 3) := by decide +kernel
theorem dX11_latest_5 : decode cX11_latest 5 = .ok (.ifCond .eq 17, 3) := by decide +kernel
theorem dX11_latest_8 : decode cX11_latest 8 = .ok (.iload_n 2, 1) := by decide +kernel
theorem dX11_latest_9 : decode cX11_latest 9 = .ok (.invokestatic 122, 3) := by decide +kernel
theorem dX11_latest_12 : decode cX11_latest 12 = .ok (.ifCond .eq 10, 3) := by decide +kernel
theorem dX11_latest_15 : decode cX11_latest 15 = .ok (.iload_n 3, 1) := by decide +kernel
theorem dX11_latest_16 : decode cX11_latest 16 = .ok (.invokestatic 191, 3) := by decide +kernel
theorem dX11_latest_19 : decode cX11_latest 19 = .ok (.ifCond .ne 5, 3) := by decide +kernel
theorem dX11_latest_22 : decode cX11_latest 22 = .ok (.iconst (-1), 1) := by decide +kernel
theorem dX11_latest_23 : decode cX11_latest 23 = .ok (.ireturn, 1) := by decide +kernel
theorem dX11_latest_24 : decode cX11_latest 24 = .ok (.aload_n 0, 1) := by decide +kernel
theorem dX11_latest_25 : decode cX11_latest 25 = .ok (.getfield 46, 3) := by decide +kernel
theorem dX11_latest_28 : decode cX11_latest 28 = .ok (.aload_n 0, 1) := by decide +kernel
theorem dX11_latest_29 : decode cX11_latest 29 = .ok (.getfield 39, 3) := by decide +kernel
theorem dX11_latest_32 : decode cX11_latest 32 = .ok (.iload_n 1, 1) := by decide +kernel
theorem dX11_latest_33 : decode cX11_latest 33 = .ok (.iload_n 2, 1) := by decide +kernel
theorem dX11_latest_34 : decode cX11_latest 34 = .ok (.invokevirtual 194, 3) := by decide +kernel
theorem dX11_latest_37 : decode cX11_latest 37 = .ok (.istore 4, 2) := by decide +kernel
theorem dX11_latest_39 : decode cX11_latest 39 = .ok (.iload 4, 2) := by decide +kernel
theorem dX11_latest_41 : decode cX11_latest 41 = .ok (.ifCond .lt 32, 3) := by decide +kernel
theorem dX11_latest_44 : decode cX11_latest 44 = .ok (.aload_n 0, 1) := by decide +kernel
theorem dX11_latest_45 : decode cX11_latest 45 = .ok (.getfield 46, 3) := by decide +kernel
theorem dX11_latest_48 : decode cX11_latest 48 = .ok (.aload_n 0, 1) := by decide +kernel
theorem dX11_latest_49 : decode cX11_latest 49 = .ok (.getfield 39, 3) := by decide +kernel
theorem dX11_latest_52 : decode cX11_latest 52 = .ok (.iload_n 1, 1) := by decide +kernel
theorem dX11_latest_53 : decode cX11_latest 53 = .ok (.iload_n 2, 1) := by decide +kernel
theorem dX11_latest_54 : decode cX11_latest 54 = .ok (.iload_n 3, 1) := by decide +kernel
theorem dX11_latest_55 : decode cX11_latest 55 = .ok (.iload 4, 2) := by decide +kernel
theorem dX11_latest_57 : decode cX11_latest 57 = .ok (.invokevirtual 183, 3) := by decide +kernel
theorem dX11_latest_60 : decode cX11_latest 60 = .ok (.iconst (-1), 1) := by decide +kernel
theorem dX11_latest_61 : decode cX11_latest 61 = .ok (.if_icmp .ne 6, 3) := by decide +kernel
theorem dX11_latest_64 : decode cX11_latest 64 = .ok (.iload 4, 2) := by decide +kernel
theorem dX11_latest_66 : decode cX11_latest 66 = .ok (.ireturn, 1) := by decide +kernel
theorem dX11_latest_67 : decode cX11_latest 67 = .ok (.iinc 4 (-1), 3) := by decide +kernel
theorem dX11_latest_70 : decode cX11_latest 70 = .ok (.goto (-31), 3) := by decide +kernel
theorem dX11_latest_73 : decode cX11_latest 73 = .ok (.iconst (-1), 1) := by decide +kernel
theorem dX11_latest_74 : decode cX11_latest 74 = .ok (.ireturn, 1) := by decide +kernel
theorem dX11_odds_0 : decode cX11_odds 0 = .ok (.aload_n 0, 1) := by decide +kernel
theorem dX11_odds_1 : decode cX11_odds 1 = .ok (.getfield 74, 3) := by decide +kernel
theorem dX11_odds_4 : decode cX11_odds 4 = .ok (.iload_n 3, 1) := by decide +kernel
theorem dX11_odds_5 : decode cX11_odds 5 = .ok (.aload_n 0, 1) := by decide +kernel
theorem dX11_odds_6 : decode cX11_odds 6 = .ok (.getfield 20, 3) := by decide +kernel
theorem dX11_odds_9 : decode cX11_odds 9 = .ok (.invokevirtual 198, 3) := by decide +kernel
theorem dX11_odds_12 : decode cX11_odds 12 = .ok (.istore 4, 2) := by decide +kernel
theorem dX11_odds_14 : decode cX11_odds 14 = .ok (.aload_n 0, 1) := by decide +kernel
theorem dX11_odds_15 : decode cX11_odds 15 = .ok (.iload_n 1, 1) := by decide +kernel
theorem dX11_odds_16 : decode cX11_odds 16 = .ok (.invokevirtual 130, 3) := by decide +kernel
theorem dX11_odds_19 : decode cX11_odds 19 = .ok (.ifCond .eq 17, 3) := by decide +kernel
theorem dX11_odds_22 : decode cX11_odds 22 = .ok (.iload_n 2, 1) := by decide +kernel
theorem dX11_odds_23 : decode cX11_odds 23 = .ok (.ifCond .lt 13, 3) := by decide +kernel
theorem dX11_odds_26 : decode cX11_odds 26 = .ok (.iload_n 2, 1) := by decide +kernel
theorem dX11_odds_27 : decode cX11_odds 27 = .ok (.iconst 1, 1) := by decide +kernel
theorem dX11_odds_28 : decode cX11_odds 28 = .ok (.if_icmp .gt 8, 3) := by decide +kernel
theorem dX11_odds_31 : decode cX11_odds 31 = .ok (.iload 4, 2) := by decide +kernel
theorem dX11_odds_33 : decode cX11_odds 33 = .ok (.ifCond .ne 5, 3) := by decide +kernel
theorem dX11_odds_36 : decode cX11_odds 36 = .ok (.iconst (-1), 1) := by decide +kernel
theorem dX11_odds_37 : decode cX11_odds 37 = .ok (.ireturn, 1) := by decide +kernel
theorem dX11_odds_38 : decode cX11_odds 38 = .ok (.iconst 0, 1) := by decide +kernel
theorem dX11_odds_39 : decode cX11_odds 39 = .ok (.istore 5, 2) := by decide +kernel
theorem dX11_odds_41 : decode cX11_odds 41 = .ok (.iconst 0, 1) := by decide +kernel
theorem dX11_odds_42 : decode cX11_odds 42 = .ok (.istore 6, 2) := by decide +kernel
theorem dX11_odds_44 : decode cX11_odds 44 = .ok (.iload 6, 2) := by decide +kernel
theorem dX11_odds_46 : decode cX11_odds 46 = .ok (.aload_n 0, 1) := by decide +kernel
theorem dX11_odds_47 : decode cX11_odds 47 = .ok (.getfield 20, 3) := by decide +kernel
theorem dX11_odds_50 : decode cX11_odds 50 = .ok (.getfield 202, 3) := by decide +kernel
theorem dX11_odds_53 : decode cX11_odds 53 = .ok (.if_icmp .ge 62, 3) := by decide +kernel
theorem dX11_odds_56 : decode cX11_odds 56 = .ok (.iload 4, 2) := by decide +kernel
theorem dX11_odds_58 : decode cX11_odds 58 = .ok (.iload 6, 2) := by decide +kernel
theorem dX11_odds_60 : decode cX11_odds 60 = .ok (.ishr, 1) := by decide +kernel
theorem dX11_odds_61 : decode cX11_odds 61 = .ok (.iconst 1, 1) := by decide +kernel
theorem dX11_odds_62 : decode cX11_odds 62 = .ok (.iand, 1) := by decide +kernel
theorem dX11_odds_63 : decode cX11_odds 63 = .ok (.ifCond .eq 46, 3) := by decide +kernel
theorem dX11_odds_66 : decode cX11_odds 66 = .ok (.aload_n 0, 1) := by decide +kernel
theorem dX11_odds_67 : decode cX11_odds 67 = .ok (.getfield 46, 3) := by decide +kernel
theorem dX11_odds_70 : decode cX11_odds 70 = .ok (.aload_n 0, 1) := by decide +kernel
theorem dX11_odds_71 : decode cX11_odds 71 = .ok (.getfield 39, 3) := by decide +kernel
theorem dX11_odds_74 : decode cX11_odds 74 = .ok (.iload_n 1, 1) := by decide +kernel
theorem dX11_odds_75 : decode cX11_odds 75 = .ok (.aload_n 0, 1) := by decide +kernel
theorem dX11_odds_76 : decode cX11_odds 76 = .ok (.getfield 20, 3) := by decide +kernel
theorem dX11_odds_79 : decode cX11_odds 79 = .ok (.getfield 205, 3) := by decide +kernel
theorem dX11_odds_82 : decode cX11_odds 82 = .ok (.iload 6, 2) := by decide +kernel
theorem dX11_odds_84 : decode cX11_odds 84 = .ok (.iaload, 1) := by decide +kernel
theorem dX11_odds_85 : decode cX11_odds 85 = .ok (.iconst 0, 1) := by decide +kernel
theorem dX11_odds_86 : decode cX11_odds 86 = .ok (.iconst 0, 1) := by decide +kernel
theorem dX11_odds_87 : decode cX11_odds 87 = .ok (.invokevirtual 183, 3) := by decide +kernel
theorem dX11_odds_90 : decode cX11_odds 90 = .ok (.iconst (-1), 1) := by decide +kernel
theorem dX11_odds_91 : decode cX11_odds 91 = .ok (.if_icmp .eq 18, 3) := by decide +kernel
theorem dX11_odds_94 : decode cX11_odds 94 = .ok (.iload 5, 2) := by decide +kernel
theorem dX11_odds_96 : decode cX11_odds 96 = .ok (.aload_n 0, 1) := by decide +kernel
theorem dX11_odds_97 : decode cX11_odds 97 = .ok (.getfield 20, 3) := by decide +kernel
theorem dX11_odds_100 : decode cX11_odds 100 = .ok (.getfield 208, 3) := by decide +kernel
theorem dX11_odds_103 : decode cX11_odds 103 = .ok (.iload 6, 2) := by decide +kernel
theorem dX11_odds_105 : decode cX11_odds 105 = .ok (.iaload, 1) := by decide +kernel
theorem dX11_odds_106 : decode cX11_odds 106 = .ok (.iadd, 1) := by decide +kernel
theorem dX11_odds_107 : decode cX11_odds 107 = .ok (.istore 5, 2) := by decide +kernel
theorem dX11_odds_109 : decode cX11_odds 109 = .ok (.iinc 6 1, 3) := by decide +kernel
theorem dX11_odds_112 : decode cX11_odds 112 = .ok (.goto (-68), 3) := by decide +kernel
theorem dX11_odds_115 : decode cX11_odds 115 = .ok (.iload 5, 2) := by decide +kernel
theorem dX11_odds_117 : decode cX11_odds 117 = .ok (.aload_n 0, 1) := by decide +kernel
theorem dX11_odds_118 : decode cX11_odds 118 = .ok (.getfield 20, 3) := by decide +kernel
theorem dX11_odds_121 : decode cX11_odds 121 = .ok (.iload 4, 2) := by decide +kernel
theorem dX11_odds_123 : decode cX11_odds 123 = .ok (.invokevirtual 211, 3) := by decide +kernel
theorem dX11_odds_126 : decode cX11_odds 126 = .ok (.iload_n 2, 1) := by decide +kernel
theorem dX11_odds_127 : decode cX11_odds 127 = .ok (.invokestatic 215, 3) := by decide +kernel
theorem dX11_odds_130 : decode cX11_odds 130 = .ok (.ireturn, 1) := by decide +kernel
theorem dX11_plan_0 : decode cX11_plan 0 = .ok (.aload_n 0, 1) := by decide +kernel
theorem dX11_plan_1 : decode cX11_plan 1 = .ok (.getfield 74, 3) := by decide +kernel
theorem dX11_plan_4 : decode cX11_plan 4 = .ok (.iload 4, 2) := by decide +kernel
theorem dX11_plan_6 : decode cX11_plan 6 = .ok (.aload_n 0, 1) := by decide +kernel
theorem dX11_plan_7 : decode cX11_plan 7 = .ok (.getfield 20, 3) := by decide +kernel
theorem dX11_plan_10 : decode cX11_plan 10 = .ok (.invokevirtual 198, 3) := by decide +kernel
theorem dX11_plan_13 : decode cX11_plan 13 = .ok (.istore 5, 2) := by decide +kernel
theorem dX11_plan_15 : decode cX11_plan 15 = .ok (.aload_n 0, 1) := by decide +kernel
theorem dX11_plan_16 : decode cX11_plan 16 = .ok (.iload_n 1, 1) := by decide +kernel
theorem dX11_plan_17 : decode cX11_plan 17 = .ok (.invokevirtual 219, 3) := by decide +kernel
theorem dX11_plan_20 : decode cX11_plan 20 = .ok (.ifCond .eq 24, 3) := by decide +kernel
theorem dX11_plan_23 : decode cX11_plan 23 = .ok (.iload_n 2, 1) := by decide +kernel
theorem dX11_plan_24 : decode cX11_plan 24 = .ok (.invokestatic 191, 3) := by decide +kernel
theorem dX11_plan_27 : decode cX11_plan 27 = .ok (.ifCond .eq 17, 3) := by decide +kernel
theorem dX11_plan_30 : decode cX11_plan 30 = .ok (.iload_n 3, 1) := by decide +kernel
theorem dX11_plan_31 : decode cX11_plan 31 = .ok (.ifCond .lt 13, 3) := by decide +kernel
theorem dX11_plan_34 : decode cX11_plan 34 = .ok (.iload_n 3, 1) := by decide +kernel
theorem dX11_plan_35 : decode cX11_plan 35 = .ok (.iconst 2, 1) := by decide +kernel
theorem dX11_plan_36 : decode cX11_plan 36 = .ok (.if_icmp .gt 8, 3) := by decide +kernel
theorem dX11_plan_39 : decode cX11_plan 39 = .ok (.iload 5, 2) := by decide +kernel
theorem dX11_plan_41 : decode cX11_plan 41 = .ok (.ifCond .ne 6, 3) := by decide +kernel
theorem dX11_plan_44 : decode cX11_plan 44 = .ok (.ldc 126, 2) := by decide +kernel
theorem dX11_plan_46 : decode cX11_plan 46 = .ok (.ireturn, 1) := by decide +kernel
theorem dX11_plan_47 : decode cX11_plan 47 = .ok (.aload_n 0, 1) := by decide +kernel
theorem dX11_plan_48 : decode cX11_plan 48 = .ok (.getfield 53, 3) := by decide +kernel
theorem dX11_plan_51 : decode cX11_plan 51 = .ok (.aload_n 0, 1) := by decide +kernel
theorem dX11_plan_52 : decode cX11_plan 52 = .ok (.getfield 39, 3) := by decide +kernel
theorem dX11_plan_55 : decode cX11_plan 55 = .ok (.aload_n 0, 1) := by decide +kernel
theorem dX11_plan_56 : decode cX11_plan 56 = .ok (.getfield 46, 3) := by decide +kernel
theorem dX11_plan_59 : decode cX11_plan 59 = .ok (.iload_n 1, 1) := by decide +kernel
theorem dX11_plan_60 : decode cX11_plan 60 = .ok (.iload_n 2, 1) := by decide +kernel
theorem dX11_plan_61 : decode cX11_plan 61 = .ok (.iload 5, 2) := by decide +kernel
theorem dX11_plan_63 : decode cX11_plan 63 = .ok (.invokevirtual 222, 3) := by decide +kernel
theorem dX11_plan_66 : decode cX11_plan 66 = .ok (.iload_n 3, 1) := by decide +kernel
theorem dX11_plan_67 : decode cX11_plan 67 = .ok (.ifCond .ne 11, 3) := by decide +kernel
theorem dX11_plan_70 : decode cX11_plan 70 = .ok (.aload_n 0, 1) := by decide +kernel
theorem dX11_plan_71 : decode cX11_plan 71 = .ok (.getfield 53, 3) := by decide +kernel
theorem dX11_plan_74 : decode cX11_plan 74 = .ok (.getfield 226, 3) := by decide +kernel
theorem dX11_plan_77 : decode cX11_plan 77 = .ok (.ireturn, 1) := by decide +kernel
theorem dX11_plan_78 : decode cX11_plan 78 = .ok (.aload_n 0, 1) := by decide +kernel
theorem dX11_plan_79 : decode cX11_plan 79 = .ok (.getfield 53, 3) := by decide +kernel
theorem dX11_plan_82 : decode cX11_plan 82 = .ok (.getfield 229, 3) := by decide +kernel
theorem dX11_plan_85 : decode cX11_plan 85 = .ok (.aload_n 0, 1) := by decide +kernel
theorem dX11_plan_86 : decode cX11_plan 86 = .ok (.getfield 20, 3) := by decide +kernel
theorem dX11_plan_89 : decode cX11_plan 89 = .ok (.iload 5, 2) := by decide +kernel
theorem dX11_plan_91 : decode cX11_plan 91 = .ok (.invokevirtual 211, 3) := by decide +kernel
theorem dX11_plan_94 : decode cX11_plan 94 = .ok (.iload_n 3, 1) := by decide +kernel
theorem dX11_plan_95 : decode cX11_plan 95 = .ok (.iconst 1, 1) := by decide +kernel
theorem dX11_plan_96 : decode cX11_plan 96 = .ok (.isub, 1) := by decide +kernel
theorem dX11_plan_97 : decode cX11_plan 97 = .ok (.invokestatic 215, 3) := by decide +kernel
theorem dX11_plan_100 : decode cX11_plan 100 = .ok (.ireturn, 1) := by decide +kernel
theorem dX11_round_0 : decode cX11_round 0 = .ok (.aload_n 0, 1) := by decide +kernel
theorem dX11_round_1 : decode cX11_round 1 = .ok (.getfield 60, 3) := by decide +kernel
theorem dX11_round_4 : decode cX11_round 4 = .ok (.invokevirtual 104, 3) := by decide +kernel
theorem dX11_round_7 : decode cX11_round 7 = .ok (.aload_n 0, 1) := by decide +kernel
theorem dX11_round_8 : decode cX11_round 8 = .ok (.iload_n 1, 1) := by decide +kernel
theorem dX11_round_9 : decode cX11_round 9 = .ok (.invokevirtual 219, 3) := by decide +kernel
theorem dX11_round_12 : decode cX11_round 12 = .ok (.ifCond .eq 19, 3) := by decide +kernel
theorem dX11_round_15 : decode cX11_round 15 = .ok (.iload_n 2, 1) := by decide +kernel
theorem dX11_round_16 : decode cX11_round 16 = .ok (.invokestatic 191, 3) := by decide +kernel
theorem dX11_round_19 : decode cX11_round 19 = .ok (.ifCond .eq 12, 3) := by decide +kernel
theorem dX11_round_22 : decode cX11_round 22 = .ok (.iload_n 3, 1) := by decide +kernel
theorem dX11_round_23 : decode cX11_round 23 = .ok (.ifCond .lt 8, 3) := by decide +kernel
theorem dX11_round_26 : decode cX11_round 26 = .ok (.iload_n 3, 1) := by decide +kernel
theorem dX11_round_27 : decode cX11_round 27 = .ok (.iconst 1, 1) := by decide +kernel
theorem dX11_round_28 : decode cX11_round 28 = .ok (.if_icmp .le 5, 3) := by decide +kernel
theorem dX11_round_31 : decode cX11_round 31 = .ok (.iconst (-1), 1) := by decide +kernel
theorem dX11_round_32 : decode cX11_round 32 = .ok (.ireturn, 1) := by decide +kernel
theorem dX11_round_33 : decode cX11_round 33 = .ok (.aload_n 0, 1) := by decide +kernel
theorem dX11_round_34 : decode cX11_round 34 = .ok (.getfield 60, 3) := by decide +kernel
theorem dX11_round_37 : decode cX11_round 37 = .ok (.aload_n 0, 1) := by decide +kernel
theorem dX11_round_38 : decode cX11_round 38 = .ok (.getfield 39, 3) := by decide +kernel
theorem dX11_round_41 : decode cX11_round 41 = .ok (.aload_n 0, 1) := by decide +kernel
theorem dX11_round_42 : decode cX11_round 42 = .ok (.getfield 46, 3) := by decide +kernel
theorem dX11_round_45 : decode cX11_round 45 = .ok (.iload_n 1, 1) := by decide +kernel
theorem dX11_round_46 : decode cX11_round 46 = .ok (.iload_n 2, 1) := by decide +kernel
theorem dX11_round_47 : decode cX11_round 47 = .ok (.invokevirtual 232, 3) := by decide +kernel
theorem dX11_round_50 : decode cX11_round 50 = .ok (.ifCond .ne 5, 3) := by decide +kernel
theorem dX11_round_53 : decode cX11_round 53 = .ok (.iconst (-1), 1) := by decide +kernel
theorem dX11_round_54 : decode cX11_round 54 = .ok (.ireturn, 1) := by decide +kernel
theorem dX11_round_55 : decode cX11_round 55 = .ok (.iload_n 3, 1) := by decide +kernel
theorem dX11_round_56 : decode cX11_round 56 = .ok (.ifCond .ne 13, 3) := by decide +kernel
theorem dX11_round_59 : decode cX11_round 59 = .ok (.aload_n 0, 1) := by decide +kernel
theorem dX11_round_60 : decode cX11_round 60 = .ok (.getfield 60, 3) := by decide +kernel
theorem dX11_round_63 : decode cX11_round 63 = .ok (.getfield 236, 3) := by decide +kernel
theorem dX11_round_66 : decode cX11_round 66 = .ok (.goto 10, 3) := by decide +kernel
theorem dX11_round_69 : decode cX11_round 69 = .ok (.aload_n 0, 1) := by decide +kernel
theorem dX11_round_70 : decode cX11_round 70 = .ok (.getfield 60, 3) := by decide +kernel
theorem dX11_round_73 : decode cX11_round 73 = .ok (.getfield 239, 3) := by decide +kernel
theorem dX11_round_76 : decode cX11_round 76 = .ok (.ireturn, 1) := by decide +kernel
theorem dX11_lies_0 : decode cX11_lies 0 = .ok (.iload_n 1, 1) := by decide +kernel
theorem dX11_lies_1 : decode cX11_lies 1 = .ok (.ifCond .lt 14, 3) := by decide +kernel
theorem dX11_lies_4 : decode cX11_lies 4 = .ok (.iload_n 1, 1) := by decide +kernel
theorem dX11_lies_5 : decode cX11_lies 5 = .ok (.aload_n 0, 1) := by decide +kernel
theorem dX11_lies_6 : decode cX11_lies 6 = .ok (.getfield 60, 3) := by decide +kernel
theorem dX11_lies_9 : decode cX11_lies 9 = .ok (.getfield 242, 3) := by decide +kernel
theorem dX11_lies_12 : decode cX11_lies 12 = .ok (.if_icmp .lt 7, 3) := by decide +kernel
theorem dX11_lies_15 : decode cX11_lies 15 = .ok (.iconst (-1), 1) := by decide +kernel
theorem dX11_lies_16 : decode cX11_lies 16 = .ok (.goto 12, 3) := by decide +kernel
theorem dX11_lies_19 : decode cX11_lies 19 = .ok (.aload_n 0, 1) := by decide +kernel
theorem dX11_lies_20 : decode cX11_lies 20 = .ok (.getfield 60, 3) := by decide +kernel
theorem dX11_lies_23 : decode cX11_lies 23 = .ok (.getfield 245, 3) := by decide +kernel
theorem dX11_lies_26 : decode cX11_lies 26 = .ok (.iload_n 1, 1) := by decide +kernel
theorem dX11_lies_27 : decode cX11_lies 27 = .ok (.iaload, 1) := by decide +kernel
theorem dX11_lies_28 : decode cX11_lies 28 = .ok (.ireturn, 1) := by decide +kernel
theorem dX11_open_0 : decode cX11_open 0 = .ok (.aload_n 0, 1) := by decide +kernel
theorem dX11_open_1 : decode cX11_open 1 = .ok (.iload_n 1, 1) := by decide +kernel
theorem dX11_open_2 : decode cX11_open 2 = .ok (.invokevirtual 130, 3) := by decide +kernel
theorem dX11_open_5 : decode cX11_open 5 = .ok (.ifCond .eq 21, 3) := by decide +kernel
theorem dX11_open_8 : decode cX11_open 8 = .ok (.aload_n 0, 1) := by decide +kernel
theorem dX11_open_9 : decode cX11_open 9 = .ok (.iload_n 2, 1) := by decide +kernel
theorem dX11_open_10 : decode cX11_open 10 = .ok (.invokevirtual 130, 3) := by decide +kernel
theorem dX11_open_13 : decode cX11_open 13 = .ok (.ifCond .eq 13, 3) := by decide +kernel
theorem dX11_open_16 : decode cX11_open 16 = .ok (.iload_n 3, 1) := by decide +kernel
theorem dX11_open_17 : decode cX11_open 17 = .ok (.ifCond .lt 9, 3) := by decide +kernel
theorem dX11_open_20 : decode cX11_open 20 = .ok (.iload_n 3, 1) := by decide +kernel
theorem dX11_open_21 : decode cX11_open 21 = .ok (.bipush 72, 2) := by decide +kernel
theorem dX11_open_23 : decode cX11_open 23 = .ok (.if_icmp .lt 5, 3) := by decide +kernel
theorem dX11_open_26 : decode cX11_open 26 = .ok (.iconst (-1), 1) := by decide +kernel
theorem dX11_open_27 : decode cX11_open 27 = .ok (.ireturn, 1) := by decide +kernel
theorem dX11_open_28 : decode cX11_open 28 = .ok (.aload_n 0, 1) := by decide +kernel
theorem dX11_open_29 : decode cX11_open 29 = .ok (.getfield 67, 3) := by decide +kernel
theorem dX11_open_32 : decode cX11_open 32 = .ok (.aload_n 0, 1) := by decide +kernel
theorem dX11_open_33 : decode cX11_open 33 = .ok (.getfield 39, 3) := by decide +kernel
theorem dX11_open_36 : decode cX11_open 36 = .ok (.aload_n 0, 1) := by decide +kernel
theorem dX11_open_37 : decode cX11_open 37 = .ok (.getfield 46, 3) := by decide +kernel
theorem dX11_open_40 : decode cX11_open 40 = .ok (.invokevirtual 248, 3) := by decide +kernel
theorem dX11_open_43 : decode cX11_open 43 = .ok (.aload_n 0, 1) := by decide +kernel
theorem dX11_open_44 : decode cX11_open 44 = .ok (.getfield 67, 3) := by decide +kernel
theorem dX11_open_47 : decode cX11_open 47 = .ok (.aload_n 0, 1) := by decide +kernel
theorem dX11_open_48 : decode cX11_open 48 = .ok (.getfield 20, 3) := by decide +kernel
theorem dX11_open_51 : decode cX11_open 51 = .ok (.iload_n 1, 1) := by decide +kernel
theorem dX11_open_52 : decode cX11_open 52 = .ok (.iload_n 2, 1) := by decide +kernel
theorem dX11_open_53 : decode cX11_open 53 = .ok (.iload_n 3, 1) := by decide +kernel
theorem dX11_open_54 : decode cX11_open 54 = .ok (.invokevirtual 252, 3) := by decide +kernel
theorem dX11_open_57 : decode cX11_open 57 = .ok (.ireturn, 1) := by decide +kernel
theorem dX11_read_0 : decode cX11_read 0 = .ok (.aload_n 0, 1) := by decide +kernel
theorem dX11_read_1 : decode cX11_read 1 = .ok (.iload_n 1, 1) := by decide +kernel
theorem dX11_read_2 : decode cX11_read 2 = .ok (.iload_n 2, 1) := by decide +kernel
theorem dX11_read_3 : decode cX11_read 3 = .ok (.invokevirtual 175, 3) := by decide +kernel
theorem dX11_read_6 : decode cX11_read 6 = .ok (.ifCond .eq 25, 3) := by decide +kernel
theorem dX11_read_9 : decode cX11_read 9 = .ok (.iload_n 3, 1) := by decide +kernel
theorem dX11_read_10 : decode cX11_read 10 = .ok (.ifCond .lt 21, 3) := by decide +kernel
theorem dX11_read_13 : decode cX11_read 13 = .ok (.iload_n 3, 1) := by decide +kernel
theorem dX11_read_14 : decode cX11_read 14 = .ok (.bipush 72, 2) := by decide +kernel
theorem dX11_read_16 : decode cX11_read 16 = .ok (.if_icmp .gt 15, 3) := by decide +kernel
theorem dX11_read_19 : decode cX11_read 19 = .ok (.aload_n 0, 1) := by decide +kernel
theorem dX11_read_20 : decode cX11_read 20 = .ok (.getfield 74, 3) := by decide +kernel
theorem dX11_read_23 : decode cX11_read 23 = .ok (.getfield 255, 3) := by decide +kernel
theorem dX11_read_26 : decode cX11_read 26 = .ok (.bipush 30, 2) := by decide +kernel
theorem dX11_read_28 : decode cX11_read 28 = .ok (.if_icmp .lt 5, 3) := by decide +kernel
theorem dX11_read_31 : decode cX11_read 31 = .ok (.iconst (-1), 1) := by decide +kernel
theorem dX11_read_32 : decode cX11_read 32 = .ok (.ireturn, 1) := by decide +kernel
theorem dX11_read_33 : decode cX11_read 33 = .ok (.iload 4, 2) := by decide +kernel
theorem dX11_read_35 : decode cX11_read 35 = .ok (.sipush (-999), 3) := by decide +kernel
theorem dX11_read_38 : decode cX11_read 38 = .ok (.if_icmp .lt 23, 3) := by decide +kernel
theorem dX11_read_41 : decode cX11_read 41 = .ok (.iload 4, 2) := by decide +kernel
theorem dX11_read_43 : decode cX11_read 43 = .ok (.sipush 999, 3) := by decide +kernel
theorem dX11_read_46 : decode cX11_read 46 = .ok (.if_icmp .gt 15, 3) := by decide +kernel
theorem dX11_read_49 : decode cX11_read 49 = .ok (.iload 5, 2) := by decide +kernel
theorem dX11_read_51 : decode cX11_read 51 = .ok (.ifCond .lt 10, 3) := by decide +kernel
theorem dX11_read_54 : decode cX11_read 54 = .ok (.iload 5, 2) := by decide +kernel
theorem dX11_read_56 : decode cX11_read 56 = .ok (.bipush 99, 2) := by decide +kernel
theorem dX11_read_58 : decode cX11_read 58 = .ok (.if_icmp .le 5, 3) := by decide +kernel
theorem dX11_read_61 : decode cX11_read 61 = .ok (.iconst (-1), 1) := by decide +kernel
theorem dX11_read_62 : decode cX11_read 62 = .ok (.ireturn, 1) := by decide +kernel
theorem dX11_read_63 : decode cX11_read 63 = .ok (.iconst 0, 1) := by decide +kernel
theorem dX11_read_64 : decode cX11_read 64 = .ok (.istore 6, 2) := by decide +kernel
theorem dX11_read_66 : decode cX11_read 66 = .ok (.iconst 0, 1) := by decide +kernel
theorem dX11_read_67 : decode cX11_read 67 = .ok (.istore 7, 2) := by decide +kernel
theorem dX11_read_69 : decode cX11_read 69 = .ok (.iload 7, 2) := by decide +kernel
theorem dX11_read_71 : decode cX11_read 71 = .ok (.aload_n 0, 1) := by decide +kernel
theorem dX11_read_72 : decode cX11_read 72 = .ok (.getfield 20, 3) := by decide +kernel
theorem dX11_read_75 : decode cX11_read 75 = .ok (.getfield 202, 3) := by decide +kernel
theorem dX11_read_78 : decode cX11_read 78 = .ok (.if_icmp .ge 52, 3) := by decide +kernel
theorem dX11_read_81 : decode cX11_read 81 = .ok (.aload_n 0, 1) := by decide +kernel
theorem dX11_read_82 : decode cX11_read 82 = .ok (.getfield 74, 3) := by decide +kernel
theorem dX11_read_85 : decode cX11_read 85 = .ok (.aload_n 0, 1) := by decide +kernel
theorem dX11_read_86 : decode cX11_read 86 = .ok (.getfield 20, 3) := by decide +kernel
theorem dX11_read_89 : decode cX11_read 89 = .ok (.iload_n 1, 1) := by decide +kernel
theorem dX11_read_90 : decode cX11_read 90 = .ok (.iload 7, 2) := by decide +kernel
theorem dX11_read_92 : decode cX11_read 92 = .ok (.iload_n 3, 1) := by decide +kernel
theorem dX11_read_93 : decode cX11_read 93 = .ok (.invokevirtual 256, 3) := by decide +kernel
theorem dX11_read_96 : decode cX11_read 96 = .ok (.aload_n 0, 1) := by decide +kernel
theorem dX11_read_97 : decode cX11_read 97 = .ok (.getfield 74, 3) := by decide +kernel
theorem dX11_read_100 : decode cX11_read 100 = .ok (.iload_n 2, 1) := by decide +kernel
theorem dX11_read_101 : decode cX11_read 101 = .ok (.invokevirtual 260, 3) := by decide +kernel
theorem dX11_read_104 : decode cX11_read 104 = .ok (.iload 4, 2) := by decide +kernel
theorem dX11_read_106 : decode cX11_read 106 = .ok (.isub, 1) := by decide +kernel
theorem dX11_read_107 : decode cX11_read 107 = .ok (.invokestatic 263, 3) := by decide +kernel
theorem dX11_read_110 : decode cX11_read 110 = .ok (.iload 5, 2) := by decide +kernel
theorem dX11_read_112 : decode cX11_read 112 = .ok (.if_icmp .gt 12, 3) := by decide +kernel
theorem dX11_read_115 : decode cX11_read 115 = .ok (.iload 6, 2) := by decide +kernel
theorem dX11_read_117 : decode cX11_read 117 = .ok (.iconst 1, 1) := by decide +kernel
theorem dX11_read_118 : decode cX11_read 118 = .ok (.iload 7, 2) := by decide +kernel
theorem dX11_read_120 : decode cX11_read 120 = .ok (.ishl, 1) := by decide +kernel
theorem dX11_read_121 : decode cX11_read 121 = .ok (.ior, 1) := by decide +kernel
theorem dX11_read_122 : decode cX11_read 122 = .ok (.istore 6, 2) := by decide +kernel
theorem dX11_read_124 : decode cX11_read 124 = .ok (.iinc 7 1, 3) := by decide +kernel
theorem dX11_read_127 : decode cX11_read 127 = .ok (.goto (-58), 3) := by decide +kernel
theorem dX11_read_130 : decode cX11_read 130 = .ok (.aload_n 0, 1) := by decide +kernel
theorem dX11_read_131 : decode cX11_read 131 = .ok (.getfield 74, 3) := by decide +kernel
theorem dX11_read_134 : decode cX11_read 134 = .ok (.aload_n 0, 1) := by decide +kernel
theorem dX11_read_135 : decode cX11_read 135 = .ok (.getfield 78, 3) := by decide +kernel
theorem dX11_read_138 : decode cX11_read 138 = .ok (.iload 6, 2) := by decide +kernel
theorem dX11_read_140 : decode cX11_read 140 = .ok (.invokevirtual 268, 3) := by decide +kernel
theorem dX11_read_143 : decode cX11_read 143 = .ok (.ireturn, 1) := by decide +kernel
theorem dX11_untell_0 : decode cX11_untell 0 = .ok (.aload_n 0, 1) := by decide +kernel
theorem dX11_untell_1 : decode cX11_untell 1 = .ok (.getfield 74, 3) := by decide +kernel
theorem dX11_untell_4 : decode cX11_untell 4 = .ok (.iload_n 1, 1) := by decide +kernel
theorem dX11_untell_5 : decode cX11_untell 5 = .ok (.aload_n 0, 1) := by decide +kernel
theorem dX11_untell_6 : decode cX11_untell 6 = .ok (.getfield 78, 3) := by decide +kernel
theorem dX11_untell_9 : decode cX11_untell 9 = .ok (.invokevirtual 272, 3) := by decide +kernel
theorem dX11_untell_12 : decode cX11_untell 12 = .ok (.ireturn, 1) := by decide +kernel
theorem dX11_later_0 : decode cX11_later 0 = .ok (.iload_n 1, 1) := by decide +kernel
theorem dX11_later_1 : decode cX11_later 1 = .ok (.ifCond .lt 22, 3) := by decide +kernel
theorem dX11_later_4 : decode cX11_later 4 = .ok (.iload_n 1, 1) := by decide +kernel
theorem dX11_later_5 : decode cX11_later 5 = .ok (.sipush 1000, 3) := by decide +kernel
theorem dX11_later_8 : decode cX11_later 8 = .ok (.if_icmp .gt 15, 3) := by decide +kernel
theorem dX11_later_11 : decode cX11_later 11 = .ok (.aload_n 0, 1) := by decide +kernel
theorem dX11_later_12 : decode cX11_later 12 = .ok (.getfield 78, 3) := by decide +kernel
theorem dX11_later_15 : decode cX11_later 15 = .ok (.iload_n 1, 1) := by decide +kernel
theorem dX11_later_16 : decode cX11_later 16 = .ok (.iadd, 1) := by decide +kernel
theorem dX11_later_17 : decode cX11_later 17 = .ok (.ldc_w 275, 3) := by decide +kernel
theorem dX11_later_20 : decode cX11_later 20 = .ok (.if_icmp .le 5, 3) := by decide +kernel
theorem dX11_later_23 : decode cX11_later 23 = .ok (.iconst (-1), 1) := by decide +kernel
theorem dX11_later_24 : decode cX11_later 24 = .ok (.ireturn, 1) := by decide +kernel
theorem dX11_later_25 : decode cX11_later 25 = .ok (.aload_n 0, 1) := by decide +kernel
theorem dX11_later_26 : decode cX11_later 26 = .ok (.dup, 1) := by decide +kernel
theorem dX11_later_27 : decode cX11_later 27 = .ok (.getfield 78, 3) := by decide +kernel
theorem dX11_later_30 : decode cX11_later 30 = .ok (.iload_n 1, 1) := by decide +kernel
theorem dX11_later_31 : decode cX11_later 31 = .ok (.iadd, 1) := by decide +kernel
theorem dX11_later_32 : decode cX11_later 32 = .ok (.putfield 78, 3) := by decide +kernel
theorem dX11_later_35 : decode cX11_later 35 = .ok (.aload_n 0, 1) := by decide +kernel
theorem dX11_later_36 : decode cX11_later 36 = .ok (.getfield 78, 3) := by decide +kernel
theorem dX11_later_39 : decode cX11_later 39 = .ok (.ireturn, 1) := by decide +kernel
theorem dX11_left_0 : decode cX11_left 0 = .ok (.aload_n 0, 1) := by decide +kernel
theorem dX11_left_1 : decode cX11_left 1 = .ok (.getfield 74, 3) := by decide +kernel
theorem dX11_left_4 : decode cX11_left 4 = .ok (.iload_n 1, 1) := by decide +kernel
theorem dX11_left_5 : decode cX11_left 5 = .ok (.aload_n 0, 1) := by decide +kernel
theorem dX11_left_6 : decode cX11_left 6 = .ok (.getfield 20, 3) := by decide +kernel
theorem dX11_left_9 : decode cX11_left 9 = .ok (.invokevirtual 198, 3) := by decide +kernel
theorem dX11_left_12 : decode cX11_left 12 = .ok (.ireturn, 1) := by decide +kernel
theorem dX11_tells_0 : decode cX11_tells 0 = .ok (.aload_n 0, 1) := by decide +kernel
theorem dX11_tells_1 : decode cX11_tells 1 = .ok (.getfield 74, 3) := by decide +kernel
theorem dX11_tells_4 : decode cX11_tells 4 = .ok (.iload_n 3, 1) := by decide +kernel
theorem dX11_tells_5 : decode cX11_tells 5 = .ok (.aload_n 0, 1) := by decide +kernel
theorem dX11_tells_6 : decode cX11_tells 6 = .ok (.getfield 20, 3) := by decide +kernel
theorem dX11_tells_9 : decode cX11_tells 9 = .ok (.invokevirtual 198, 3) := by decide +kernel
theorem dX11_tells_12 : decode cX11_tells 12 = .ok (.istore 4, 2) := by decide +kernel
theorem dX11_tells_14 : decode cX11_tells 14 = .ok (.iload_n 1, 1) := by decide +kernel
theorem dX11_tells_15 : decode cX11_tells 15 = .ok (.ifCond .lt 33, 3) := by decide +kernel
theorem dX11_tells_18 : decode cX11_tells 18 = .ok (.iload_n 1, 1) := by decide +kernel
theorem dX11_tells_19 : decode cX11_tells 19 = .ok (.bipush 72, 2) := by decide +kernel
theorem dX11_tells_21 : decode cX11_tells 21 = .ok (.if_icmp .gt 27, 3) := by decide +kernel
theorem dX11_tells_24 : decode cX11_tells 24 = .ok (.iload_n 2, 1) := by decide +kernel
theorem dX11_tells_25 : decode cX11_tells 25 = .ok (.ifCond .lt 23, 3) := by decide +kernel
theorem dX11_tells_28 : decode cX11_tells 28 = .ok (.iload_n 2, 1) := by decide +kernel
theorem dX11_tells_29 : decode cX11_tells 29 = .ok (.iconst 2, 1) := by decide +kernel
theorem dX11_tells_30 : decode cX11_tells 30 = .ok (.if_icmp .gt 18, 3) := by decide +kernel
theorem dX11_tells_33 : decode cX11_tells 33 = .ok (.iload 4, 2) := by decide +kernel
theorem dX11_tells_35 : decode cX11_tells 35 = .ok (.ifCond .eq 13, 3) := by decide +kernel
theorem dX11_tells_38 : decode cX11_tells 38 = .ok (.aload_n 0, 1) := by decide +kernel
theorem dX11_tells_39 : decode cX11_tells 39 = .ok (.getfield 20, 3) := by decide +kernel
theorem dX11_tells_42 : decode cX11_tells 42 = .ok (.getfield 107, 3) := by decide +kernel
theorem dX11_tells_45 : decode cX11_tells 45 = .ok (.ifCond .ne 5, 3) := by decide +kernel
theorem dX11_tells_48 : decode cX11_tells 48 = .ok (.iconst (-1), 1) := by decide +kernel
theorem dX11_tells_49 : decode cX11_tells 49 = .ok (.ireturn, 1) := by decide +kernel
theorem dX11_tells_50 : decode cX11_tells 50 = .ok (.aload_n 0, 1) := by decide +kernel
theorem dX11_tells_51 : decode cX11_tells 51 = .ok (.getfield 74, 3) := by decide +kernel
theorem dX11_tells_54 : decode cX11_tells 54 = .ok (.aload_n 0, 1) := by decide +kernel
theorem dX11_tells_55 : decode cX11_tells 55 = .ok (.getfield 20, 3) := by decide +kernel
theorem dX11_tells_58 : decode cX11_tells 58 = .ok (.iload_n 1, 1) := by decide +kernel
theorem dX11_tells_59 : decode cX11_tells 59 = .ok (.iload 4, 2) := by decide +kernel
theorem dX11_tells_61 : decode cX11_tells 61 = .ok (.invokevirtual 276, 3) := by decide +kernel
theorem dX11_tells_64 : decode cX11_tells 64 = .ok (.iload_n 2, 1) := by decide +kernel
theorem dX11_tells_65 : decode cX11_tells 65 = .ok (.ifCond .ne 11, 3) := by decide +kernel
theorem dX11_tells_68 : decode cX11_tells 68 = .ok (.aload_n 0, 1) := by decide +kernel
theorem dX11_tells_69 : decode cX11_tells 69 = .ok (.getfield 74, 3) := by decide +kernel
theorem dX11_tells_72 : decode cX11_tells 72 = .ok (.getfield 280, 3) := by decide +kernel
theorem dX11_tells_75 : decode cX11_tells 75 = .ok (.ireturn, 1) := by decide +kernel
theorem dX11_tells_76 : decode cX11_tells 76 = .ok (.iload_n 2, 1) := by decide +kernel
theorem dX11_tells_77 : decode cX11_tells 77 = .ok (.iconst 1, 1) := by decide +kernel
theorem dX11_tells_78 : decode cX11_tells 78 = .ok (.if_icmp .ne 13, 3) := by decide +kernel
theorem dX11_tells_81 : decode cX11_tells 81 = .ok (.aload_n 0, 1) := by decide +kernel
theorem dX11_tells_82 : decode cX11_tells 82 = .ok (.getfield 74, 3) := by decide +kernel
theorem dX11_tells_85 : decode cX11_tells 85 = .ok (.getfield 283, 3) := by decide +kernel
theorem dX11_tells_88 : decode cX11_tells 88 = .ok (.goto 10, 3) := by decide +kernel
theorem dX11_tells_91 : decode cX11_tells 91 = .ok (.aload_n 0, 1) := by decide +kernel
theorem dX11_tells_92 : decode cX11_tells 92 = .ok (.getfield 74, 3) := by decide +kernel
theorem dX11_tells_95 : decode cX11_tells 95 = .ok (.getfield 286, 3) := by decide +kernel
theorem dX11_tells_98 : decode cX11_tells 98 = .ok (.ireturn, 1) := by decide +kernel
theorem dX11_image_0 : decode cX11_image 0 = .ok (.iload_n 1, 1) := by decide +kernel
theorem dX11_image_1 : decode cX11_image 1 = .ok (.ifCond .lt 8, 3) := by decide +kernel
theorem dX11_image_4 : decode cX11_image 4 = .ok (.iload_n 1, 1) := by decide +kernel
theorem dX11_image_5 : decode cX11_image 5 = .ok (.iconst 3, 1) := by decide +kernel
theorem dX11_image_6 : decode cX11_image 6 = .ok (.if_icmp .lt 5, 3) := by decide +kernel
theorem dX11_image_9 : decode cX11_image 9 = .ok (.iconst (-1), 1) := by decide +kernel
theorem dX11_image_10 : decode cX11_image 10 = .ok (.ireturn, 1) := by decide +kernel
theorem dX11_image_11 : decode cX11_image 11 = .ok (.aload_n 0, 1) := by decide +kernel
theorem dX11_image_12 : decode cX11_image 12 = .ok (.getfield 39, 3) := by decide +kernel
theorem dX11_image_15 : decode cX11_image 15 = .ok (.aload_n 0, 1) := by decide +kernel
theorem dX11_image_16 : decode cX11_image 16 = .ok (.getfield 83, 3) := by decide +kernel
theorem dX11_image_19 : decode cX11_image 19 = .ok (.iload_n 1, 1) := by decide +kernel
theorem dX11_image_20 : decode cX11_image 20 = .ok (.aaload, 1) := by decide +kernel
theorem dX11_image_21 : decode cX11_image 21 = .ok (.invokevirtual 289, 3) := by decide +kernel
theorem dX11_image_24 : decode cX11_image 24 = .ok (.aload_n 0, 1) := by decide +kernel
theorem dX11_image_25 : decode cX11_image 25 = .ok (.getfield 86, 3) := by decide +kernel
theorem dX11_image_28 : decode cX11_image 28 = .ok (.iload_n 1, 1) := by decide +kernel
theorem dX11_image_29 : decode cX11_image 29 = .ok (.iconst 1, 1) := by decide +kernel
theorem dX11_image_30 : decode cX11_image 30 = .ok (.bastore, 1) := by decide +kernel
theorem dX11_image_31 : decode cX11_image 31 = .ok (.aload_n 0, 1) := by decide +kernel
theorem dX11_image_32 : decode cX11_image 32 = .ok (.getfield 39, 3) := by decide +kernel
theorem dX11_image_35 : decode cX11_image 35 = .ok (.getfield 116, 3) := by decide +kernel
theorem dX11_image_38 : decode cX11_image 38 = .ok (.ireturn, 1) := by decide +kernel
theorem dX11_back_0 : decode cX11_back 0 = .ok (.iload_n 1, 1) := by decide +kernel
theorem dX11_back_1 : decode cX11_back 1 = .ok (.ifCond .lt 17, 3) := by decide +kernel
theorem dX11_back_4 : decode cX11_back 4 = .ok (.iload_n 1, 1) := by decide +kernel
theorem dX11_back_5 : decode cX11_back 5 = .ok (.iconst 3, 1) := by decide +kernel
theorem dX11_back_6 : decode cX11_back 6 = .ok (.if_icmp .ge 12, 3) := by decide +kernel
theorem dX11_back_9 : decode cX11_back 9 = .ok (.aload_n 0, 1) := by decide +kernel
theorem dX11_back_10 : decode cX11_back 10 = .ok (.getfield 86, 3) := by decide +kernel
theorem dX11_back_13 : decode cX11_back 13 = .ok (.iload_n 1, 1) := by decide +kernel
theorem dX11_back_14 : decode cX11_back 14 = .ok (.baload, 1) := by decide +kernel
theorem dX11_back_15 : decode cX11_back 15 = .ok (.ifCond .ne 5, 3) := by decide +kernel
theorem dX11_back_18 : decode cX11_back 18 = .ok (.iconst (-1), 1) := by decide +kernel
theorem dX11_back_19 : decode cX11_back 19 = .ok (.ireturn, 1) := by decide +kernel
theorem dX11_back_20 : decode cX11_back 20 = .ok (.aload_n 0, 1) := by decide +kernel
theorem dX11_back_21 : decode cX11_back 21 = .ok (.getfield 39, 3) := by decide +kernel
theorem dX11_back_24 : decode cX11_back 24 = .ok (.aload_n 0, 1) := by decide +kernel
theorem dX11_back_25 : decode cX11_back 25 = .ok (.getfield 83, 3) := by decide +kernel
theorem dX11_back_28 : decode cX11_back 28 = .ok (.iload_n 1, 1) := by decide +kernel
theorem dX11_back_29 : decode cX11_back 29 = .ok (.aaload, 1) := by decide +kernel
theorem dX11_back_30 : decode cX11_back 30 = .ok (.invokevirtual 293, 3) := by decide +kernel
theorem dX11_back_33 : decode cX11_back 33 = .ok (.aload_n 0, 1) := by decide +kernel
theorem dX11_back_34 : decode cX11_back 34 = .ok (.getfield 39, 3) := by decide +kernel
theorem dX11_back_37 : decode cX11_back 37 = .ok (.getfield 116, 3) := by decide +kernel
theorem dX11_back_40 : decode cX11_back 40 = .ok (.ireturn, 1) := by decide +kernel
theorem dX11_about_0 : decode cX11_about 0 = .ok (.iload_n 1, 1) := by decide +kernel
theorem dX11_about_1 : decode cX11_about 1 = .ok (.tableswitch 141 0 10 #[59, 67, 75, 83, 91, 99, 107, 115, 120, 125, 133], 59) := by decide +kernel
theorem dX11_about_60 : decode cX11_about 60 = .ok (.aload_n 0, 1) := by decide +kernel
theorem dX11_about_61 : decode cX11_about 61 = .ok (.getfield 20, 3) := by decide +kernel
theorem dX11_about_64 : decode cX11_about 64 = .ok (.getfield 107, 3) := by decide +kernel
theorem dX11_about_67 : decode cX11_about 67 = .ok (.ireturn, 1) := by decide +kernel
theorem dX11_about_68 : decode cX11_about 68 = .ok (.aload_n 0, 1) := by decide +kernel
theorem dX11_about_69 : decode cX11_about 69 = .ok (.getfield 20, 3) := by decide +kernel
theorem dX11_about_72 : decode cX11_about 72 = .ok (.getfield 296, 3) := by decide +kernel
theorem dX11_about_75 : decode cX11_about 75 = .ok (.ireturn, 1) := by decide +kernel
theorem dX11_about_76 : decode cX11_about 76 = .ok (.aload_n 0, 1) := by decide +kernel
theorem dX11_about_77 : decode cX11_about 77 = .ok (.getfield 20, 3) := by decide +kernel
theorem dX11_about_80 : decode cX11_about 80 = .ok (.getfield 299, 3) := by decide +kernel
theorem dX11_about_83 : decode cX11_about 83 = .ok (.ireturn, 1) := by decide +kernel
theorem dX11_about_84 : decode cX11_about 84 = .ok (.aload_n 0, 1) := by decide +kernel
theorem dX11_about_85 : decode cX11_about 85 = .ok (.getfield 20, 3) := by decide +kernel
theorem dX11_about_88 : decode cX11_about 88 = .ok (.getfield 202, 3) := by decide +kernel
theorem dX11_about_91 : decode cX11_about 91 = .ok (.ireturn, 1) := by decide +kernel
theorem dX11_about_92 : decode cX11_about 92 = .ok (.aload_n 0, 1) := by decide +kernel
theorem dX11_about_93 : decode cX11_about 93 = .ok (.getfield 39, 3) := by decide +kernel
theorem dX11_about_96 : decode cX11_about 96 = .ok (.getfield 116, 3) := by decide +kernel
theorem dX11_about_99 : decode cX11_about 99 = .ok (.ireturn, 1) := by decide +kernel
theorem dX11_about_100 : decode cX11_about 100 = .ok (.aload_n 0, 1) := by decide +kernel
theorem dX11_about_101 : decode cX11_about 101 = .ok (.getfield 39, 3) := by decide +kernel
theorem dX11_about_104 : decode cX11_about 104 = .ok (.getfield 133, 3) := by decide +kernel
theorem dX11_about_107 : decode cX11_about 107 = .ok (.ireturn, 1) := by decide +kernel
theorem dX11_about_108 : decode cX11_about 108 = .ok (.aload_n 0, 1) := by decide +kernel
theorem dX11_about_109 : decode cX11_about 109 = .ok (.getfield 74, 3) := by decide +kernel
theorem dX11_about_112 : decode cX11_about 112 = .ok (.getfield 255, 3) := by decide +kernel
theorem dX11_about_115 : decode cX11_about 115 = .ok (.ireturn, 1) := by decide +kernel
theorem dX11_about_116 : decode cX11_about 116 = .ok (.aload_n 0, 1) := by decide +kernel
theorem dX11_about_117 : decode cX11_about 117 = .ok (.getfield 78, 3) := by decide +kernel
theorem dX11_about_120 : decode cX11_about 120 = .ok (.ireturn, 1) := by decide +kernel
theorem dX11_about_121 : decode cX11_about 121 = .ok (.aload_n 0, 1) := by decide +kernel
theorem dX11_about_122 : decode cX11_about 122 = .ok (.getfield 13, 3) := by decide +kernel
theorem dX11_about_125 : decode cX11_about 125 = .ok (.ireturn, 1) := by decide +kernel
theorem dX11_about_126 : decode cX11_about 126 = .ok (.aload_n 0, 1) := by decide +kernel
theorem dX11_about_127 : decode cX11_about 127 = .ok (.getfield 20, 3) := by decide +kernel
theorem dX11_about_130 : decode cX11_about 130 = .ok (.getfield 302, 3) := by decide +kernel
theorem dX11_about_133 : decode cX11_about 133 = .ok (.ireturn, 1) := by decide +kernel
theorem dX11_about_134 : decode cX11_about 134 = .ok (.aload_n 0, 1) := by decide +kernel
theorem dX11_about_135 : decode cX11_about 135 = .ok (.getfield 60, 3) := by decide +kernel
theorem dX11_about_138 : decode cX11_about 138 = .ok (.getfield 242, 3) := by decide +kernel
theorem dX11_about_141 : decode cX11_about 141 = .ok (.ireturn, 1) := by decide +kernel
theorem dX11_about_142 : decode cX11_about 142 = .ok (.iconst (-1), 1) := by decide +kernel
theorem dX11_about_143 : decode cX11_about 143 = .ok (.ireturn, 1) := by decide +kernel
theorem dX11_append_0 : decode cX11_append 0 = .ok (.bipush 24, 2) := by decide +kernel
theorem dX11_append_2 : decode cX11_append 2 = .ok (.istore_n 2, 1) := by decide +kernel
theorem dX11_append_3 : decode cX11_append 3 = .ok (.iload_n 2, 1) := by decide +kernel
theorem dX11_append_4 : decode cX11_append 4 = .ok (.ifCond .lt 42, 3) := by decide +kernel
theorem dX11_append_7 : decode cX11_append 7 = .ok (.aload_n 0, 1) := by decide +kernel
theorem dX11_append_8 : decode cX11_append 8 = .ok (.getfield 13, 3) := by decide +kernel
theorem dX11_append_11 : decode cX11_append 11 = .ok (.sipush 1700, 3) := by decide +kernel
theorem dX11_append_14 : decode cX11_append 14 = .ok (.if_icmp .ge 32, 3) := by decide +kernel
theorem dX11_append_17 : decode cX11_append 17 = .ok (.aload_n 0, 1) := by decide +kernel
theorem dX11_append_18 : decode cX11_append 18 = .ok (.getfield 9, 3) := by decide +kernel
theorem dX11_append_21 : decode cX11_append 21 = .ok (.aload_n 0, 1) := by decide +kernel
theorem dX11_append_22 : decode cX11_append 22 = .ok (.getfield 13, 3) := by decide +kernel
theorem dX11_append_25 : decode cX11_append 25 = .ok (.iload_n 1, 1) := by decide +kernel
theorem dX11_append_26 : decode cX11_append 26 = .ok (.iload_n 2, 1) := by decide +kernel
theorem dX11_append_27 : decode cX11_append 27 = .ok (.ishr, 1) := by decide +kernel
theorem dX11_append_28 : decode cX11_append 28 = .ok (.i2b, 1) := by decide +kernel
theorem dX11_append_29 : decode cX11_append 29 = .ok (.bastore, 1) := by decide +kernel
theorem dX11_append_30 : decode cX11_append 30 = .ok (.aload_n 0, 1) := by decide +kernel
theorem dX11_append_31 : decode cX11_append 31 = .ok (.dup, 1) := by decide +kernel
theorem dX11_append_32 : decode cX11_append 32 = .ok (.getfield 13, 3) := by decide +kernel
theorem dX11_append_35 : decode cX11_append 35 = .ok (.iconst 1, 1) := by decide +kernel
theorem dX11_append_36 : decode cX11_append 36 = .ok (.iadd, 1) := by decide +kernel
theorem dX11_append_37 : decode cX11_append 37 = .ok (.putfield 13, 3) := by decide +kernel
theorem dX11_append_40 : decode cX11_append 40 = .ok (.iinc 2 (-8), 3) := by decide +kernel
theorem dX11_append_43 : decode cX11_append 43 = .ok (.goto (-40), 3) := by decide +kernel
theorem dX11_append_46 : decode cX11_append 46 = .ok (.return_, 1) := by decide +kernel
theorem dX11_isYard_0 : decode cX11_isYard 0 = .ok (.iload_n 1, 1) := by decide +kernel
theorem dX11_isYard_1 : decode cX11_isYard 1 = .ok (.ifCond .lt 18, 3) := by decide +kernel
theorem dX11_isYard_4 : decode cX11_isYard 4 = .ok (.iload_n 1, 1) := by decide +kernel
theorem dX11_isYard_5 : decode cX11_isYard 5 = .ok (.aload_n 0, 1) := by decide +kernel
theorem dX11_isYard_6 : decode cX11_isYard 6 = .ok (.getfield 20, 3) := by decide +kernel
theorem dX11_isYard_9 : decode cX11_isYard 9 = .ok (.getfield 107, 3) := by decide +kernel
theorem dX11_isYard_12 : decode cX11_isYard 12 = .ok (.if_icmp .ge 7, 3) := by decide +kernel
theorem dX11_isYard_15 : decode cX11_isYard 15 = .ok (.iconst 1, 1) := by decide +kernel
theorem dX11_isYard_16 : decode cX11_isYard 16 = .ok (.goto 4, 3) := by decide +kernel
theorem dX11_isYard_19 : decode cX11_isYard 19 = .ok (.iconst 0, 1) := by decide +kernel
theorem dX11_isYard_20 : decode cX11_isYard 20 = .ok (.ireturn, 1) := by decide +kernel
theorem dX11_isLayer_0 : decode cX11_isLayer 0 = .ok (.aload_n 0, 1) := by decide +kernel
theorem dX11_isLayer_1 : decode cX11_isLayer 1 = .ok (.iload_n 1, 1) := by decide +kernel
theorem dX11_isLayer_2 : decode cX11_isLayer 2 = .ok (.invokevirtual 130, 3) := by decide +kernel
theorem dX11_isLayer_5 : decode cX11_isLayer 5 = .ok (.ifCond .eq 27, 3) := by decide +kernel
theorem dX11_isLayer_8 : decode cX11_isLayer 8 = .ok (.iload_n 2, 1) := by decide +kernel
theorem dX11_isLayer_9 : decode cX11_isLayer 9 = .ok (.ifCond .lt 23, 3) := by decide +kernel
theorem dX11_isLayer_12 : decode cX11_isLayer 12 = .ok (.iload_n 2, 1) := by decide +kernel
theorem dX11_isLayer_13 : decode cX11_isLayer 13 = .ok (.aload_n 0, 1) := by decide +kernel
theorem dX11_isLayer_14 : decode cX11_isLayer 14 = .ok (.getfield 20, 3) := by decide +kernel
theorem dX11_isLayer_17 : decode cX11_isLayer 17 = .ok (.getfield 144, 3) := by decide +kernel
theorem dX11_isLayer_20 : decode cX11_isLayer 20 = .ok (.iload_n 1, 1) := by decide +kernel
theorem dX11_isLayer_21 : decode cX11_isLayer 21 = .ok (.aaload, 1) := by decide +kernel
theorem dX11_isLayer_22 : decode cX11_isLayer 22 = .ok (.getfield 170, 3) := by decide +kernel
theorem dX11_isLayer_25 : decode cX11_isLayer 25 = .ok (.if_icmp .ge 7, 3) := by decide +kernel
theorem dX11_isLayer_28 : decode cX11_isLayer 28 = .ok (.iconst 1, 1) := by decide +kernel
theorem dX11_isLayer_29 : decode cX11_isLayer 29 = .ok (.goto 4, 3) := by decide +kernel
theorem dX11_isLayer_32 : decode cX11_isLayer 32 = .ok (.iconst 0, 1) := by decide +kernel
theorem dX11_isLayer_33 : decode cX11_isLayer 33 = .ok (.ireturn, 1) := by decide +kernel
theorem dX11_isSet_0 : decode cX11_isSet 0 = .ok (.iload_n 1, 1) := by decide +kernel
theorem dX11_isSet_1 : decode cX11_isSet 1 = .ok (.ifCond .lt 20, 3) := by decide +kernel
theorem dX11_isSet_4 : decode cX11_isSet 4 = .ok (.iload_n 1, 1) := by decide +kernel
theorem dX11_isSet_5 : decode cX11_isSet 5 = .ok (.iconst 1, 1) := by decide +kernel
theorem dX11_isSet_6 : decode cX11_isSet 6 = .ok (.aload_n 0, 1) := by decide +kernel
theorem dX11_isSet_7 : decode cX11_isSet 7 = .ok (.getfield 20, 3) := by decide +kernel
theorem dX11_isSet_10 : decode cX11_isSet 10 = .ok (.getfield 107, 3) := by decide +kernel
theorem dX11_isSet_13 : decode cX11_isSet 13 = .ok (.ishl, 1) := by decide +kernel
theorem dX11_isSet_14 : decode cX11_isSet 14 = .ok (.if_icmp .ge 7, 3) := by decide +kernel
theorem dX11_isSet_17 : decode cX11_isSet 17 = .ok (.iconst 1, 1) := by decide +kernel
theorem dX11_isSet_18 : decode cX11_isSet 18 = .ok (.goto 4, 3) := by decide +kernel
theorem dX11_isSet_21 : decode cX11_isSet 21 = .ok (.iconst 0, 1) := by decide +kernel
theorem dX11_isSet_22 : decode cX11_isSet 22 = .ok (.ireturn, 1) := by decide +kernel
theorem dX11_isShift_0 : decode cX11_isShift 0 = .ok (.iload_n 0, 1) := by decide +kernel
theorem dX11_isShift_1 : decode cX11_isShift 1 = .ok (.bipush (-50), 2) := by decide +kernel
theorem dX11_isShift_3 : decode cX11_isShift 3 = .ok (.if_icmp .lt 13, 3) := by decide +kernel
theorem dX11_isShift_6 : decode cX11_isShift 6 = .ok (.iload_n 0, 1) := by decide +kernel
theorem dX11_isShift_7 : decode cX11_isShift 7 = .ok (.bipush 50, 2) := by decide +kernel
theorem dX11_isShift_9 : decode cX11_isShift 9 = .ok (.if_icmp .gt 7, 3) := by decide +kernel
theorem dX11_isShift_12 : decode cX11_isShift 12 = .ok (.iconst 1, 1) := by decide +kernel
theorem dX11_isShift_13 : decode cX11_isShift 13 = .ok (.goto 4, 3) := by decide +kernel
theorem dX11_isShift_16 : decode cX11_isShift 16 = .ok (.iconst 0, 1) := by decide +kernel
theorem dX11_isShift_17 : decode cX11_isShift 17 = .ok (.ireturn, 1) := by decide +kernel
theorem dX11_isSalt_0 : decode cX11_isSalt 0 = .ok (.iload_n 0, 1) := by decide +kernel
theorem dX11_isSalt_1 : decode cX11_isSalt 1 = .ok (.ifCond .lt 13, 3) := by decide +kernel
theorem dX11_isSalt_4 : decode cX11_isSalt 4 = .ok (.iload_n 0, 1) := by decide +kernel
theorem dX11_isSalt_5 : decode cX11_isSalt 5 = .ok (.bipush 99, 2) := by decide +kernel
theorem dX11_isSalt_7 : decode cX11_isSalt 7 = .ok (.if_icmp .gt 7, 3) := by decide +kernel
theorem dX11_isSalt_10 : decode cX11_isSalt 10 = .ok (.iconst 1, 1) := by decide +kernel
theorem dX11_isSalt_11 : decode cX11_isSalt 11 = .ok (.goto 4, 3) := by decide +kernel
theorem dX11_isSalt_14 : decode cX11_isSalt 14 = .ok (.iconst 0, 1) := by decide +kernel
theorem dX11_isSalt_15 : decode cX11_isSalt 15 = .ok (.ireturn, 1) := by decide +kernel
theorem dX11_lowest_0 : decode cX11_lowest 0 = .ok (.iload_n 0, 1) := by decide +kernel
theorem dX11_lowest_1 : decode cX11_lowest 1 = .ok (.istore_n 3, 1) := by decide +kernel
theorem dX11_lowest_2 : decode cX11_lowest 2 = .ok (.iload_n 1, 1) := by decide +kernel
theorem dX11_lowest_3 : decode cX11_lowest 3 = .ok (.istore 4, 2) := by decide +kernel
theorem dX11_lowest_5 : decode cX11_lowest 5 = .ok (.iconst 0, 1) := by decide +kernel
theorem dX11_lowest_6 : decode cX11_lowest 6 = .ok (.istore 5, 2) := by decide +kernel
theorem dX11_lowest_8 : decode cX11_lowest 8 = .ok (.iload 5, 2) := by decide +kernel
theorem dX11_lowest_10 : decode cX11_lowest 10 = .ok (.bipush 100, 2) := by decide +kernel
theorem dX11_lowest_12 : decode cX11_lowest 12 = .ok (.if_icmp .ge 27, 3) := by decide +kernel
theorem dX11_lowest_15 : decode cX11_lowest 15 = .ok (.iload 4, 2) := by decide +kernel
theorem dX11_lowest_17 : decode cX11_lowest 17 = .ok (.ifCond .eq 22, 3) := by decide +kernel
theorem dX11_lowest_20 : decode cX11_lowest 20 = .ok (.iload_n 3, 1) := by decide +kernel
theorem dX11_lowest_21 : decode cX11_lowest 21 = .ok (.iload 4, 2) := by decide +kernel
theorem dX11_lowest_23 : decode cX11_lowest 23 = .ok (.irem, 1) := by decide +kernel
theorem dX11_lowest_24 : decode cX11_lowest 24 = .ok (.istore 6, 2) := by decide +kernel
theorem dX11_lowest_26 : decode cX11_lowest 26 = .ok (.iload 4, 2) := by decide +kernel
theorem dX11_lowest_28 : decode cX11_lowest 28 = .ok (.istore_n 3, 1) := by decide +kernel
theorem dX11_lowest_29 : decode cX11_lowest 29 = .ok (.iload 6, 2) := by decide +kernel
theorem dX11_lowest_31 : decode cX11_lowest 31 = .ok (.istore 4, 2) := by decide +kernel
theorem dX11_lowest_33 : decode cX11_lowest 33 = .ok (.iinc 5 1, 3) := by decide +kernel
theorem dX11_lowest_36 : decode cX11_lowest 36 = .ok (.goto (-28), 3) := by decide +kernel
theorem dX11_lowest_39 : decode cX11_lowest 39 = .ok (.iload_n 3, 1) := by decide +kernel
theorem dX11_lowest_40 : decode cX11_lowest 40 = .ok (.iconst 1, 1) := by decide +kernel
theorem dX11_lowest_41 : decode cX11_lowest 41 = .ok (.if_icmp .ge 7, 3) := by decide +kernel
theorem dX11_lowest_44 : decode cX11_lowest 44 = .ok (.iconst 1, 1) := by decide +kernel
theorem dX11_lowest_45 : decode cX11_lowest 45 = .ok (.goto 4, 3) := by decide +kernel
theorem dX11_lowest_48 : decode cX11_lowest 48 = .ok (.iload_n 3, 1) := by decide +kernel
theorem dX11_lowest_49 : decode cX11_lowest 49 = .ok (.istore 5, 2) := by decide +kernel
theorem dX11_lowest_51 : decode cX11_lowest 51 = .ok (.iload_n 2, 1) := by decide +kernel
theorem dX11_lowest_52 : decode cX11_lowest 52 = .ok (.ifCond .ne 7, 3) := by decide +kernel
theorem dX11_lowest_55 : decode cX11_lowest 55 = .ok (.iload_n 0, 1) := by decide +kernel
theorem dX11_lowest_56 : decode cX11_lowest 56 = .ok (.goto 4, 3) := by decide +kernel
theorem dX11_lowest_59 : decode cX11_lowest 59 = .ok (.iload_n 1, 1) := by decide +kernel
theorem dX11_lowest_60 : decode cX11_lowest 60 = .ok (.iload 5, 2) := by decide +kernel
theorem dX11_lowest_62 : decode cX11_lowest 62 = .ok (.idiv, 1) := by decide +kernel
theorem dX11_lowest_63 : decode cX11_lowest 63 = .ok (.ireturn, 1) := by decide +kernel
theorem dX12_init_0 : decode cX12_init 0 = .ok (.aload_n 0, 1) := by decide +kernel
theorem dX12_init_1 : decode cX12_init 1 = .ok (.invokespecial 1, 3) := by decide +kernel
theorem dX12_init_4 : decode cX12_init 4 = .ok (.aload_n 0, 1) := by decide +kernel
theorem dX12_init_5 : decode cX12_init 5 = .ok (.sipush 1700, 3) := by decide +kernel
theorem dX12_init_8 : decode cX12_init 8 = .ok (.newarray .int, 2) := by decide +kernel
theorem dX12_init_10 : decode cX12_init 10 = .ok (.putfield 7, 3) := by decide +kernel
theorem dX12_init_13 : decode cX12_init 13 = .ok (.aload_n 0, 1) := by decide +kernel
theorem dX12_init_14 : decode cX12_init 14 = .ok (.iconst (-1), 1) := by decide +kernel
theorem dX12_init_15 : decode cX12_init 15 = .ok (.putfield 13, 3) := by decide +kernel
theorem dX12_init_18 : decode cX12_init 18 = .ok (.aload_n 0, 1) := by decide +kernel
theorem dX12_init_19 : decode cX12_init 19 = .ok (.bipush 8, 2) := by decide +kernel
theorem dX12_init_21 : decode cX12_init 21 = .ok (.newarray .long, 2) := by decide +kernel
theorem dX12_init_23 : decode cX12_init 23 = .ok (.putfield 17, 3) := by decide +kernel
theorem dX12_init_26 : decode cX12_init 26 = .ok (.aload_n 0, 1) := by decide +kernel
theorem dX12_init_27 : decode cX12_init 27 = .ok (.bipush 8, 2) := by decide +kernel
theorem dX12_init_29 : decode cX12_init 29 = .ok (.newarray .int, 2) := by decide +kernel
theorem dX12_init_31 : decode cX12_init 31 = .ok (.putfield 21, 3) := by decide +kernel
theorem dX12_init_34 : decode cX12_init 34 = .ok (.aload_n 0, 1) := by decide +kernel
theorem dX12_init_35 : decode cX12_init 35 = .ok (.bipush 8, 2) := by decide +kernel
theorem dX12_init_37 : decode cX12_init 37 = .ok (.newarray .int, 2) := by decide +kernel
theorem dX12_init_39 : decode cX12_init 39 = .ok (.putfield 24, 3) := by decide +kernel
theorem dX12_init_42 : decode cX12_init 42 = .ok (.aload_n 0, 1) := by decide +kernel
theorem dX12_init_43 : decode cX12_init 43 = .ok (.bipush 8, 2) := by decide +kernel
theorem dX12_init_45 : decode cX12_init 45 = .ok (.newarray .int, 2) := by decide +kernel
theorem dX12_init_47 : decode cX12_init 47 = .ok (.putfield 27, 3) := by decide +kernel
theorem dX12_init_50 : decode cX12_init 50 = .ok (.aload_n 0, 1) := by decide +kernel
theorem dX12_init_51 : decode cX12_init 51 = .ok (.bipush 8, 2) := by decide +kernel
theorem dX12_init_53 : decode cX12_init 53 = .ok (.newarray .int, 2) := by decide +kernel
theorem dX12_init_55 : decode cX12_init 55 = .ok (.putfield 30, 3) := by decide +kernel
theorem dX12_init_58 : decode cX12_init 58 = .ok (.aload_n 0, 1) := by decide +kernel
theorem dX12_init_59 : decode cX12_init 59 = .ok (.bipush 40, 2) := by decide +kernel
theorem dX12_init_61 : decode cX12_init 61 = .ok (.newarray .int, 2) := by decide +kernel
theorem dX12_init_63 : decode cX12_init 63 = .ok (.putfield 33, 3) := by decide +kernel
theorem dX12_init_66 : decode cX12_init 66 = .ok (.aload_n 0, 1) := by decide +kernel
theorem dX12_init_67 : decode cX12_init 67 = .ok (.bipush 64, 2) := by decide +kernel
theorem dX12_init_69 : decode cX12_init 69 = .ok (.newarray .int, 2) := by decide +kernel
theorem dX12_init_71 : decode cX12_init 71 = .ok (.putfield 36, 3) := by decide +kernel
theorem dX12_init_74 : decode cX12_init 74 = .ok (.aload_n 0, 1) := by decide +kernel
theorem dX12_init_75 : decode cX12_init 75 = .ok (.bipush 12, 2) := by decide +kernel
theorem dX12_init_77 : decode cX12_init 77 = .ok (.newarray .int, 2) := by decide +kernel
theorem dX12_init_79 : decode cX12_init 79 = .ok (.putfield 39, 3) := by decide +kernel
theorem dX12_init_82 : decode cX12_init 82 = .ok (.aload_n 0, 1) := by decide +kernel
theorem dX12_init_83 : decode cX12_init 83 = .ok (.bipush 12, 2) := by decide +kernel
theorem dX12_init_85 : decode cX12_init 85 = .ok (.newarray .int, 2) := by decide +kernel
theorem dX12_init_87 : decode cX12_init 87 = .ok (.putfield 42, 3) := by decide +kernel
theorem dX12_init_90 : decode cX12_init 90 = .ok (.aload_n 0, 1) := by decide +kernel
theorem dX12_init_91 : decode cX12_init 91 = .ok (.bipush 12, 2) := by decide +kernel
theorem dX12_init_93 : decode cX12_init 93 = .ok (.newarray .int, 2) := by decide +kernel
theorem dX12_init_95 : decode cX12_init 95 = .ok (.putfield 45, 3) := by decide +kernel
theorem dX12_init_98 : decode cX12_init 98 = .ok (.aload_n 0, 1) := by decide +kernel
theorem dX12_init_99 : decode cX12_init 99 = .ok (.bipush 7, 2) := by decide +kernel
theorem dX12_init_101 : decode cX12_init 101 = .ok (.newarray .int, 2) := by decide +kernel
theorem dX12_init_103 : decode cX12_init 103 = .ok (.putfield 48, 3) := by decide +kernel
theorem dX12_init_106 : decode cX12_init 106 = .ok (.aload_n 0, 1) := by decide +kernel
theorem dX12_init_107 : decode cX12_init 107 = .ok (.bipush 7, 2) := by decide +kernel
theorem dX12_init_109 : decode cX12_init 109 = .ok (.newarray .int, 2) := by decide +kernel
theorem dX12_init_111 : decode cX12_init 111 = .ok (.putfield 51, 3) := by decide +kernel
theorem dX12_init_114 : decode cX12_init 114 = .ok (.aload_n 0, 1) := by decide +kernel
theorem dX12_init_115 : decode cX12_init 115 = .ok (.bipush 8, 2) := by decide +kernel
theorem dX12_init_117 : decode cX12_init 117 = .ok (.newarray .int, 2) := by decide +kernel
theorem dX12_init_119 : decode cX12_init 119 = .ok (.putfield 54, 3) := by decide +kernel
theorem dX12_init_122 : decode cX12_init 122 = .ok (.aload_n 0, 1) := by decide +kernel
theorem dX12_init_123 : decode cX12_init 123 = .ok (.bipush 8, 2) := by decide +kernel
theorem dX12_init_125 : decode cX12_init 125 = .ok (.newarray .int, 2) := by decide +kernel
theorem dX12_init_127 : decode cX12_init 127 = .ok (.putfield 57, 3) := by decide +kernel
theorem dX12_init_130 : decode cX12_init 130 = .ok (.aload_n 0, 1) := by decide +kernel
theorem dX12_init_131 : decode cX12_init 131 = .ok (.bipush 8, 2) := by decide +kernel
theorem dX12_init_133 : decode cX12_init 133 = .ok (.newarray .int, 2) := by decide +kernel
theorem dX12_init_135 : decode cX12_init 135 = .ok (.putfield 60, 3) := by decide +kernel
theorem dX12_init_138 : decode cX12_init 138 = .ok (.aload_n 0, 1) := by decide +kernel
theorem dX12_init_139 : decode cX12_init 139 = .ok (.bipush 8, 2) := by decide +kernel
theorem dX12_init_141 : decode cX12_init 141 = .ok (.newarray .int, 2) := by decide +kernel
theorem dX12_init_143 : decode cX12_init 143 = .ok (.putfield 63, 3) := by decide +kernel
theorem dX12_init_146 : decode cX12_init 146 = .ok (.aload_n 0, 1) := by decide +kernel
theorem dX12_init_147 : decode cX12_init 147 = .ok (.bipush 40, 2) := by decide +kernel
theorem dX12_init_149 : decode cX12_init 149 = .ok (.newarray .int, 2) := by decide +kernel
theorem dX12_init_151 : decode cX12_init 151 = .ok (.putfield 66, 3) := by decide +kernel
theorem dX12_init_154 : decode cX12_init 154 = .ok (.aload_n 0, 1) := by decide +kernel
theorem dX12_init_155 : decode cX12_init 155 = .ok (.bipush 64, 2) := by decide +kernel
theorem dX12_init_157 : decode cX12_init 157 = .ok (.newarray .int, 2) := by decide +kernel
theorem dX12_init_159 : decode cX12_init 159 = .ok (.putfield 69, 3) := by decide +kernel
theorem dX12_init_162 : decode cX12_init 162 = .ok (.aload_n 0, 1) := by decide +kernel
theorem dX12_init_163 : decode cX12_init 163 = .ok (.bipush 12, 2) := by decide +kernel
theorem dX12_init_165 : decode cX12_init 165 = .ok (.newarray .int, 2) := by decide +kernel
theorem dX12_init_167 : decode cX12_init 167 = .ok (.putfield 72, 3) := by decide +kernel
theorem dX12_init_170 : decode cX12_init 170 = .ok (.aload_n 0, 1) := by decide +kernel
theorem dX12_init_171 : decode cX12_init 171 = .ok (.bipush 12, 2) := by decide +kernel
theorem dX12_init_173 : decode cX12_init 173 = .ok (.newarray .int, 2) := by decide +kernel
theorem dX12_init_175 : decode cX12_init 175 = .ok (.putfield 75, 3) := by decide +kernel
theorem dX12_init_178 : decode cX12_init 178 = .ok (.aload_n 0, 1) := by decide +kernel
theorem dX12_init_179 : decode cX12_init 179 = .ok (.bipush 12, 2) := by decide +kernel
theorem dX12_init_181 : decode cX12_init 181 = .ok (.newarray .int, 2) := by decide +kernel
theorem dX12_init_183 : decode cX12_init 183 = .ok (.putfield 78, 3) := by decide +kernel
theorem dX12_init_186 : decode cX12_init 186 = .ok (.aload_n 0, 1) := by decide +kernel
theorem dX12_init_187 : decode cX12_init 187 = .ok (.bipush 7, 2) := by decide +kernel
theorem dX12_init_189 : decode cX12_init 189 = .ok (.newarray .int, 2) := by decide +kernel
theorem dX12_init_191 : decode cX12_init 191 = .ok (.putfield 81, 3) := by decide +kernel
theorem dX12_init_194 : decode cX12_init 194 = .ok (.aload_n 0, 1) := by decide +kernel
theorem dX12_init_195 : decode cX12_init 195 = .ok (.bipush 7, 2) := by decide +kernel
theorem dX12_init_197 : decode cX12_init 197 = .ok (.newarray .int, 2) := by decide +kernel
theorem dX12_init_199 : decode cX12_init 199 = .ok (.putfield 84, 3) := by decide +kernel
theorem dX12_init_202 : decode cX12_init 202 = .ok (.aload_n 0, 1) := by decide +kernel
theorem dX12_init_203 : decode cX12_init 203 = .ok (.iconst 5, 1) := by decide +kernel
theorem dX12_init_204 : decode cX12_init 204 = .ok (.newarray .int, 2) := by decide +kernel
theorem dX12_init_206 : decode cX12_init 206 = .ok (.putfield 87, 3) := by decide +kernel
theorem dX12_init_209 : decode cX12_init 209 = .ok (.aload_n 0, 1) := by decide +kernel
theorem dX12_init_210 : decode cX12_init 210 = .ok (.bipush 40, 2) := by decide +kernel
theorem dX12_init_212 : decode cX12_init 212 = .ok (.newarray .int, 2) := by decide +kernel
theorem dX12_init_214 : decode cX12_init 214 = .ok (.putfield 90, 3) := by decide +kernel
theorem dX12_init_217 : decode cX12_init 217 = .ok (.aload_n 0, 1) := by decide +kernel
theorem dX12_init_218 : decode cX12_init 218 = .ok (.bipush 32, 2) := by decide +kernel
theorem dX12_init_220 : decode cX12_init 220 = .ok (.newarray .int, 2) := by decide +kernel
theorem dX12_init_222 : decode cX12_init 222 = .ok (.putfield 93, 3) := by decide +kernel
theorem dX12_init_225 : decode cX12_init 225 = .ok (.aload_n 0, 1) := by decide +kernel
theorem dX12_init_226 : decode cX12_init 226 = .ok (.bipush 64, 2) := by decide +kernel
theorem dX12_init_228 : decode cX12_init 228 = .ok (.newarray .int, 2) := by decide +kernel
theorem dX12_init_230 : decode cX12_init 230 = .ok (.putfield 96, 3) := by decide +kernel
theorem dX12_init_233 : decode cX12_init 233 = .ok (.aload_n 0, 1) := by decide +kernel
theorem dX12_init_234 : decode cX12_init 234 = .ok (.bipush 7, 2) := by decide +kernel
theorem dX12_init_236 : decode cX12_init 236 = .ok (.newarray .int, 2) := by decide +kernel
theorem dX12_init_238 : decode cX12_init 238 = .ok (.putfield 99, 3) := by decide +kernel
theorem dX12_init_241 : decode cX12_init 241 = .ok (.aload_n 0, 1) := by decide +kernel
theorem dX12_init_242 : decode cX12_init 242 = .ok (.bipush 7, 2) := by decide +kernel
theorem dX12_init_244 : decode cX12_init 244 = .ok (.newarray .int, 2) := by decide +kernel
theorem dX12_init_246 : decode cX12_init 246 = .ok (.putfield 102, 3) := by decide +kernel
theorem dX12_init_249 : decode cX12_init 249 = .ok (.aload_n 0, 1) := by decide +kernel
theorem dX12_init_250 : decode cX12_init 250 = .ok (.sipush 576, 3) := by decide +kernel
theorem dX12_init_253 : decode cX12_init 253 = .ok (.newarray .boolean, 2) := by decide +kernel
theorem dX12_init_255 : decode cX12_init 255 = .ok (.putfield 105, 3) := by decide +kernel
theorem dX12_init_258 : decode cX12_init 258 = .ok (.aload_n 0, 1) := by decide +kernel
theorem dX12_init_259 : decode cX12_init 259 = .ok (.sipush 721, 3) := by decide +kernel
theorem dX12_init_262 : decode cX12_init 262 = .ok (.newarray .int, 2) := by decide +kernel
theorem dX12_init_264 : decode cX12_init 264 = .ok (.putfield 109, 3) := by decide +kernel
theorem dX12_init_267 : decode cX12_init 267 = .ok (.aload_n 0, 1) := by decide +kernel
theorem dX12_init_268 : decode cX12_init 268 = .ok (.bipush 73, 2) := by decide +kernel
theorem dX12_init_270 : decode cX12_init 270 = .ok (.newarray .int, 2) := by decide +kernel
theorem dX12_init_272 : decode cX12_init 272 = .ok (.putfield 112, 3) := by decide +kernel
theorem dX12_init_275 : decode cX12_init 275 = .ok (.aload_n 0, 1) := by decide +kernel
theorem dX12_init_276 : decode cX12_init 276 = .ok (.bipush 30, 2) := by decide +kernel
theorem dX12_init_278 : decode cX12_init 278 = .ok (.newarray .int, 2) := by decide +kernel
theorem dX12_init_280 : decode cX12_init 280 = .ok (.putfield 115, 3) := by decide +kernel
theorem dX12_init_283 : decode cX12_init 283 = .ok (.aload_n 0, 1) := by decide +kernel
theorem dX12_init_284 : decode cX12_init 284 = .ok (.bipush 30, 2) := by decide +kernel
theorem dX12_init_286 : decode cX12_init 286 = .ok (.newarray .int, 2) := by decide +kernel
theorem dX12_init_288 : decode cX12_init 288 = .ok (.putfield 118, 3) := by decide +kernel
theorem dX12_init_291 : decode cX12_init 291 = .ok (.aload_n 0, 1) := by decide +kernel
theorem dX12_init_292 : decode cX12_init 292 = .ok (.bipush 30, 2) := by decide +kernel
theorem dX12_init_294 : decode cX12_init 294 = .ok (.newarray .int, 2) := by decide +kernel
theorem dX12_init_296 : decode cX12_init 296 = .ok (.putfield 121, 3) := by decide +kernel
theorem dX12_init_299 : decode cX12_init 299 = .ok (.aload_n 0, 1) := by decide +kernel
theorem dX12_init_300 : decode cX12_init 300 = .ok (.bipush 30, 2) := by decide +kernel
theorem dX12_init_302 : decode cX12_init 302 = .ok (.newarray .int, 2) := by decide +kernel
theorem dX12_init_304 : decode cX12_init 304 = .ok (.putfield 124, 3) := by decide +kernel
theorem dX12_init_307 : decode cX12_init 307 = .ok (.aload_n 0, 1) := by decide +kernel
theorem dX12_init_308 : decode cX12_init 308 = .ok (.bipush 30, 2) := by decide +kernel
theorem dX12_init_310 : decode cX12_init 310 = .ok (.newarray .int, 2) := by decide +kernel
theorem dX12_init_312 : decode cX12_init 312 = .ok (.putfield 127, 3) := by decide +kernel
theorem dX12_init_315 : decode cX12_init 315 = .ok (.aload_n 0, 1) := by decide +kernel
theorem dX12_init_316 : decode cX12_init 316 = .ok (.bipush 30, 2) := by decide +kernel
theorem dX12_init_318 : decode cX12_init 318 = .ok (.newarray .int, 2) := by decide +kernel
theorem dX12_init_320 : decode cX12_init 320 = .ok (.putfield 130, 3) := by decide +kernel
theorem dX12_init_323 : decode cX12_init 323 = .ok (.aload_n 0, 1) := by decide +kernel
theorem dX12_init_324 : decode cX12_init 324 = .ok (.bipush 30, 2) := by decide +kernel
theorem dX12_init_326 : decode cX12_init 326 = .ok (.newarray .int, 2) := by decide +kernel
theorem dX12_init_328 : decode cX12_init 328 = .ok (.putfield 133, 3) := by decide +kernel
theorem dX12_init_331 : decode cX12_init 331 = .ok (.aload_n 0, 1) := by decide +kernel
theorem dX12_init_332 : decode cX12_init 332 = .ok (.bipush 7, 2) := by decide +kernel
theorem dX12_init_334 : decode cX12_init 334 = .ok (.newarray .int, 2) := by decide +kernel
theorem dX12_init_336 : decode cX12_init 336 = .ok (.putfield 136, 3) := by decide +kernel
theorem dX12_init_339 : decode cX12_init 339 = .ok (.aload_n 0, 1) := by decide +kernel
theorem dX12_init_340 : decode cX12_init 340 = .ok (.iconst 3, 1) := by decide +kernel
theorem dX12_init_341 : decode cX12_init 341 = .ok (.newarray .boolean, 2) := by decide +kernel
theorem dX12_init_343 : decode cX12_init 343 = .ok (.putfield 139, 3) := by decide +kernel
theorem dX12_init_346 : decode cX12_init 346 = .ok (.aload_n 0, 1) := by decide +kernel
theorem dX12_init_347 : decode cX12_init 347 = .ok (.bipush 120, 2) := by decide +kernel
theorem dX12_init_349 : decode cX12_init 349 = .ok (.newarray .int, 2) := by decide +kernel
theorem dX12_init_351 : decode cX12_init 351 = .ok (.putfield 142, 3) := by decide +kernel
theorem dX12_init_354 : decode cX12_init 354 = .ok (.aload_n 0, 1) := by decide +kernel
theorem dX12_init_355 : decode cX12_init 355 = .ok (.bipush 96, 2) := by decide +kernel
theorem dX12_init_357 : decode cX12_init 357 = .ok (.newarray .int, 2) := by decide +kernel
theorem dX12_init_359 : decode cX12_init 359 = .ok (.putfield 145, 3) := by decide +kernel
theorem dX12_init_362 : decode cX12_init 362 = .ok (.aload_n 0, 1) := by decide +kernel
theorem dX12_init_363 : decode cX12_init 363 = .ok (.bipush 9, 2) := by decide +kernel
theorem dX12_init_365 : decode cX12_init 365 = .ok (.newarray .int, 2) := by decide +kernel
theorem dX12_init_367 : decode cX12_init 367 = .ok (.putfield 148, 3) := by decide +kernel
theorem dX12_init_370 : decode cX12_init 370 = .ok (.aload_n 0, 1) := by decide +kernel
theorem dX12_init_371 : decode cX12_init 371 = .ok (.sipush 999, 3) := by decide +kernel
theorem dX12_init_374 : decode cX12_init 374 = .ok (.putfield 151, 3) := by decide +kernel
theorem dX12_init_377 : decode cX12_init 377 = .ok (.aload_n 0, 1) := by decide +kernel
theorem dX12_init_378 : decode cX12_init 378 = .ok (.iconst (-1), 1) := by decide +kernel
theorem dX12_init_379 : decode cX12_init 379 = .ok (.putfield 154, 3) := by decide +kernel
theorem dX12_init_382 : decode cX12_init 382 = .ok (.return_, 1) := by decide +kernel
theorem dX12_feed_0 : decode cX12_feed 0 = .ok (.aload_n 0, 1) := by decide +kernel
theorem dX12_feed_1 : decode cX12_feed 1 = .ok (.getfield 157, 3) := by decide +kernel
theorem dX12_feed_4 : decode cX12_feed 4 = .ok (.bipush 20, 2) := by decide +kernel
theorem dX12_feed_6 : decode cX12_feed 6 = .ok (.iadd, 1) := by decide +kernel
theorem dX12_feed_7 : decode cX12_feed 7 = .ok (.sipush 1700, 3) := by decide +kernel
theorem dX12_feed_10 : decode cX12_feed 10 = .ok (.if_icmp .le 5, 3) := by decide +kernel
theorem dX12_feed_13 : decode cX12_feed 13 = .ok (.iconst (-1), 1) := by decide +kernel
theorem dX12_feed_14 : decode cX12_feed 14 = .ok (.ireturn, 1) := by decide +kernel
theorem dX12_feed_15 : decode cX12_feed 15 = .ok (.aload_n 0, 1) := by decide +kernel
theorem dX12_feed_16 : decode cX12_feed 16 = .ok (.iload_n 1, 1) := by decide +kernel
theorem dX12_feed_17 : decode cX12_feed 17 = .ok (.invokevirtual 160, 3) := by decide +kernel
theorem dX12_feed_20 : decode cX12_feed 20 = .ok (.aload_n 0, 1) := by decide +kernel
theorem dX12_feed_21 : decode cX12_feed 21 = .ok (.iload_n 2, 1) := by decide +kernel
theorem dX12_feed_22 : decode cX12_feed 22 = .ok (.invokevirtual 160, 3) := by decide +kernel
theorem dX12_feed_25 : decode cX12_feed 25 = .ok (.aload_n 0, 1) := by decide +kernel
theorem dX12_feed_26 : decode cX12_feed 26 = .ok (.iload_n 3, 1) := by decide +kernel
theorem dX12_feed_27 : decode cX12_feed 27 = .ok (.invokevirtual 160, 3) := by decide +kernel
theorem dX12_feed_30 : decode cX12_feed 30 = .ok (.aload_n 0, 1) := by decide +kernel
theorem dX12_feed_31 : decode cX12_feed 31 = .ok (.iload 4, 2) := by decide +kernel
theorem dX12_feed_33 : decode cX12_feed 33 = .ok (.invokevirtual 160, 3) := by decide +kernel
theorem dX12_feed_36 : decode cX12_feed 36 = .ok (.aload_n 0, 1) := by decide +kernel
theorem dX12_feed_37 : decode cX12_feed 37 = .ok (.iload 5, 2) := by decide +kernel
theorem dX12_feed_39 : decode cX12_feed 39 = .ok (.invokevirtual 160, 3) := by decide +kernel
theorem dX12_feed_42 : decode cX12_feed 42 = .ok (.aload_n 0, 1) := by decide +kernel
theorem dX12_feed_43 : decode cX12_feed 43 = .ok (.getfield 157, 3) := by decide +kernel
theorem dX12_feed_46 : decode cX12_feed 46 = .ok (.ireturn, 1) := by decide +kernel
theorem dX12_four_0 : decode cX12_four 0 = .ok (.bipush 24, 2) := by decide +kernel
theorem dX12_four_2 : decode cX12_four 2 = .ok (.istore_n 2, 1) := by decide +kernel
theorem dX12_four_3 : decode cX12_four 3 = .ok (.iload_n 2, 1) := by decide +kernel
theorem dX12_four_4 : decode cX12_four 4 = .ok (.ifCond .lt 35, 3) := by decide +kernel
theorem dX12_four_7 : decode cX12_four 7 = .ok (.aload_n 0, 1) := by decide +kernel
theorem dX12_four_8 : decode cX12_four 8 = .ok (.getfield 7, 3) := by decide +kernel
theorem dX12_four_11 : decode cX12_four 11 = .ok (.aload_n 0, 1) := by decide +kernel
theorem dX12_four_12 : decode cX12_four 12 = .ok (.getfield 157, 3) := by decide +kernel
theorem dX12_four_15 : decode cX12_four 15 = .ok (.iload_n 1, 1) := by decide +kernel
theorem dX12_four_16 : decode cX12_four 16 = .ok (.iload_n 2, 1) := by decide +kernel
theorem dX12_four_17 : decode cX12_four 17 = .ok (.ishr, 1) := by decide +kernel
theorem dX12_four_18 : decode cX12_four 18 = .ok (.sipush 255, 3) := by decide +kernel
theorem dX12_four_21 : decode cX12_four 21 = .ok (.iand, 1) := by decide +kernel
theorem dX12_four_22 : decode cX12_four 22 = .ok (.iastore, 1) := by decide +kernel
theorem dX12_four_23 : decode cX12_four 23 = .ok (.aload_n 0, 1) := by decide +kernel
theorem dX12_four_24 : decode cX12_four 24 = .ok (.dup, 1) := by decide +kernel
theorem dX12_four_25 : decode cX12_four 25 = .ok (.getfield 157, 3) := by decide +kernel
theorem dX12_four_28 : decode cX12_four 28 = .ok (.iconst 1, 1) := by decide +kernel
theorem dX12_four_29 : decode cX12_four 29 = .ok (.iadd, 1) := by decide +kernel
theorem dX12_four_30 : decode cX12_four 30 = .ok (.putfield 157, 3) := by decide +kernel
theorem dX12_four_33 : decode cX12_four 33 = .ok (.iinc 2 (-8), 3) := by decide +kernel
theorem dX12_four_36 : decode cX12_four 36 = .ok (.goto (-33), 3) := by decide +kernel
theorem dX12_four_39 : decode cX12_four 39 = .ok (.return_, 1) := by decide +kernel
theorem dX12_end_0 : decode cX12_end 0 = .ok (.iload_n 1, 1) := by decide +kernel
theorem dX12_end_1 : decode cX12_end 1 = .ok (.ifCond .lt 11, 3) := by decide +kernel
theorem dX12_end_4 : decode cX12_end 4 = .ok (.iload_n 1, 1) := by decide +kernel
theorem dX12_end_5 : decode cX12_end 5 = .ok (.aload_n 0, 1) := by decide +kernel
theorem dX12_end_6 : decode cX12_end 6 = .ok (.getfield 157, 3) := by decide +kernel
theorem dX12_end_9 : decode cX12_end 9 = .ok (.if_icmp .le 5, 3) := by decide +kernel
theorem dX12_end_12 : decode cX12_end 12 = .ok (.iconst (-1), 1) := by decide +kernel
theorem dX12_end_13 : decode cX12_end 13 = .ok (.ireturn, 1) := by decide +kernel
theorem dX12_end_14 : decode cX12_end 14 = .ok (.aload_n 0, 1) := by decide +kernel
theorem dX12_end_15 : decode cX12_end 15 = .ok (.iload_n 1, 1) := by decide +kernel
theorem dX12_end_16 : decode cX12_end 16 = .ok (.putfield 157, 3) := by decide +kernel
theorem dX12_end_19 : decode cX12_end 19 = .ok (.iload_n 1, 1) := by decide +kernel
theorem dX12_end_20 : decode cX12_end 20 = .ok (.ireturn, 1) := by decide +kernel
theorem dX12_here_0 : decode cX12_here 0 = .ok (.aload_n 0, 1) := by decide +kernel
theorem dX12_here_1 : decode cX12_here 1 = .ok (.getfield 164, 3) := by decide +kernel
theorem dX12_here_4 : decode cX12_here 4 = .ok (.iload_n 1, 1) := by decide +kernel
theorem dX12_here_5 : decode cX12_here 5 = .ok (.iadd, 1) := by decide +kernel
theorem dX12_here_6 : decode cX12_here 6 = .ok (.aload_n 0, 1) := by decide +kernel
theorem dX12_here_7 : decode cX12_here 7 = .ok (.getfield 167, 3) := by decide +kernel
theorem dX12_here_10 : decode cX12_here 10 = .ok (.if_icmp .ge 17, 3) := by decide +kernel
theorem dX12_here_13 : decode cX12_here 13 = .ok (.aload_n 0, 1) := by decide +kernel
theorem dX12_here_14 : decode cX12_here 14 = .ok (.getfield 7, 3) := by decide +kernel
theorem dX12_here_17 : decode cX12_here 17 = .ok (.aload_n 0, 1) := by decide +kernel
theorem dX12_here_18 : decode cX12_here 18 = .ok (.getfield 164, 3) := by decide +kernel
theorem dX12_here_21 : decode cX12_here 21 = .ok (.iload_n 1, 1) := by decide +kernel
theorem dX12_here_22 : decode cX12_here 22 = .ok (.iadd, 1) := by decide +kernel
theorem dX12_here_23 : decode cX12_here 23 = .ok (.iaload, 1) := by decide +kernel
theorem dX12_here_24 : decode cX12_here 24 = .ok (.goto 4, 3) := by decide +kernel
theorem dX12_here_27 : decode cX12_here 27 = .ok (.iconst (-1), 1) := by decide +kernel
theorem dX12_here_28 : decode cX12_here 28 = .ok (.ireturn, 1) := by decide +kernel
theorem dX12_isLetter_0 : decode cX12_isLetter 0 = .ok (.iload_n 0, 1) := by decide +kernel
theorem dX12_isLetter_1 : decode cX12_isLetter 1 = .ok (.bipush 97, 2) := by decide +kernel
theorem dX12_isLetter_3 : decode cX12_isLetter 3 = .ok (.if_icmp .lt 13, 3) := by decide +kernel
theorem dX12_isLetter_6 : decode cX12_isLetter 6 = .ok (.iload_n 0, 1) := by decide +kernel
theorem dX12_isLetter_7 : decode cX12_isLetter 7 = .ok (.bipush 122, 2) := by decide +kernel
theorem dX12_isLetter_9 : decode cX12_isLetter 9 = .ok (.if_icmp .gt 7, 3) := by decide +kernel
theorem dX12_isLetter_12 : decode cX12_isLetter 12 = .ok (.iconst 1, 1) := by decide +kernel
theorem dX12_isLetter_13 : decode cX12_isLetter 13 = .ok (.goto 4, 3) := by decide +kernel
theorem dX12_isLetter_16 : decode cX12_isLetter 16 = .ok (.iconst 0, 1) := by decide +kernel
theorem dX12_isLetter_17 : decode cX12_isLetter 17 = .ok (.ireturn, 1) := by decide +kernel
theorem dX12_isDigit_0 : decode cX12_isDigit 0 = .ok (.iload_n 0, 1) := by decide +kernel
theorem dX12_isDigit_1 : decode cX12_isDigit 1 = .ok (.bipush 48, 2) := by decide +kernel
theorem dX12_isDigit_3 : decode cX12_isDigit 3 = .ok (.if_icmp .lt 13, 3) := by decide +kernel
theorem dX12_isDigit_6 : decode cX12_isDigit 6 = .ok (.iload_n 0, 1) := by decide +kernel
theorem dX12_isDigit_7 : decode cX12_isDigit 7 = .ok (.bipush 57, 2) := by decide +kernel
theorem dX12_isDigit_9 : decode cX12_isDigit 9 = .ok (.if_icmp .gt 7, 3) := by decide +kernel
theorem dX12_isDigit_12 : decode cX12_isDigit 12 = .ok (.iconst 1, 1) := by decide +kernel
theorem dX12_isDigit_13 : decode cX12_isDigit 13 = .ok (.goto 4, 3) := by decide +kernel
theorem dX12_isDigit_16 : decode cX12_isDigit 16 = .ok (.iconst 0, 1) := by decide +kernel
theorem dX12_isDigit_17 : decode cX12_isDigit 17 = .ok (.ireturn, 1) := by decide +kernel
theorem dX12_token_0 : decode cX12_token 0 = .ok (.aload_n 0, 1) := by decide +kernel
theorem dX12_token_1 : decode cX12_token 1 = .ok (.iconst 0, 1) := by decide +kernel
theorem dX12_token_2 : decode cX12_token 2 = .ok (.invokevirtual 170, 3) := by decide +kernel
theorem dX12_token_5 : decode cX12_token 5 = .ok (.bipush 32, 2) := by decide +kernel
theorem dX12_token_7 : decode cX12_token 7 = .ok (.if_icmp .eq 13, 3) := by decide +kernel
theorem dX12_token_10 : decode cX12_token 10 = .ok (.aload_n 0, 1) := by decide +kernel
theorem dX12_token_11 : decode cX12_token 11 = .ok (.iconst 0, 1) := by decide +kernel
theorem dX12_token_12 : decode cX12_token 12 = .ok (.invokevirtual 170, 3) := by decide +kernel
theorem dX12_token_15 : decode cX12_token 15 = .ok (.bipush 10, 2) := by decide +kernel
theorem dX12_token_17 : decode cX12_token 17 = .ok (.if_icmp .ne 16, 3) := by decide +kernel
theorem dX12_token_20 : decode cX12_token 20 = .ok (.aload_n 0, 1) := by decide +kernel
theorem dX12_token_21 : decode cX12_token 21 = .ok (.dup, 1) := by decide +kernel
theorem dX12_token_22 : decode cX12_token 22 = .ok (.getfield 164, 3) := by decide +kernel
theorem dX12_token_25 : decode cX12_token 25 = .ok (.iconst 1, 1) := by decide +kernel
theorem dX12_token_26 : decode cX12_token 26 = .ok (.iadd, 1) := by decide +kernel
theorem dX12_token_27 : decode cX12_token 27 = .ok (.putfield 164, 3) := by decide +kernel
theorem dX12_token_30 : decode cX12_token 30 = .ok (.goto (-30), 3) := by decide +kernel
theorem dX12_token_33 : decode cX12_token 33 = .ok (.aload_n 0, 1) := by decide +kernel
theorem dX12_token_34 : decode cX12_token 34 = .ok (.aload_n 0, 1) := by decide +kernel
theorem dX12_token_35 : decode cX12_token 35 = .ok (.getfield 164, 3) := by decide +kernel
theorem dX12_token_38 : decode cX12_token 38 = .ok (.putfield 174, 3) := by decide +kernel
theorem dX12_token_41 : decode cX12_token 41 = .ok (.aload_n 0, 1) := by decide +kernel
theorem dX12_token_42 : decode cX12_token 42 = .ok (.iconst 0, 1) := by decide +kernel
theorem dX12_token_43 : decode cX12_token 43 = .ok (.invokevirtual 170, 3) := by decide +kernel
theorem dX12_token_46 : decode cX12_token 46 = .ok (.istore_n 1, 1) := by decide +kernel
theorem dX12_token_47 : decode cX12_token 47 = .ok (.iconst 0, 1) := by decide +kernel
theorem dX12_token_48 : decode cX12_token 48 = .ok (.istore_n 2, 1) := by decide +kernel
theorem dX12_token_49 : decode cX12_token 49 = .ok (.aload_n 0, 1) := by decide +kernel
theorem dX12_token_50 : decode cX12_token 50 = .ok (.lconst 0, 1) := by decide +kernel
theorem dX12_token_51 : decode cX12_token 51 = .ok (.putfield 177, 3) := by decide +kernel
theorem dX12_token_54 : decode cX12_token 54 = .ok (.aload_n 0, 1) := by decide +kernel
theorem dX12_token_55 : decode cX12_token 55 = .ok (.iconst 0, 1) := by decide +kernel
theorem dX12_token_56 : decode cX12_token 56 = .ok (.putfield 181, 3) := by decide +kernel
theorem dX12_token_59 : decode cX12_token 59 = .ok (.iload_n 1, 1) := by decide +kernel
theorem dX12_token_60 : decode cX12_token 60 = .ok (.ifCond .ge 11, 3) := by decide +kernel
theorem dX12_token_63 : decode cX12_token 63 = .ok (.aload_n 0, 1) := by decide +kernel
theorem dX12_token_64 : decode cX12_token 64 = .ok (.iconst 0, 1) := by decide +kernel
theorem dX12_token_65 : decode cX12_token 65 = .ok (.putfield 184, 3) := by decide +kernel
theorem dX12_token_68 : decode cX12_token 68 = .ok (.goto 169, 3) := by decide +kernel
theorem dX12_token_71 : decode cX12_token 71 = .ok (.iload_n 1, 1) := by decide +kernel
theorem dX12_token_72 : decode cX12_token 72 = .ok (.invokestatic 187, 3) := by decide +kernel
theorem dX12_token_75 : decode cX12_token 75 = .ok (.ifCond .eq 62, 3) := by decide +kernel
theorem dX12_token_78 : decode cX12_token 78 = .ok (.aload_n 0, 1) := by decide +kernel
theorem dX12_token_79 : decode cX12_token 79 = .ok (.iload_n 2, 1) := by decide +kernel
theorem dX12_token_80 : decode cX12_token 80 = .ok (.invokevirtual 170, 3) := by decide +kernel
theorem dX12_token_83 : decode cX12_token 83 = .ok (.invokestatic 187, 3) := by decide +kernel
theorem dX12_token_86 : decode cX12_token 86 = .ok (.ifCond .eq 33, 3) := by decide +kernel
theorem dX12_token_89 : decode cX12_token 89 = .ok (.iload_n 2, 1) := by decide +kernel
theorem dX12_token_90 : decode cX12_token 90 = .ok (.bipush 8, 2) := by decide +kernel
theorem dX12_token_92 : decode cX12_token 92 = .ok (.if_icmp .ge 21, 3) := by decide +kernel
theorem dX12_token_95 : decode cX12_token 95 = .ok (.aload_n 0, 1) := by decide +kernel
theorem dX12_token_96 : decode cX12_token 96 = .ok (.aload_n 0, 1) := by decide +kernel
theorem dX12_token_97 : decode cX12_token 97 = .ok (.getfield 177, 3) := by decide +kernel
theorem dX12_token_100 : decode cX12_token 100 = .ok (.bipush 8, 2) := by decide +kernel
theorem dX12_token_102 : decode cX12_token 102 = .ok (.lshl, 1) := by decide +kernel
theorem dX12_token_103 : decode cX12_token 103 = .ok (.aload_n 0, 1) := by decide +kernel
theorem dX12_token_104 : decode cX12_token 104 = .ok (.iload_n 2, 1) := by decide +kernel
theorem dX12_token_105 : decode cX12_token 105 = .ok (.invokevirtual 170, 3) := by decide +kernel
theorem dX12_token_108 : decode cX12_token 108 = .ok (.i2l, 1) := by decide +kernel
theorem dX12_token_109 : decode cX12_token 109 = .ok (.lor, 1) := by decide +kernel
theorem dX12_token_110 : decode cX12_token 110 = .ok (.putfield 177, 3) := by decide +kernel
theorem dX12_token_113 : decode cX12_token 113 = .ok (.iinc 2 1, 3) := by decide +kernel
theorem dX12_token_116 : decode cX12_token 116 = .ok (.goto (-38), 3) := by decide +kernel
theorem dX12_token_119 : decode cX12_token 119 = .ok (.aload_n 0, 1) := by decide +kernel
theorem dX12_token_120 : decode cX12_token 120 = .ok (.iload_n 2, 1) := by decide +kernel
theorem dX12_token_121 : decode cX12_token 121 = .ok (.bipush 8, 2) := by decide +kernel
theorem dX12_token_123 : decode cX12_token 123 = .ok (.if_icmp .le 7, 3) := by decide +kernel
theorem dX12_token_126 : decode cX12_token 126 = .ok (.iconst 3, 1) := by decide +kernel
theorem dX12_token_127 : decode cX12_token 127 = .ok (.goto 4, 3) := by decide +kernel
theorem dX12_token_130 : decode cX12_token 130 = .ok (.iconst 1, 1) := by decide +kernel
theorem dX12_token_131 : decode cX12_token 131 = .ok (.putfield 184, 3) := by decide +kernel
theorem dX12_token_134 : decode cX12_token 134 = .ok (.goto 103, 3) := by decide +kernel
theorem dX12_token_137 : decode cX12_token 137 = .ok (.iload_n 1, 1) := by decide +kernel
theorem dX12_token_138 : decode cX12_token 138 = .ok (.invokestatic 191, 3) := by decide +kernel
theorem dX12_token_141 : decode cX12_token 141 = .ok (.ifCond .eq 73, 3) := by decide +kernel
theorem dX12_token_144 : decode cX12_token 144 = .ok (.aload_n 0, 1) := by decide +kernel
theorem dX12_token_145 : decode cX12_token 145 = .ok (.iload_n 2, 1) := by decide +kernel
theorem dX12_token_146 : decode cX12_token 146 = .ok (.invokevirtual 170, 3) := by decide +kernel
theorem dX12_token_149 : decode cX12_token 149 = .ok (.invokestatic 191, 3) := by decide +kernel
theorem dX12_token_152 : decode cX12_token 152 = .ok (.ifCond .eq 34, 3) := by decide +kernel
theorem dX12_token_155 : decode cX12_token 155 = .ok (.iload_n 2, 1) := by decide +kernel
theorem dX12_token_156 : decode cX12_token 156 = .ok (.iconst 4, 1) := by decide +kernel
theorem dX12_token_157 : decode cX12_token 157 = .ok (.if_icmp .ge 23, 3) := by decide +kernel
theorem dX12_token_160 : decode cX12_token 160 = .ok (.aload_n 0, 1) := by decide +kernel
theorem dX12_token_161 : decode cX12_token 161 = .ok (.bipush 10, 2) := by decide +kernel
theorem dX12_token_163 : decode cX12_token 163 = .ok (.aload_n 0, 1) := by decide +kernel
theorem dX12_token_164 : decode cX12_token 164 = .ok (.getfield 181, 3) := by decide +kernel
theorem dX12_token_167 : decode cX12_token 167 = .ok (.imul, 1) := by decide +kernel
theorem dX12_token_168 : decode cX12_token 168 = .ok (.aload_n 0, 1) := by decide +kernel
theorem dX12_token_169 : decode cX12_token 169 = .ok (.iload_n 2, 1) := by decide +kernel
theorem dX12_token_170 : decode cX12_token 170 = .ok (.invokevirtual 170, 3) := by decide +kernel
theorem dX12_token_173 : decode cX12_token 173 = .ok (.iadd, 1) := by decide +kernel
theorem dX12_token_174 : decode cX12_token 174 = .ok (.bipush 48, 2) := by decide +kernel
theorem dX12_token_176 : decode cX12_token 176 = .ok (.isub, 1) := by decide +kernel
theorem dX12_token_177 : decode cX12_token 177 = .ok (.putfield 181, 3) := by decide +kernel
theorem dX12_token_180 : decode cX12_token 180 = .ok (.iinc 2 1, 3) := by decide +kernel
theorem dX12_token_183 : decode cX12_token 183 = .ok (.goto (-39), 3) := by decide +kernel
theorem dX12_token_186 : decode cX12_token 186 = .ok (.aload_n 0, 1) := by decide +kernel
theorem dX12_token_187 : decode cX12_token 187 = .ok (.iload_n 2, 1) := by decide +kernel
theorem dX12_token_188 : decode cX12_token 188 = .ok (.iconst 4, 1) := by decide +kernel
theorem dX12_token_189 : decode cX12_token 189 = .ok (.if_icmp .gt 14, 3) := by decide +kernel
theorem dX12_token_192 : decode cX12_token 192 = .ok (.aload_n 0, 1) := by decide +kernel
theorem dX12_token_193 : decode cX12_token 193 = .ok (.iload_n 2, 1) := by decide +kernel
theorem dX12_token_194 : decode cX12_token 194 = .ok (.invokevirtual 170, 3) := by decide +kernel
theorem dX12_token_197 : decode cX12_token 197 = .ok (.invokestatic 187, 3) := by decide +kernel
theorem dX12_token_200 : decode cX12_token 200 = .ok (.ifCond .eq 7, 3) := by decide +kernel
theorem dX12_token_203 : decode cX12_token 203 = .ok (.iconst 3, 1) := by decide +kernel
theorem dX12_token_204 : decode cX12_token 204 = .ok (.goto 4, 3) := by decide +kernel
theorem dX12_token_207 : decode cX12_token 207 = .ok (.iconst 2, 1) := by decide +kernel
theorem dX12_token_208 : decode cX12_token 208 = .ok (.putfield 184, 3) := by decide +kernel
theorem dX12_token_211 : decode cX12_token 211 = .ok (.goto 26, 3) := by decide +kernel
theorem dX12_token_214 : decode cX12_token 214 = .ok (.iconst 1, 1) := by decide +kernel
theorem dX12_token_215 : decode cX12_token 215 = .ok (.istore_n 2, 1) := by decide +kernel
theorem dX12_token_216 : decode cX12_token 216 = .ok (.aload_n 0, 1) := by decide +kernel
theorem dX12_token_217 : decode cX12_token 217 = .ok (.iload_n 1, 1) := by decide +kernel
theorem dX12_token_218 : decode cX12_token 218 = .ok (.bipush 59, 2) := by decide +kernel
theorem dX12_token_220 : decode cX12_token 220 = .ok (.if_icmp .eq 9, 3) := by decide +kernel
theorem dX12_token_223 : decode cX12_token 223 = .ok (.iload_n 1, 1) := by decide +kernel
theorem dX12_token_224 : decode cX12_token 224 = .ok (.bipush 45, 2) := by decide +kernel
theorem dX12_token_226 : decode cX12_token 226 = .ok (.if_icmp .ne 7, 3) := by decide +kernel
theorem dX12_token_229 : decode cX12_token 229 = .ok (.iload_n 1, 1) := by decide +kernel
theorem dX12_token_230 : decode cX12_token 230 = .ok (.goto 4, 3) := by decide +kernel
theorem dX12_token_233 : decode cX12_token 233 = .ok (.iconst 3, 1) := by decide +kernel
theorem dX12_token_234 : decode cX12_token 234 = .ok (.putfield 184, 3) := by decide +kernel
theorem dX12_token_237 : decode cX12_token 237 = .ok (.aload_n 0, 1) := by decide +kernel
theorem dX12_token_238 : decode cX12_token 238 = .ok (.getfield 184, 3) := by decide +kernel
theorem dX12_token_241 : decode cX12_token 241 = .ok (.iconst 3, 1) := by decide +kernel
theorem dX12_token_242 : decode cX12_token 242 = .ok (.if_icmp .eq 13, 3) := by decide +kernel
theorem dX12_token_245 : decode cX12_token 245 = .ok (.aload_n 0, 1) := by decide +kernel
theorem dX12_token_246 : decode cX12_token 246 = .ok (.dup, 1) := by decide +kernel
theorem dX12_token_247 : decode cX12_token 247 = .ok (.getfield 164, 3) := by decide +kernel
theorem dX12_token_250 : decode cX12_token 250 = .ok (.iload_n 2, 1) := by decide +kernel
theorem dX12_token_251 : decode cX12_token 251 = .ok (.iadd, 1) := by decide +kernel
theorem dX12_token_252 : decode cX12_token 252 = .ok (.putfield 164, 3) := by decide +kernel
theorem dX12_token_255 : decode cX12_token 255 = .ok (.return_, 1) := by decide +kernel
theorem dX12_wrongAt_0 : decode cX12_wrongAt 0 = .ok (.aload_n 0, 1) := by decide +kernel
theorem dX12_wrongAt_1 : decode cX12_wrongAt 1 = .ok (.getfield 194, 3) := by decide +kernel
theorem dX12_wrongAt_4 : decode cX12_wrongAt 4 = .ok (.ifCond .le 4, 3) := by decide +kernel
theorem dX12_wrongAt_7 : decode cX12_wrongAt 7 = .ok (.return_, 1) := by decide +kernel
theorem dX12_wrongAt_8 : decode cX12_wrongAt 8 = .ok (.aload_n 0, 1) := by decide +kernel
theorem dX12_wrongAt_9 : decode cX12_wrongAt 9 = .ok (.aload_n 0, 1) := by decide +kernel
theorem dX12_wrongAt_10 : decode cX12_wrongAt 10 = .ok (.getfield 184, 3) := by decide +kernel
theorem dX12_wrongAt_13 : decode cX12_wrongAt 13 = .ok (.iconst 3, 1) := by decide +kernel
theorem dX12_wrongAt_14 : decode cX12_wrongAt 14 = .ok (.if_icmp .ne 15, 3) := by decide +kernel
theorem dX12_wrongAt_17 : decode cX12_wrongAt 17 = .ok (.iload_n 2, 1) := by decide +kernel
theorem dX12_wrongAt_18 : decode cX12_wrongAt 18 = .ok (.aload_n 0, 1) := by decide +kernel
theorem dX12_wrongAt_19 : decode cX12_wrongAt 19 = .ok (.getfield 174, 3) := by decide +kernel
theorem dX12_wrongAt_22 : decode cX12_wrongAt 22 = .ok (.if_icmp .ne 7, 3) := by decide +kernel
theorem dX12_wrongAt_25 : decode cX12_wrongAt 25 = .ok (.iconst 1, 1) := by decide +kernel
theorem dX12_wrongAt_26 : decode cX12_wrongAt 26 = .ok (.goto 4, 3) := by decide +kernel
theorem dX12_wrongAt_29 : decode cX12_wrongAt 29 = .ok (.iload_n 1, 1) := by decide +kernel
theorem dX12_wrongAt_30 : decode cX12_wrongAt 30 = .ok (.putfield 194, 3) := by decide +kernel
theorem dX12_wrongAt_33 : decode cX12_wrongAt 33 = .ok (.aload_n 0, 1) := by decide +kernel
theorem dX12_wrongAt_34 : decode cX12_wrongAt 34 = .ok (.iload_n 2, 1) := by decide +kernel
theorem dX12_wrongAt_35 : decode cX12_wrongAt 35 = .ok (.putfield 13, 3) := by decide +kernel
theorem dX12_wrongAt_38 : decode cX12_wrongAt 38 = .ok (.return_, 1) := by decide +kernel
theorem dX12_wrong_0 : decode cX12_wrong 0 = .ok (.aload_n 0, 1) := by decide +kernel
theorem dX12_wrong_1 : decode cX12_wrong 1 = .ok (.iload_n 1, 1) := by decide +kernel
theorem dX12_wrong_2 : decode cX12_wrong 2 = .ok (.aload_n 0, 1) := by decide +kernel
theorem dX12_wrong_3 : decode cX12_wrong 3 = .ok (.getfield 174, 3) := by decide +kernel
theorem dX12_wrong_6 : decode cX12_wrong 6 = .ok (.invokevirtual 197, 3) := by decide +kernel
theorem dX12_wrong_9 : decode cX12_wrong 9 = .ok (.return_, 1) := by decide +kernel
theorem dX12_isWord_0 : decode cX12_isWord 0 = .ok (.aload_n 0, 1) := by decide +kernel
theorem dX12_isWord_1 : decode cX12_isWord 1 = .ok (.getfield 184, 3) := by decide +kernel
theorem dX12_isWord_4 : decode cX12_isWord 4 = .ok (.iconst 1, 1) := by decide +kernel
theorem dX12_isWord_5 : decode cX12_isWord 5 = .ok (.if_icmp .ne 16, 3) := by decide +kernel
theorem dX12_isWord_8 : decode cX12_isWord 8 = .ok (.aload_n 0, 1) := by decide +kernel
theorem dX12_isWord_9 : decode cX12_isWord 9 = .ok (.getfield 177, 3) := by decide +kernel
theorem dX12_isWord_12 : decode cX12_isWord 12 = .ok (.lload_n 1, 1) := by decide +kernel
theorem dX12_isWord_13 : decode cX12_isWord 13 = .ok (.lcmp, 1) := by decide +kernel
theorem dX12_isWord_14 : decode cX12_isWord 14 = .ok (.ifCond .ne 7, 3) := by decide +kernel
theorem dX12_isWord_17 : decode cX12_isWord 17 = .ok (.iconst 1, 1) := by decide +kernel
theorem dX12_isWord_18 : decode cX12_isWord 18 = .ok (.goto 4, 3) := by decide +kernel
theorem dX12_isWord_21 : decode cX12_isWord 21 = .ok (.iconst 0, 1) := by decide +kernel
theorem dX12_isWord_22 : decode cX12_isWord 22 = .ok (.ireturn, 1) := by decide +kernel
theorem dX12_isName_0 : decode cX12_isName 0 = .ok (.aload_n 0, 1) := by decide +kernel
theorem dX12_isName_1 : decode cX12_isName 1 = .ok (.getfield 184, 3) := by decide +kernel
theorem dX12_isName_4 : decode cX12_isName 4 = .ok (.iconst 1, 1) := by decide +kernel
theorem dX12_isName_5 : decode cX12_isName 5 = .ok (.if_icmp .eq 5, 3) := by decide +kernel
theorem dX12_isName_8 : decode cX12_isName 8 = .ok (.iconst 0, 1) := by decide +kernel
theorem dX12_isName_9 : decode cX12_isName 9 = .ok (.ireturn, 1) := by decide +kernel
theorem dX12_isName_10 : decode cX12_isName 10 = .ok (.aload_n 0, 1) := by decide +kernel
theorem dX12_isName_11 : decode cX12_isName 11 = .ok (.getfield 177, 3) := by decide +kernel
theorem dX12_isName_14 : decode cX12_isName 14 = .ok (.ldc2_w 201, 3) := by decide +kernel
theorem dX12_isName_17 : decode cX12_isName 17 = .ok (.lcmp, 1) := by decide +kernel
theorem dX12_isName_18 : decode cX12_isName 18 = .ok (.ifCond .eq 102, 3) := by decide +kernel
theorem dX12_isName_21 : decode cX12_isName 21 = .ok (.aload_n 0, 1) := by decide +kernel
theorem dX12_isName_22 : decode cX12_isName 22 = .ok (.getfield 177, 3) := by decide +kernel
theorem dX12_isName_25 : decode cX12_isName 25 = .ok (.ldc2_w 203, 3) := by decide +kernel
theorem dX12_isName_28 : decode cX12_isName 28 = .ok (.lcmp, 1) := by decide +kernel
theorem dX12_isName_29 : decode cX12_isName 29 = .ok (.ifCond .eq 91, 3) := by decide +kernel
theorem dX12_isName_32 : decode cX12_isName 32 = .ok (.aload_n 0, 1) := by decide +kernel
theorem dX12_isName_33 : decode cX12_isName 33 = .ok (.getfield 177, 3) := by decide +kernel
theorem dX12_isName_36 : decode cX12_isName 36 = .ok (.ldc2_w 205, 3) := by decide +kernel
theorem dX12_isName_39 : decode cX12_isName 39 = .ok (.lcmp, 1) := by decide +kernel
theorem dX12_isName_40 : decode cX12_isName 40 = .ok (.ifCond .eq 80, 3) := by decide +kernel
theorem dX12_isName_43 : decode cX12_isName 43 = .ok (.aload_n 0, 1) := by decide +kernel
theorem dX12_isName_44 : decode cX12_isName 44 = .ok (.getfield 177, 3) := by decide +kernel
theorem dX12_isName_47 : decode cX12_isName 47 = .ok (.ldc2_w 207, 3) := by decide +kernel
theorem dX12_isName_50 : decode cX12_isName 50 = .ok (.lcmp, 1) := by decide +kernel
theorem dX12_isName_51 : decode cX12_isName 51 = .ok (.ifCond .eq 69, 3) := by decide +kernel
theorem dX12_isName_54 : decode cX12_isName 54 = .ok (.aload_n 0, 1) := by decide +kernel
theorem dX12_isName_55 : decode cX12_isName 55 = .ok (.getfield 177, 3) := by decide +kernel
theorem dX12_isName_58 : decode cX12_isName 58 = .ok (.ldc2_w 209, 3) := by decide +kernel
theorem dX12_isName_61 : decode cX12_isName 61 = .ok (.lcmp, 1) := by decide +kernel
theorem dX12_isName_62 : decode cX12_isName 62 = .ok (.ifCond .eq 58, 3) := by decide +kernel
theorem dX12_isName_65 : decode cX12_isName 65 = .ok (.aload_n 0, 1) := by decide +kernel
theorem dX12_isName_66 : decode cX12_isName 66 = .ok (.getfield 177, 3) := by decide +kernel
theorem dX12_isName_69 : decode cX12_isName 69 = .ok (.ldc2_w 211, 3) := by decide +kernel
theorem dX12_isName_72 : decode cX12_isName 72 = .ok (.lcmp, 1) := by decide +kernel
theorem dX12_isName_73 : decode cX12_isName 73 = .ok (.ifCond .eq 47, 3) := by decide +kernel
theorem dX12_isName_76 : decode cX12_isName 76 = .ok (.aload_n 0, 1) := by decide +kernel
theorem dX12_isName_77 : decode cX12_isName 77 = .ok (.getfield 177, 3) := by decide +kernel
theorem dX12_isName_80 : decode cX12_isName 80 = .ok (.ldc2_w 213, 3) := by decide +kernel
theorem dX12_isName_83 : decode cX12_isName 83 = .ok (.lcmp, 1) := by decide +kernel
theorem dX12_isName_84 : decode cX12_isName 84 = .ok (.ifCond .eq 36, 3) := by decide +kernel
theorem dX12_isName_87 : decode cX12_isName 87 = .ok (.aload_n 0, 1) := by decide +kernel
theorem dX12_isName_88 : decode cX12_isName 88 = .ok (.getfield 177, 3) := by decide +kernel
theorem dX12_isName_91 : decode cX12_isName 91 = .ok (.ldc2_w 215, 3) := by decide +kernel
theorem dX12_isName_94 : decode cX12_isName 94 = .ok (.lcmp, 1) := by decide +kernel
theorem dX12_isName_95 : decode cX12_isName 95 = .ok (.ifCond .eq 25, 3) := by decide +kernel
theorem dX12_isName_98 : decode cX12_isName 98 = .ok (.aload_n 0, 1) := by decide +kernel
theorem dX12_isName_99 : decode cX12_isName 99 = .ok (.getfield 177, 3) := by decide +kernel
theorem dX12_isName_102 : decode cX12_isName 102 = .ok (.ldc2_w 217, 3) := by decide +kernel
theorem dX12_isName_105 : decode cX12_isName 105 = .ok (.lcmp, 1) := by decide +kernel
theorem dX12_isName_106 : decode cX12_isName 106 = .ok (.ifCond .eq 14, 3) := by decide +kernel
theorem dX12_isName_109 : decode cX12_isName 109 = .ok (.aload_n 0, 1) := by decide +kernel
theorem dX12_isName_110 : decode cX12_isName 110 = .ok (.getfield 177, 3) := by decide +kernel
theorem dX12_isName_113 : decode cX12_isName 113 = .ok (.ldc2_w 219, 3) := by decide +kernel
theorem dX12_isName_116 : decode cX12_isName 116 = .ok (.lcmp, 1) := by decide +kernel
theorem dX12_isName_117 : decode cX12_isName 117 = .ok (.ifCond .ne 7, 3) := by decide +kernel
theorem dX12_isName_120 : decode cX12_isName 120 = .ok (.iconst 1, 1) := by decide +kernel
theorem dX12_isName_121 : decode cX12_isName 121 = .ok (.goto 4, 3) := by decide +kernel
theorem dX12_isName_124 : decode cX12_isName 124 = .ok (.iconst 0, 1) := by decide +kernel
theorem dX12_isName_125 : decode cX12_isName 125 = .ok (.istore_n 1, 1) := by decide +kernel
theorem dX12_isName_126 : decode cX12_isName 126 = .ok (.aload_n 0, 1) := by decide +kernel
theorem dX12_isName_127 : decode cX12_isName 127 = .ok (.getfield 177, 3) := by decide +kernel
theorem dX12_isName_130 : decode cX12_isName 130 = .ok (.ldc2_w 221, 3) := by decide +kernel
theorem dX12_isName_133 : decode cX12_isName 133 = .ok (.lcmp, 1) := by decide +kernel
theorem dX12_isName_134 : decode cX12_isName 134 = .ok (.ifCond .eq 102, 3) := by decide +kernel
theorem dX12_isName_137 : decode cX12_isName 137 = .ok (.aload_n 0, 1) := by decide +kernel
theorem dX12_isName_138 : decode cX12_isName 138 = .ok (.getfield 177, 3) := by decide +kernel
theorem dX12_isName_141 : decode cX12_isName 141 = .ok (.ldc2_w 223, 3) := by decide +kernel
theorem dX12_isName_144 : decode cX12_isName 144 = .ok (.lcmp, 1) := by decide +kernel
theorem dX12_isName_145 : decode cX12_isName 145 = .ok (.ifCond .eq 91, 3) := by decide +kernel
theorem dX12_isName_148 : decode cX12_isName 148 = .ok (.aload_n 0, 1) := by decide +kernel
theorem dX12_isName_149 : decode cX12_isName 149 = .ok (.getfield 177, 3) := by decide +kernel
theorem dX12_isName_152 : decode cX12_isName 152 = .ok (.ldc2_w 225, 3) := by decide +kernel
theorem dX12_isName_155 : decode cX12_isName 155 = .ok (.lcmp, 1) := by decide +kernel
theorem dX12_isName_156 : decode cX12_isName 156 = .ok (.ifCond .eq 80, 3) := by decide +kernel
theorem dX12_isName_159 : decode cX12_isName 159 = .ok (.aload_n 0, 1) := by decide +kernel
theorem dX12_isName_160 : decode cX12_isName 160 = .ok (.getfield 177, 3) := by decide +kernel
theorem dX12_isName_163 : decode cX12_isName 163 = .ok (.ldc2_w 227, 3) := by decide +kernel
theorem dX12_isName_166 : decode cX12_isName 166 = .ok (.lcmp, 1) := by decide +kernel
theorem dX12_isName_167 : decode cX12_isName 167 = .ok (.ifCond .eq 69, 3) := by decide +kernel
theorem dX12_isName_170 : decode cX12_isName 170 = .ok (.aload_n 0, 1) := by decide +kernel
theorem dX12_isName_171 : decode cX12_isName 171 = .ok (.getfield 177, 3) := by decide +kernel
theorem dX12_isName_174 : decode cX12_isName 174 = .ok (.ldc2_w 229, 3) := by decide +kernel
theorem dX12_isName_177 : decode cX12_isName 177 = .ok (.lcmp, 1) := by decide +kernel
theorem dX12_isName_178 : decode cX12_isName 178 = .ok (.ifCond .eq 58, 3) := by decide +kernel
theorem dX12_isName_181 : decode cX12_isName 181 = .ok (.aload_n 0, 1) := by decide +kernel
theorem dX12_isName_182 : decode cX12_isName 182 = .ok (.getfield 177, 3) := by decide +kernel
theorem dX12_isName_185 : decode cX12_isName 185 = .ok (.ldc2_w 231, 3) := by decide +kernel
theorem dX12_isName_188 : decode cX12_isName 188 = .ok (.lcmp, 1) := by decide +kernel
theorem dX12_isName_189 : decode cX12_isName 189 = .ok (.ifCond .eq 47, 3) := by decide +kernel
theorem dX12_isName_192 : decode cX12_isName 192 = .ok (.aload_n 0, 1) := by decide +kernel
theorem dX12_isName_193 : decode cX12_isName 193 = .ok (.getfield 177, 3) := by decide +kernel
theorem dX12_isName_196 : decode cX12_isName 196 = .ok (.ldc2_w 233, 3) := by decide +kernel
theorem dX12_isName_199 : decode cX12_isName 199 = .ok (.lcmp, 1) := by decide +kernel
theorem dX12_isName_200 : decode cX12_isName 200 = .ok (.ifCond .eq 36, 3) := by decide +kernel
theorem dX12_isName_203 : decode cX12_isName 203 = .ok (.aload_n 0, 1) := by decide +kernel
theorem dX12_isName_204 : decode cX12_isName 204 = .ok (.getfield 177, 3) := by decide +kernel
theorem dX12_isName_207 : decode cX12_isName 207 = .ok (.ldc2_w 235, 3) := by decide +kernel
theorem dX12_isName_210 : decode cX12_isName 210 = .ok (.lcmp, 1) := by decide +kernel
theorem dX12_isName_211 : decode cX12_isName 211 = .ok (.ifCond .eq 25, 3) := by decide +kernel
theorem dX12_isName_214 : decode cX12_isName 214 = .ok (.aload_n 0, 1) := by decide +kernel
theorem dX12_isName_215 : decode cX12_isName 215 = .ok (.getfield 177, 3) := by decide +kernel
theorem dX12_isName_218 : decode cX12_isName 218 = .ok (.ldc2_w 237, 3) := by decide +kernel
theorem dX12_isName_221 : decode cX12_isName 221 = .ok (.lcmp, 1) := by decide +kernel
theorem dX12_isName_222 : decode cX12_isName 222 = .ok (.ifCond .eq 14, 3) := by decide +kernel
theorem dX12_isName_225 : decode cX12_isName 225 = .ok (.aload_n 0, 1) := by decide +kernel
theorem dX12_isName_226 : decode cX12_isName 226 = .ok (.getfield 177, 3) := by decide +kernel
theorem dX12_isName_229 : decode cX12_isName 229 = .ok (.ldc2_w 239, 3) := by decide +kernel
theorem dX12_isName_232 : decode cX12_isName 232 = .ok (.lcmp, 1) := by decide +kernel
theorem dX12_isName_233 : decode cX12_isName 233 = .ok (.ifCond .ne 7, 3) := by decide +kernel
theorem dX12_isName_236 : decode cX12_isName 236 = .ok (.iconst 1, 1) := by decide +kernel
theorem dX12_isName_237 : decode cX12_isName 237 = .ok (.goto 4, 3) := by decide +kernel
theorem dX12_isName_240 : decode cX12_isName 240 = .ok (.iconst 0, 1) := by decide +kernel
theorem dX12_isName_241 : decode cX12_isName 241 = .ok (.istore_n 2, 1) := by decide +kernel
theorem dX12_isName_242 : decode cX12_isName 242 = .ok (.iload_n 1, 1) := by decide +kernel
theorem dX12_isName_243 : decode cX12_isName 243 = .ok (.ifCond .ne 11, 3) := by decide +kernel
theorem dX12_isName_246 : decode cX12_isName 246 = .ok (.iload_n 2, 1) := by decide +kernel
theorem dX12_isName_247 : decode cX12_isName 247 = .ok (.ifCond .ne 7, 3) := by decide +kernel
theorem dX12_isName_250 : decode cX12_isName 250 = .ok (.iconst 1, 1) := by decide +kernel
theorem dX12_isName_251 : decode cX12_isName 251 = .ok (.goto 4, 3) := by decide +kernel
theorem dX12_isName_254 : decode cX12_isName 254 = .ok (.iconst 0, 1) := by decide +kernel
theorem dX12_isName_255 : decode cX12_isName 255 = .ok (.ireturn, 1) := by decide +kernel
theorem dX12_want_0 : decode cX12_want 0 = .ok (.aload_n 0, 1) := by decide +kernel
theorem dX12_want_1 : decode cX12_want 1 = .ok (.getfield 194, 3) := by decide +kernel
theorem dX12_want_4 : decode cX12_want 4 = .ok (.ifCond .le 4, 3) := by decide +kernel
theorem dX12_want_7 : decode cX12_want 7 = .ok (.return_, 1) := by decide +kernel
theorem dX12_want_8 : decode cX12_want 8 = .ok (.aload_n 0, 1) := by decide +kernel
theorem dX12_want_9 : decode cX12_want 9 = .ok (.lload_n 1, 1) := by decide +kernel
theorem dX12_want_10 : decode cX12_want 10 = .ok (.invokevirtual 241, 3) := by decide +kernel
theorem dX12_want_13 : decode cX12_want 13 = .ok (.ifCond .ne 11, 3) := by decide +kernel
theorem dX12_want_16 : decode cX12_want 16 = .ok (.aload_n 0, 1) := by decide +kernel
theorem dX12_want_17 : decode cX12_want 17 = .ok (.iconst 2, 1) := by decide +kernel
theorem dX12_want_18 : decode cX12_want 18 = .ok (.invokevirtual 245, 3) := by decide +kernel
theorem dX12_want_21 : decode cX12_want 21 = .ok (.goto 7, 3) := by decide +kernel
theorem dX12_want_24 : decode cX12_want 24 = .ok (.aload_n 0, 1) := by decide +kernel
theorem dX12_want_25 : decode cX12_want 25 = .ok (.invokevirtual 248, 3) := by decide +kernel
theorem dX12_want_28 : decode cX12_want 28 = .ok (.return_, 1) := by decide +kernel
theorem dX12_toldNumber_0 : decode cX12_toldNumber 0 = .ok (.aload_n 0, 1) := by decide +kernel
theorem dX12_toldNumber_1 : decode cX12_toldNumber 1 = .ok (.getfield 194, 3) := by decide +kernel
theorem dX12_toldNumber_4 : decode cX12_toldNumber 4 = .ok (.ifCond .le 5, 3) := by decide +kernel
theorem dX12_toldNumber_7 : decode cX12_toldNumber 7 = .ok (.iconst 0, 1) := by decide +kernel
theorem dX12_toldNumber_8 : decode cX12_toldNumber 8 = .ok (.ireturn, 1) := by decide +kernel
theorem dX12_toldNumber_9 : decode cX12_toldNumber 9 = .ok (.aload_n 0, 1) := by decide +kernel
theorem dX12_toldNumber_10 : decode cX12_toldNumber 10 = .ok (.getfield 184, 3) := by decide +kernel
theorem dX12_toldNumber_13 : decode cX12_toldNumber 13 = .ok (.iconst 2, 1) := by decide +kernel
theorem dX12_toldNumber_14 : decode cX12_toldNumber 14 = .ok (.if_icmp .eq 11, 3) := by decide +kernel
theorem dX12_toldNumber_17 : decode cX12_toldNumber 17 = .ok (.aload_n 0, 1) := by decide +kernel
theorem dX12_toldNumber_18 : decode cX12_toldNumber 18 = .ok (.iconst 2, 1) := by decide +kernel
theorem dX12_toldNumber_19 : decode cX12_toldNumber 19 = .ok (.invokevirtual 245, 3) := by decide +kernel
theorem dX12_toldNumber_22 : decode cX12_toldNumber 22 = .ok (.goto 24, 3) := by decide +kernel
theorem dX12_toldNumber_25 : decode cX12_toldNumber 25 = .ok (.aload_n 0, 1) := by decide +kernel
theorem dX12_toldNumber_26 : decode cX12_toldNumber 26 = .ok (.getfield 181, 3) := by decide +kernel
theorem dX12_toldNumber_29 : decode cX12_toldNumber 29 = .ok (.iload_n 1, 1) := by decide +kernel
theorem dX12_toldNumber_30 : decode cX12_toldNumber 30 = .ok (.if_icmp .lt 11, 3) := by decide +kernel
theorem dX12_toldNumber_33 : decode cX12_toldNumber 33 = .ok (.aload_n 0, 1) := by decide +kernel
theorem dX12_toldNumber_34 : decode cX12_toldNumber 34 = .ok (.getfield 181, 3) := by decide +kernel
theorem dX12_toldNumber_37 : decode cX12_toldNumber 37 = .ok (.iload_n 2, 1) := by decide +kernel
theorem dX12_toldNumber_38 : decode cX12_toldNumber 38 = .ok (.if_icmp .le 8, 3) := by decide +kernel
theorem dX12_toldNumber_41 : decode cX12_toldNumber 41 = .ok (.aload_n 0, 1) := by decide +kernel
theorem dX12_toldNumber_42 : decode cX12_toldNumber 42 = .ok (.iconst 4, 1) := by decide +kernel
theorem dX12_toldNumber_43 : decode cX12_toldNumber 43 = .ok (.invokevirtual 245, 3) := by decide +kernel
theorem dX12_toldNumber_46 : decode cX12_toldNumber 46 = .ok (.aload_n 0, 1) := by decide +kernel
theorem dX12_toldNumber_47 : decode cX12_toldNumber 47 = .ok (.getfield 181, 3) := by decide +kernel
theorem dX12_toldNumber_50 : decode cX12_toldNumber 50 = .ok (.istore_n 3, 1) := by decide +kernel
theorem dX12_toldNumber_51 : decode cX12_toldNumber 51 = .ok (.aload_n 0, 1) := by decide +kernel
theorem dX12_toldNumber_52 : decode cX12_toldNumber 52 = .ok (.getfield 194, 3) := by decide +kernel
theorem dX12_toldNumber_55 : decode cX12_toldNumber 55 = .ok (.ifCond .ne 7, 3) := by decide +kernel
theorem dX12_toldNumber_58 : decode cX12_toldNumber 58 = .ok (.aload_n 0, 1) := by decide +kernel
theorem dX12_toldNumber_59 : decode cX12_toldNumber 59 = .ok (.invokevirtual 248, 3) := by decide +kernel
theorem dX12_toldNumber_62 : decode cX12_toldNumber 62 = .ok (.iload_n 3, 1) := by decide +kernel
theorem dX12_toldNumber_63 : decode cX12_toldNumber 63 = .ok (.ireturn, 1) := by decide +kernel
theorem dX12_told_0 : decode cX12_told 0 = .ok (.aload_n 0, 1) := by decide +kernel
theorem dX12_told_1 : decode cX12_told 1 = .ok (.lload_n 1, 1) := by decide +kernel
theorem dX12_told_2 : decode cX12_told 2 = .ok (.invokevirtual 251, 3) := by decide +kernel
theorem dX12_told_5 : decode cX12_told 5 = .ok (.aload_n 0, 1) := by decide +kernel
theorem dX12_told_6 : decode cX12_told 6 = .ok (.iload_n 3, 1) := by decide +kernel
theorem dX12_told_7 : decode cX12_told 7 = .ok (.iload 4, 2) := by decide +kernel
theorem dX12_told_9 : decode cX12_told 9 = .ok (.invokevirtual 255, 3) := by decide +kernel
theorem dX12_told_12 : decode cX12_told 12 = .ok (.ireturn, 1) := by decide +kernel
theorem dX12_signed_0 : decode cX12_signed 0 = .ok (.aload_n 0, 1) := by decide +kernel
theorem dX12_signed_1 : decode cX12_signed 1 = .ok (.getfield 194, 3) := by decide +kernel
theorem dX12_signed_4 : decode cX12_signed 4 = .ok (.ifCond .le 5, 3) := by decide +kernel
theorem dX12_signed_7 : decode cX12_signed 7 = .ok (.iconst 0, 1) := by decide +kernel
theorem dX12_signed_8 : decode cX12_signed 8 = .ok (.ireturn, 1) := by decide +kernel
theorem dX12_signed_9 : decode cX12_signed 9 = .ok (.aload_n 0, 1) := by decide +kernel
theorem dX12_signed_10 : decode cX12_signed 10 = .ok (.getfield 174, 3) := by decide +kernel
theorem dX12_signed_13 : decode cX12_signed 13 = .ok (.istore_n 2, 1) := by decide +kernel
theorem dX12_signed_14 : decode cX12_signed 14 = .ok (.aload_n 0, 1) := by decide +kernel
theorem dX12_signed_15 : decode cX12_signed 15 = .ok (.getfield 184, 3) := by decide +kernel
theorem dX12_signed_18 : decode cX12_signed 18 = .ok (.bipush 45, 2) := by decide +kernel
theorem dX12_signed_20 : decode cX12_signed 20 = .ok (.if_icmp .ne 7, 3) := by decide +kernel
theorem dX12_signed_23 : decode cX12_signed 23 = .ok (.iconst 1, 1) := by decide +kernel
theorem dX12_signed_24 : decode cX12_signed 24 = .ok (.goto 4, 3) := by decide +kernel
theorem dX12_signed_27 : decode cX12_signed 27 = .ok (.iconst 0, 1) := by decide +kernel
theorem dX12_signed_28 : decode cX12_signed 28 = .ok (.istore_n 3, 1) := by decide +kernel
theorem dX12_signed_29 : decode cX12_signed 29 = .ok (.iload_n 3, 1) := by decide +kernel
theorem dX12_signed_30 : decode cX12_signed 30 = .ok (.ifCond .eq 7, 3) := by decide +kernel
theorem dX12_signed_33 : decode cX12_signed 33 = .ok (.aload_n 0, 1) := by decide +kernel
theorem dX12_signed_34 : decode cX12_signed 34 = .ok (.invokevirtual 248, 3) := by decide +kernel
theorem dX12_signed_37 : decode cX12_signed 37 = .ok (.aload_n 0, 1) := by decide +kernel
theorem dX12_signed_38 : decode cX12_signed 38 = .ok (.getfield 184, 3) := by decide +kernel
theorem dX12_signed_41 : decode cX12_signed 41 = .ok (.iconst 2, 1) := by decide +kernel
theorem dX12_signed_42 : decode cX12_signed 42 = .ok (.if_icmp .eq 8, 3) := by decide +kernel
theorem dX12_signed_45 : decode cX12_signed 45 = .ok (.aload_n 0, 1) := by decide +kernel
theorem dX12_signed_46 : decode cX12_signed 46 = .ok (.iconst 2, 1) := by decide +kernel
theorem dX12_signed_47 : decode cX12_signed 47 = .ok (.invokevirtual 245, 3) := by decide +kernel
theorem dX12_signed_50 : decode cX12_signed 50 = .ok (.aload_n 0, 1) := by decide +kernel
theorem dX12_signed_51 : decode cX12_signed 51 = .ok (.getfield 194, 3) := by decide +kernel
theorem dX12_signed_54 : decode cX12_signed 54 = .ok (.ifCond .ne 17, 3) := by decide +kernel
theorem dX12_signed_57 : decode cX12_signed 57 = .ok (.aload_n 0, 1) := by decide +kernel
theorem dX12_signed_58 : decode cX12_signed 58 = .ok (.getfield 181, 3) := by decide +kernel
theorem dX12_signed_61 : decode cX12_signed 61 = .ok (.iload_n 1, 1) := by decide +kernel
theorem dX12_signed_62 : decode cX12_signed 62 = .ok (.if_icmp .le 9, 3) := by decide +kernel
theorem dX12_signed_65 : decode cX12_signed 65 = .ok (.aload_n 0, 1) := by decide +kernel
theorem dX12_signed_66 : decode cX12_signed 66 = .ok (.iconst 4, 1) := by decide +kernel
theorem dX12_signed_67 : decode cX12_signed 67 = .ok (.iload_n 2, 1) := by decide +kernel
theorem dX12_signed_68 : decode cX12_signed 68 = .ok (.invokevirtual 197, 3) := by decide +kernel
theorem dX12_signed_71 : decode cX12_signed 71 = .ok (.iload_n 3, 1) := by decide +kernel
theorem dX12_signed_72 : decode cX12_signed 72 = .ok (.ifCond .eq 11, 3) := by decide +kernel
theorem dX12_signed_75 : decode cX12_signed 75 = .ok (.aload_n 0, 1) := by decide +kernel
theorem dX12_signed_76 : decode cX12_signed 76 = .ok (.getfield 181, 3) := by decide +kernel
theorem dX12_signed_79 : decode cX12_signed 79 = .ok (.ineg, 1) := by decide +kernel
theorem dX12_signed_80 : decode cX12_signed 80 = .ok (.goto 7, 3) := by decide +kernel
theorem dX12_signed_83 : decode cX12_signed 83 = .ok (.aload_n 0, 1) := by decide +kernel
theorem dX12_signed_84 : decode cX12_signed 84 = .ok (.getfield 181, 3) := by decide +kernel
theorem dX12_signed_87 : decode cX12_signed 87 = .ok (.istore 4, 2) := by decide +kernel
theorem dX12_signed_89 : decode cX12_signed 89 = .ok (.aload_n 0, 1) := by decide +kernel
theorem dX12_signed_90 : decode cX12_signed 90 = .ok (.getfield 194, 3) := by decide +kernel
theorem dX12_signed_93 : decode cX12_signed 93 = .ok (.ifCond .ne 7, 3) := by decide +kernel
theorem dX12_signed_96 : decode cX12_signed 96 = .ok (.aload_n 0, 1) := by decide +kernel
theorem dX12_signed_97 : decode cX12_signed 97 = .ok (.invokevirtual 248, 3) := by decide +kernel
theorem dX12_signed_100 : decode cX12_signed 100 = .ok (.iload 4, 2) := by decide +kernel
theorem dX12_signed_102 : decode cX12_signed 102 = .ok (.ireturn, 1) := by decide +kernel
