theorem dX0_init_0 : decode cX0_init 0 = .ok (.aload_n 0, 1) := by decide +kernel
theorem dX0_init_1 : decode cX0_init 1 = .ok (.invokespecial 3, 3) := by decide +kernel
theorem dX0_init_4 : decode cX0_init 4 = .ok (.aload_n 0, 1) := by decide +kernel
theorem dX0_init_5 : decode cX0_init 5 = .ok (.bipush 73, 2) := by decide +kernel
theorem dX0_init_7 : decode cX0_init 7 = .ok (.newarray .int, 2) := by decide +kernel
theorem dX0_init_9 : decode cX0_init 9 = .ok (.putfield 9, 3) := by decide +kernel
theorem dX0_init_12 : decode cX0_init 12 = .ok (.aload_n 0, 1) := by decide +kernel
theorem dX0_init_13 : decode cX0_init 13 = .ok (.sipush 721, 3) := by decide +kernel
theorem dX0_init_16 : decode cX0_init 16 = .ok (.newarray .int, 2) := by decide +kernel
theorem dX0_init_18 : decode cX0_init 18 = .ok (.putfield 15, 3) := by decide +kernel
theorem dX0_init_21 : decode cX0_init 21 = .ok (.return_, 1) := by decide +kernel
theorem dX0_lookOut_0 : decode cX0_lookOut 0 = .ok (.aload_n 0, 1) := by decide +kernel
theorem dX0_lookOut_1 : decode cX0_lookOut 1 = .ok (.getfield 9, 3) := by decide +kernel
theorem dX0_lookOut_4 : decode cX0_lookOut 4 = .ok (.iconst 0, 1) := by decide +kernel
theorem dX0_lookOut_5 : decode cX0_lookOut 5 = .ok (.invokestatic 18, 3) := by decide +kernel
theorem dX0_lookOut_8 : decode cX0_lookOut 8 = .ok (.iconst 0, 1) := by decide +kernel
theorem dX0_lookOut_9 : decode cX0_lookOut 9 = .ok (.istore_n 3, 1) := by decide +kernel
theorem dX0_lookOut_10 : decode cX0_lookOut 10 = .ok (.iload_n 3, 1) := by decide +kernel
theorem dX0_lookOut_11 : decode cX0_lookOut 11 = .ok (.aload_n 1, 1) := by decide +kernel
theorem dX0_lookOut_12 : decode cX0_lookOut 12 = .ok (.getfield 24, 3) := by decide +kernel
theorem dX0_lookOut_15 : decode cX0_lookOut 15 = .ok (.getfield 30, 3) := by decide +kernel
theorem dX0_lookOut_18 : decode cX0_lookOut 18 = .ok (.if_icmp .ge 19, 3) := by decide +kernel
theorem dX0_lookOut_21 : decode cX0_lookOut 21 = .ok (.aload_n 2, 1) := by decide +kernel
theorem dX0_lookOut_22 : decode cX0_lookOut 22 = .ok (.aload_n 1, 1) := by decide +kernel
theorem dX0_lookOut_23 : decode cX0_lookOut 23 = .ok (.iload_n 3, 1) := by decide +kernel
theorem dX0_lookOut_24 : decode cX0_lookOut 24 = .ok (.aload_n 0, 1) := by decide +kernel
theorem dX0_lookOut_25 : decode cX0_lookOut 25 = .ok (.getfield 9, 3) := by decide +kernel
theorem dX0_lookOut_28 : decode cX0_lookOut 28 = .ok (.invokevirtual 36, 3) := by decide +kernel
theorem dX0_lookOut_31 : decode cX0_lookOut 31 = .ok (.iinc 3 1, 3) := by decide +kernel
theorem dX0_lookOut_34 : decode cX0_lookOut 34 = .ok (.goto (-24), 3) := by decide +kernel
theorem dX0_lookOut_37 : decode cX0_lookOut 37 = .ok (.return_, 1) := by decide +kernel
theorem dX0_fewestMinutes_0 : decode cX0_fewestMinutes 0 = .ok (.aload_n 0, 1) := by decide +kernel
theorem dX0_fewestMinutes_1 : decode cX0_fewestMinutes 1 = .ok (.getfield 15, 3) := by decide +kernel
theorem dX0_fewestMinutes_4 : decode cX0_fewestMinutes 4 = .ok (.iconst 0, 1) := by decide +kernel
theorem dX0_fewestMinutes_5 : decode cX0_fewestMinutes 5 = .ok (.invokestatic 18, 3) := by decide +kernel
theorem dX0_fewestMinutes_8 : decode cX0_fewestMinutes 8 = .ok (.aload_n 0, 1) := by decide +kernel
theorem dX0_fewestMinutes_9 : decode cX0_fewestMinutes 9 = .ok (.iload_n 2, 1) := by decide +kernel
theorem dX0_fewestMinutes_10 : decode cX0_fewestMinutes 10 = .ok (.iconst 0, 1) := by decide +kernel
theorem dX0_fewestMinutes_11 : decode cX0_fewestMinutes 11 = .ok (.iload 4, 2) := by decide +kernel
theorem dX0_fewestMinutes_13 : decode cX0_fewestMinutes 13 = .ok (.invokevirtual 42, 3) := by decide +kernel
theorem dX0_fewestMinutes_16 : decode cX0_fewestMinutes 16 = .ok (.iconst 0, 1) := by decide +kernel
theorem dX0_fewestMinutes_17 : decode cX0_fewestMinutes 17 = .ok (.istore 5, 2) := by decide +kernel
theorem dX0_fewestMinutes_19 : decode cX0_fewestMinutes 19 = .ok (.iload 5, 2) := by decide +kernel
theorem dX0_fewestMinutes_21 : decode cX0_fewestMinutes 21 = .ok (.sipush 720, 3) := by decide +kernel
theorem dX0_fewestMinutes_24 : decode cX0_fewestMinutes 24 = .ok (.if_icmp .gt 136, 3) := by decide +kernel
theorem dX0_fewestMinutes_27 : decode cX0_fewestMinutes 27 = .ok (.aload_n 0, 1) := by decide +kernel
theorem dX0_fewestMinutes_28 : decode cX0_fewestMinutes 28 = .ok (.getfield 15, 3) := by decide +kernel
theorem dX0_fewestMinutes_31 : decode cX0_fewestMinutes 31 = .ok (.iload 5, 2) := by decide +kernel
theorem dX0_fewestMinutes_33 : decode cX0_fewestMinutes 33 = .ok (.iaload, 1) := by decide +kernel
theorem dX0_fewestMinutes_34 : decode cX0_fewestMinutes 34 = .ok (.iload_n 3, 1) := by decide +kernel
theorem dX0_fewestMinutes_35 : decode cX0_fewestMinutes 35 = .ok (.ishr, 1) := by decide +kernel
theorem dX0_fewestMinutes_36 : decode cX0_fewestMinutes 36 = .ok (.iconst 1, 1) := by decide +kernel
theorem dX0_fewestMinutes_37 : decode cX0_fewestMinutes 37 = .ok (.iand, 1) := by decide +kernel
theorem dX0_fewestMinutes_38 : decode cX0_fewestMinutes 38 = .ok (.ifCond .eq 6, 3) := by decide +kernel
theorem dX0_fewestMinutes_41 : decode cX0_fewestMinutes 41 = .ok (.iload 5, 2) := by decide +kernel
theorem dX0_fewestMinutes_43 : decode cX0_fewestMinutes 43 = .ok (.ireturn, 1) := by decide +kernel
theorem dX0_fewestMinutes_44 : decode cX0_fewestMinutes 44 = .ok (.iconst 0, 1) := by decide +kernel
theorem dX0_fewestMinutes_45 : decode cX0_fewestMinutes 45 = .ok (.istore 6, 2) := by decide +kernel
theorem dX0_fewestMinutes_47 : decode cX0_fewestMinutes 47 = .ok (.iload 6, 2) := by decide +kernel
theorem dX0_fewestMinutes_49 : decode cX0_fewestMinutes 49 = .ok (.aload_n 1, 1) := by decide +kernel
theorem dX0_fewestMinutes_50 : decode cX0_fewestMinutes 50 = .ok (.getfield 46, 3) := by decide +kernel
theorem dX0_fewestMinutes_53 : decode cX0_fewestMinutes 53 = .ok (.if_icmp .ge 101, 3) := by decide +kernel
theorem dX0_fewestMinutes_56 : decode cX0_fewestMinutes 56 = .ok (.aload_n 0, 1) := by decide +kernel
theorem dX0_fewestMinutes_57 : decode cX0_fewestMinutes 57 = .ok (.getfield 15, 3) := by decide +kernel
theorem dX0_fewestMinutes_60 : decode cX0_fewestMinutes 60 = .ok (.iload 5, 2) := by decide +kernel
theorem dX0_fewestMinutes_62 : decode cX0_fewestMinutes 62 = .ok (.iaload, 1) := by decide +kernel
theorem dX0_fewestMinutes_63 : decode cX0_fewestMinutes 63 = .ok (.ifCond .eq 91, 3) := by decide +kernel
theorem dX0_fewestMinutes_66 : decode cX0_fewestMinutes 66 = .ok (.iload 5, 2) := by decide +kernel
theorem dX0_fewestMinutes_68 : decode cX0_fewestMinutes 68 = .ok (.aload_n 1, 1) := by decide +kernel
theorem dX0_fewestMinutes_69 : decode cX0_fewestMinutes 69 = .ok (.getfield 49, 3) := by decide +kernel
theorem dX0_fewestMinutes_72 : decode cX0_fewestMinutes 72 = .ok (.iload 6, 2) := by decide +kernel
theorem dX0_fewestMinutes_74 : decode cX0_fewestMinutes 74 = .ok (.iaload, 1) := by decide +kernel
theorem dX0_fewestMinutes_75 : decode cX0_fewestMinutes 75 = .ok (.iadd, 1) := by decide +kernel
theorem dX0_fewestMinutes_76 : decode cX0_fewestMinutes 76 = .ok (.istore 7, 2) := by decide +kernel
theorem dX0_fewestMinutes_78 : decode cX0_fewestMinutes 78 = .ok (.aload_n 0, 1) := by decide +kernel
theorem dX0_fewestMinutes_79 : decode cX0_fewestMinutes 79 = .ok (.getfield 15, 3) := by decide +kernel
theorem dX0_fewestMinutes_82 : decode cX0_fewestMinutes 82 = .ok (.iload 5, 2) := by decide +kernel
theorem dX0_fewestMinutes_84 : decode cX0_fewestMinutes 84 = .ok (.iaload, 1) := by decide +kernel
theorem dX0_fewestMinutes_85 : decode cX0_fewestMinutes 85 = .ok (.aload_n 1, 1) := by decide +kernel
theorem dX0_fewestMinutes_86 : decode cX0_fewestMinutes 86 = .ok (.getfield 52, 3) := by decide +kernel
theorem dX0_fewestMinutes_89 : decode cX0_fewestMinutes 89 = .ok (.iload 6, 2) := by decide +kernel
theorem dX0_fewestMinutes_91 : decode cX0_fewestMinutes 91 = .ok (.iaload, 1) := by decide +kernel
theorem dX0_fewestMinutes_92 : decode cX0_fewestMinutes 92 = .ok (.ishr, 1) := by decide +kernel
theorem dX0_fewestMinutes_93 : decode cX0_fewestMinutes 93 = .ok (.iconst 1, 1) := by decide +kernel
theorem dX0_fewestMinutes_94 : decode cX0_fewestMinutes 94 = .ok (.iand, 1) := by decide +kernel
theorem dX0_fewestMinutes_95 : decode cX0_fewestMinutes 95 = .ok (.ifCond .eq 18, 3) := by decide +kernel
theorem dX0_fewestMinutes_98 : decode cX0_fewestMinutes 98 = .ok (.aload_n 0, 1) := by decide +kernel
theorem dX0_fewestMinutes_99 : decode cX0_fewestMinutes 99 = .ok (.aload_n 1, 1) := by decide +kernel
theorem dX0_fewestMinutes_100 : decode cX0_fewestMinutes 100 = .ok (.getfield 55, 3) := by decide +kernel
theorem dX0_fewestMinutes_103 : decode cX0_fewestMinutes 103 = .ok (.iload 6, 2) := by decide +kernel
theorem dX0_fewestMinutes_105 : decode cX0_fewestMinutes 105 = .ok (.iaload, 1) := by decide +kernel
theorem dX0_fewestMinutes_106 : decode cX0_fewestMinutes 106 = .ok (.iload 7, 2) := by decide +kernel
theorem dX0_fewestMinutes_108 : decode cX0_fewestMinutes 108 = .ok (.iload 4, 2) := by decide +kernel
theorem dX0_fewestMinutes_110 : decode cX0_fewestMinutes 110 = .ok (.invokevirtual 42, 3) := by decide +kernel
theorem dX0_fewestMinutes_113 : decode cX0_fewestMinutes 113 = .ok (.aload_n 0, 1) := by decide +kernel
theorem dX0_fewestMinutes_114 : decode cX0_fewestMinutes 114 = .ok (.getfield 15, 3) := by decide +kernel
theorem dX0_fewestMinutes_117 : decode cX0_fewestMinutes 117 = .ok (.iload 5, 2) := by decide +kernel
theorem dX0_fewestMinutes_119 : decode cX0_fewestMinutes 119 = .ok (.iaload, 1) := by decide +kernel
theorem dX0_fewestMinutes_120 : decode cX0_fewestMinutes 120 = .ok (.aload_n 1, 1) := by decide +kernel
theorem dX0_fewestMinutes_121 : decode cX0_fewestMinutes 121 = .ok (.getfield 55, 3) := by decide +kernel
theorem dX0_fewestMinutes_124 : decode cX0_fewestMinutes 124 = .ok (.iload 6, 2) := by decide +kernel
theorem dX0_fewestMinutes_126 : decode cX0_fewestMinutes 126 = .ok (.iaload, 1) := by decide +kernel
theorem dX0_fewestMinutes_127 : decode cX0_fewestMinutes 127 = .ok (.ishr, 1) := by decide +kernel
theorem dX0_fewestMinutes_128 : decode cX0_fewestMinutes 128 = .ok (.iconst 1, 1) := by decide +kernel
theorem dX0_fewestMinutes_129 : decode cX0_fewestMinutes 129 = .ok (.iand, 1) := by decide +kernel
theorem dX0_fewestMinutes_130 : decode cX0_fewestMinutes 130 = .ok (.ifCond .eq 18, 3) := by decide +kernel
theorem dX0_fewestMinutes_133 : decode cX0_fewestMinutes 133 = .ok (.aload_n 0, 1) := by decide +kernel
theorem dX0_fewestMinutes_134 : decode cX0_fewestMinutes 134 = .ok (.aload_n 1, 1) := by decide +kernel
theorem dX0_fewestMinutes_135 : decode cX0_fewestMinutes 135 = .ok (.getfield 52, 3) := by decide +kernel
theorem dX0_fewestMinutes_138 : decode cX0_fewestMinutes 138 = .ok (.iload 6, 2) := by decide +kernel
theorem dX0_fewestMinutes_140 : decode cX0_fewestMinutes 140 = .ok (.iaload, 1) := by decide +kernel
theorem dX0_fewestMinutes_141 : decode cX0_fewestMinutes 141 = .ok (.iload 7, 2) := by decide +kernel
theorem dX0_fewestMinutes_143 : decode cX0_fewestMinutes 143 = .ok (.iload 4, 2) := by decide +kernel
theorem dX0_fewestMinutes_145 : decode cX0_fewestMinutes 145 = .ok (.invokevirtual 42, 3) := by decide +kernel
theorem dX0_fewestMinutes_148 : decode cX0_fewestMinutes 148 = .ok (.iinc 6 1, 3) := by decide +kernel
theorem dX0_fewestMinutes_151 : decode cX0_fewestMinutes 151 = .ok (.goto (-104), 3) := by decide +kernel
theorem dX0_fewestMinutes_154 : decode cX0_fewestMinutes 154 = .ok (.iinc 5 1, 3) := by decide +kernel
theorem dX0_fewestMinutes_157 : decode cX0_fewestMinutes 157 = .ok (.goto (-138), 3) := by decide +kernel
theorem dX0_fewestMinutes_160 : decode cX0_fewestMinutes 160 = .ok (.iconst (-1), 1) := by decide +kernel
theorem dX0_fewestMinutes_161 : decode cX0_fewestMinutes 161 = .ok (.ireturn, 1) := by decide +kernel
theorem dX0_arrive_0 : decode cX0_arrive 0 = .ok (.bipush 72, 2) := by decide +kernel
theorem dX0_arrive_2 : decode cX0_arrive 2 = .ok (.iload_n 3, 1) := by decide +kernel
theorem dX0_arrive_3 : decode cX0_arrive 3 = .ok (.iload_n 2, 1) := by decide +kernel
theorem dX0_arrive_4 : decode cX0_arrive 4 = .ok (.bipush 10, 2) := by decide +kernel
theorem dX0_arrive_6 : decode cX0_arrive 6 = .ok (.idiv, 1) := by decide +kernel
theorem dX0_arrive_7 : decode cX0_arrive 7 = .ok (.iadd, 1) := by decide +kernel
theorem dX0_arrive_8 : decode cX0_arrive 8 = .ok (.invokestatic 58, 3) := by decide +kernel
theorem dX0_arrive_11 : decode cX0_arrive 11 = .ok (.istore 4, 2) := by decide +kernel
theorem dX0_arrive_13 : decode cX0_arrive 13 = .ok (.iload_n 2, 1) := by decide +kernel
theorem dX0_arrive_14 : decode cX0_arrive 14 = .ok (.sipush 720, 3) := by decide +kernel
theorem dX0_arrive_17 : decode cX0_arrive 17 = .ok (.if_icmp .gt 29, 3) := by decide +kernel
theorem dX0_arrive_20 : decode cX0_arrive 20 = .ok (.aload_n 0, 1) := by decide +kernel
theorem dX0_arrive_21 : decode cX0_arrive 21 = .ok (.getfield 9, 3) := by decide +kernel
theorem dX0_arrive_24 : decode cX0_arrive 24 = .ok (.iload 4, 2) := by decide +kernel
theorem dX0_arrive_26 : decode cX0_arrive 26 = .ok (.iaload, 1) := by decide +kernel
theorem dX0_arrive_27 : decode cX0_arrive 27 = .ok (.iload_n 1, 1) := by decide +kernel
theorem dX0_arrive_28 : decode cX0_arrive 28 = .ok (.ishr, 1) := by decide +kernel
theorem dX0_arrive_29 : decode cX0_arrive 29 = .ok (.iconst 1, 1) := by decide +kernel
theorem dX0_arrive_30 : decode cX0_arrive 30 = .ok (.iand, 1) := by decide +kernel
theorem dX0_arrive_31 : decode cX0_arrive 31 = .ok (.ifCond .ne 15, 3) := by decide +kernel
theorem dX0_arrive_34 : decode cX0_arrive 34 = .ok (.aload_n 0, 1) := by decide +kernel
theorem dX0_arrive_35 : decode cX0_arrive 35 = .ok (.getfield 15, 3) := by decide +kernel
theorem dX0_arrive_38 : decode cX0_arrive 38 = .ok (.iload_n 2, 1) := by decide +kernel
theorem dX0_arrive_39 : decode cX0_arrive 39 = .ok (.dup2, 1) := by decide +kernel
theorem dX0_arrive_40 : decode cX0_arrive 40 = .ok (.iaload, 1) := by decide +kernel
theorem dX0_arrive_41 : decode cX0_arrive 41 = .ok (.iconst 1, 1) := by decide +kernel
theorem dX0_arrive_42 : decode cX0_arrive 42 = .ok (.iload_n 1, 1) := by decide +kernel
theorem dX0_arrive_43 : decode cX0_arrive 43 = .ok (.ishl, 1) := by decide +kernel
theorem dX0_arrive_44 : decode cX0_arrive 44 = .ok (.ior, 1) := by decide +kernel
theorem dX0_arrive_45 : decode cX0_arrive 45 = .ok (.iastore, 1) := by decide +kernel
theorem dX0_arrive_46 : decode cX0_arrive 46 = .ok (.return_, 1) := by decide +kernel
theorem dX1_init_0 : decode cX1_init 0 = .ok (.aload_n 0, 1) := by decide +kernel
theorem dX1_init_1 : decode cX1_init 1 = .ok (.invokespecial 5, 3) := by decide +kernel
theorem dX1_init_4 : decode cX1_init 4 = .ok (.aload_n 0, 1) := by decide +kernel
theorem dX1_init_5 : decode cX1_init 5 = .ok (.bipush 8, 2) := by decide +kernel
theorem dX1_init_7 : decode cX1_init 7 = .ok (.anewarray 1, 3) := by decide +kernel
theorem dX1_init_10 : decode cX1_init 10 = .ok (.putfield 11, 3) := by decide +kernel
theorem dX1_init_13 : decode cX1_init 13 = .ok (.aload_n 0, 1) := by decide +kernel
theorem dX1_init_14 : decode cX1_init 14 = .ok (.iconst 0, 1) := by decide +kernel
theorem dX1_init_15 : decode cX1_init 15 = .ok (.putfield 17, 3) := by decide +kernel
theorem dX1_init_18 : decode cX1_init 18 = .ok (.aload_n 0, 1) := by decide +kernel
theorem dX1_init_19 : decode cX1_init 19 = .ok (.iconst 0, 1) := by decide +kernel
theorem dX1_init_20 : decode cX1_init 20 = .ok (.putfield 21, 3) := by decide +kernel
theorem dX1_init_23 : decode cX1_init 23 = .ok (.aload_n 0, 1) := by decide +kernel
theorem dX1_init_24 : decode cX1_init 24 = .ok (.aload_n 1, 1) := by decide +kernel
theorem dX1_init_25 : decode cX1_init 25 = .ok (.putfield 24, 3) := by decide +kernel
theorem dX1_init_28 : decode cX1_init 28 = .ok (.aload_n 0, 1) := by decide +kernel
theorem dX1_init_29 : decode cX1_init 29 = .ok (.aload_n 1, 1) := by decide +kernel
theorem dX1_init_30 : decode cX1_init 30 = .ok (.getfield 28, 3) := by decide +kernel
theorem dX1_init_33 : decode cX1_init 33 = .ok (.putfield 33, 3) := by decide +kernel
theorem dX1_init_36 : decode cX1_init 36 = .ok (.iconst 0, 1) := by decide +kernel
theorem dX1_init_37 : decode cX1_init 37 = .ok (.istore_n 2, 1) := by decide +kernel
theorem dX1_init_38 : decode cX1_init 38 = .ok (.iload_n 2, 1) := by decide +kernel
theorem dX1_init_39 : decode cX1_init 39 = .ok (.bipush 8, 2) := by decide +kernel
theorem dX1_init_41 : decode cX1_init 41 = .ok (.if_icmp .ge 22, 3) := by decide +kernel
theorem dX1_init_44 : decode cX1_init 44 = .ok (.aload_n 0, 1) := by decide +kernel
theorem dX1_init_45 : decode cX1_init 45 = .ok (.getfield 11, 3) := by decide +kernel
theorem dX1_init_48 : decode cX1_init 48 = .ok (.iload_n 2, 1) := by decide +kernel
theorem dX1_init_49 : decode cX1_init 49 = .ok (.new 1, 3) := by decide +kernel
theorem dX1_init_52 : decode cX1_init 52 = .ok (.dup, 1) := by decide +kernel
theorem dX1_init_53 : decode cX1_init 53 = .ok (.invokespecial 36, 3) := by decide +kernel
theorem dX1_init_56 : decode cX1_init 56 = .ok (.aastore, 1) := by decide +kernel
theorem dX1_init_57 : decode cX1_init 57 = .ok (.iinc 2 1, 3) := by decide +kernel
theorem dX1_init_60 : decode cX1_init 60 = .ok (.goto (-22), 3) := by decide +kernel
theorem dX1_init_63 : decode cX1_init 63 = .ok (.return_, 1) := by decide +kernel
theorem dX1_begin_0 : decode cX1_begin 0 = .ok (.aload_n 0, 1) := by decide +kernel
theorem dX1_begin_1 : decode cX1_begin 1 = .ok (.aload_n 1, 1) := by decide +kernel
theorem dX1_begin_2 : decode cX1_begin 2 = .ok (.putfield 24, 3) := by decide +kernel
theorem dX1_begin_5 : decode cX1_begin 5 = .ok (.aload_n 0, 1) := by decide +kernel
theorem dX1_begin_6 : decode cX1_begin 6 = .ok (.iconst 0, 1) := by decide +kernel
theorem dX1_begin_7 : decode cX1_begin 7 = .ok (.putfield 17, 3) := by decide +kernel
theorem dX1_begin_10 : decode cX1_begin 10 = .ok (.aload_n 0, 1) := by decide +kernel
theorem dX1_begin_11 : decode cX1_begin 11 = .ok (.iconst 0, 1) := by decide +kernel
theorem dX1_begin_12 : decode cX1_begin 12 = .ok (.putfield 21, 3) := by decide +kernel
theorem dX1_begin_15 : decode cX1_begin 15 = .ok (.aload_n 0, 1) := by decide +kernel
theorem dX1_begin_16 : decode cX1_begin 16 = .ok (.aload_n 1, 1) := by decide +kernel
theorem dX1_begin_17 : decode cX1_begin 17 = .ok (.getfield 28, 3) := by decide +kernel
theorem dX1_begin_20 : decode cX1_begin 20 = .ok (.putfield 33, 3) := by decide +kernel
theorem dX1_begin_23 : decode cX1_begin 23 = .ok (.iconst 0, 1) := by decide +kernel
theorem dX1_begin_24 : decode cX1_begin 24 = .ok (.istore_n 2, 1) := by decide +kernel
theorem dX1_begin_25 : decode cX1_begin 25 = .ok (.iload_n 2, 1) := by decide +kernel
theorem dX1_begin_26 : decode cX1_begin 26 = .ok (.aload_n 1, 1) := by decide +kernel
theorem dX1_begin_27 : decode cX1_begin 27 = .ok (.getfield 37, 3) := by decide +kernel
theorem dX1_begin_30 : decode cX1_begin 30 = .ok (.if_icmp .ge 24, 3) := by decide +kernel
theorem dX1_begin_33 : decode cX1_begin 33 = .ok (.aload_n 0, 1) := by decide +kernel
theorem dX1_begin_34 : decode cX1_begin 34 = .ok (.getfield 11, 3) := by decide +kernel
theorem dX1_begin_37 : decode cX1_begin 37 = .ok (.iload_n 2, 1) := by decide +kernel
theorem dX1_begin_38 : decode cX1_begin 38 = .ok (.aaload, 1) := by decide +kernel
theorem dX1_begin_39 : decode cX1_begin 39 = .ok (.aload_n 1, 1) := by decide +kernel
theorem dX1_begin_40 : decode cX1_begin 40 = .ok (.getfield 40, 3) := by decide +kernel
theorem dX1_begin_43 : decode cX1_begin 43 = .ok (.iload_n 2, 1) := by decide +kernel
theorem dX1_begin_44 : decode cX1_begin 44 = .ok (.aaload, 1) := by decide +kernel
theorem dX1_begin_45 : decode cX1_begin 45 = .ok (.invokevirtual 44, 3) := by decide +kernel
theorem dX1_begin_48 : decode cX1_begin 48 = .ok (.iinc 2 1, 3) := by decide +kernel
theorem dX1_begin_51 : decode cX1_begin 51 = .ok (.goto (-26), 3) := by decide +kernel
theorem dX1_begin_54 : decode cX1_begin 54 = .ok (.return_, 1) := by decide +kernel
theorem dX1_goStep_0 : decode cX1_goStep 0 = .ok (.iconst 0, 1) := by decide +kernel
theorem dX1_goStep_1 : decode cX1_goStep 1 = .ok (.istore_n 1, 1) := by decide +kernel
theorem dX1_goStep_2 : decode cX1_goStep 2 = .ok (.iload_n 1, 1) := by decide +kernel
theorem dX1_goStep_3 : decode cX1_goStep 3 = .ok (.aload_n 0, 1) := by decide +kernel
theorem dX1_goStep_4 : decode cX1_goStep 4 = .ok (.getfield 24, 3) := by decide +kernel
theorem dX1_goStep_7 : decode cX1_goStep 7 = .ok (.getfield 37, 3) := by decide +kernel
theorem dX1_goStep_10 : decode cX1_goStep 10 = .ok (.if_icmp .ge 39, 3) := by decide +kernel
theorem dX1_goStep_13 : decode cX1_goStep 13 = .ok (.aload_n 0, 1) := by decide +kernel
theorem dX1_goStep_14 : decode cX1_goStep 14 = .ok (.getfield 11, 3) := by decide +kernel
theorem dX1_goStep_17 : decode cX1_goStep 17 = .ok (.iload_n 1, 1) := by decide +kernel
theorem dX1_goStep_18 : decode cX1_goStep 18 = .ok (.aaload, 1) := by decide +kernel
theorem dX1_goStep_19 : decode cX1_goStep 19 = .ok (.aload_n 0, 1) := by decide +kernel
theorem dX1_goStep_20 : decode cX1_goStep 20 = .ok (.getfield 24, 3) := by decide +kernel
theorem dX1_goStep_23 : decode cX1_goStep 23 = .ok (.getfield 40, 3) := by decide +kernel
theorem dX1_goStep_26 : decode cX1_goStep 26 = .ok (.iload_n 1, 1) := by decide +kernel
theorem dX1_goStep_27 : decode cX1_goStep 27 = .ok (.aaload, 1) := by decide +kernel
theorem dX1_goStep_28 : decode cX1_goStep 28 = .ok (.aload_n 0, 1) := by decide +kernel
theorem dX1_goStep_29 : decode cX1_goStep 29 = .ok (.getfield 24, 3) := by decide +kernel
theorem dX1_goStep_32 : decode cX1_goStep 32 = .ok (.aload_n 0, 1) := by decide +kernel
theorem dX1_goStep_33 : decode cX1_goStep 33 = .ok (.getfield 17, 3) := by decide +kernel
theorem dX1_goStep_36 : decode cX1_goStep 36 = .ok (.aload_n 0, 1) := by decide +kernel
theorem dX1_goStep_37 : decode cX1_goStep 37 = .ok (.getfield 21, 3) := by decide +kernel
theorem dX1_goStep_40 : decode cX1_goStep 40 = .ok (.invokevirtual 48, 3) := by decide +kernel
theorem dX1_goStep_43 : decode cX1_goStep 43 = .ok (.iinc 1 1, 3) := by decide +kernel
theorem dX1_goStep_46 : decode cX1_goStep 46 = .ok (.goto (-44), 3) := by decide +kernel
theorem dX1_goStep_49 : decode cX1_goStep 49 = .ok (.aload_n 0, 1) := by decide +kernel
theorem dX1_goStep_50 : decode cX1_goStep 50 = .ok (.dup, 1) := by decide +kernel
theorem dX1_goStep_51 : decode cX1_goStep 51 = .ok (.getfield 17, 3) := by decide +kernel
theorem dX1_goStep_54 : decode cX1_goStep 54 = .ok (.iconst 1, 1) := by decide +kernel
theorem dX1_goStep_55 : decode cX1_goStep 55 = .ok (.iadd, 1) := by decide +kernel
theorem dX1_goStep_56 : decode cX1_goStep 56 = .ok (.putfield 17, 3) := by decide +kernel
theorem dX1_goStep_59 : decode cX1_goStep 59 = .ok (.return_, 1) := by decide +kernel
theorem dX1_strew_0 : decode cX1_strew 0 = .ok (.aload_n 0, 1) := by decide +kernel
theorem dX1_strew_1 : decode cX1_strew 1 = .ok (.getfield 11, 3) := by decide +kernel
theorem dX1_strew_4 : decode cX1_strew 4 = .ok (.iload_n 1, 1) := by decide +kernel
theorem dX1_strew_5 : decode cX1_strew 5 = .ok (.aaload, 1) := by decide +kernel
theorem dX1_strew_6 : decode cX1_strew 6 = .ok (.dup, 1) := by decide +kernel
theorem dX1_strew_7 : decode cX1_strew 7 = .ok (.getfield 52, 3) := by decide +kernel
theorem dX1_strew_10 : decode cX1_strew 10 = .ok (.iload_n 2, 1) := by decide +kernel
theorem dX1_strew_11 : decode cX1_strew 11 = .ok (.iadd, 1) := by decide +kernel
theorem dX1_strew_12 : decode cX1_strew 12 = .ok (.putfield 52, 3) := by decide +kernel
theorem dX1_strew_15 : decode cX1_strew 15 = .ok (.aload_n 0, 1) := by decide +kernel
theorem dX1_strew_16 : decode cX1_strew 16 = .ok (.dup, 1) := by decide +kernel
theorem dX1_strew_17 : decode cX1_strew 17 = .ok (.getfield 33, 3) := by decide +kernel
theorem dX1_strew_20 : decode cX1_strew 20 = .ok (.iload_n 2, 1) := by decide +kernel
theorem dX1_strew_21 : decode cX1_strew 21 = .ok (.isub, 1) := by decide +kernel
theorem dX1_strew_22 : decode cX1_strew 22 = .ok (.putfield 33, 3) := by decide +kernel
theorem dX1_strew_25 : decode cX1_strew 25 = .ok (.return_, 1) := by decide +kernel
theorem dX1_keepIn_0 : decode cX1_keepIn 0 = .ok (.iconst 0, 1) := by decide +kernel
theorem dX1_keepIn_1 : decode cX1_keepIn 1 = .ok (.istore_n 2, 1) := by decide +kernel
theorem dX1_keepIn_2 : decode cX1_keepIn 2 = .ok (.iload_n 2, 1) := by decide +kernel
theorem dX1_keepIn_3 : decode cX1_keepIn 3 = .ok (.bipush 8, 2) := by decide +kernel
theorem dX1_keepIn_5 : decode cX1_keepIn 5 = .ok (.if_icmp .ge 23, 3) := by decide +kernel
theorem dX1_keepIn_8 : decode cX1_keepIn 8 = .ok (.aload_n 0, 1) := by decide +kernel
theorem dX1_keepIn_9 : decode cX1_keepIn 9 = .ok (.getfield 11, 3) := by decide +kernel
theorem dX1_keepIn_12 : decode cX1_keepIn 12 = .ok (.iload_n 2, 1) := by decide +kernel
theorem dX1_keepIn_13 : decode cX1_keepIn 13 = .ok (.aaload, 1) := by decide +kernel
theorem dX1_keepIn_14 : decode cX1_keepIn 14 = .ok (.aload_n 1, 1) := by decide +kernel
theorem dX1_keepIn_15 : decode cX1_keepIn 15 = .ok (.iload_n 2, 1) := by decide +kernel
theorem dX1_keepIn_16 : decode cX1_keepIn 16 = .ok (.bipush 9, 2) := by decide +kernel
theorem dX1_keepIn_18 : decode cX1_keepIn 18 = .ok (.imul, 1) := by decide +kernel
theorem dX1_keepIn_19 : decode cX1_keepIn 19 = .ok (.invokevirtual 55, 3) := by decide +kernel
theorem dX1_keepIn_22 : decode cX1_keepIn 22 = .ok (.iinc 2 1, 3) := by decide +kernel
theorem dX1_keepIn_25 : decode cX1_keepIn 25 = .ok (.goto (-23), 3) := by decide +kernel
theorem dX1_keepIn_28 : decode cX1_keepIn 28 = .ok (.aload_n 1, 1) := by decide +kernel
theorem dX1_keepIn_29 : decode cX1_keepIn 29 = .ok (.bipush 72, 2) := by decide +kernel
theorem dX1_keepIn_31 : decode cX1_keepIn 31 = .ok (.aload_n 0, 1) := by decide +kernel
theorem dX1_keepIn_32 : decode cX1_keepIn 32 = .ok (.getfield 17, 3) := by decide +kernel
theorem dX1_keepIn_35 : decode cX1_keepIn 35 = .ok (.iastore, 1) := by decide +kernel
theorem dX1_keepIn_36 : decode cX1_keepIn 36 = .ok (.aload_n 1, 1) := by decide +kernel
theorem dX1_keepIn_37 : decode cX1_keepIn 37 = .ok (.bipush 73, 2) := by decide +kernel
theorem dX1_keepIn_39 : decode cX1_keepIn 39 = .ok (.aload_n 0, 1) := by decide +kernel
theorem dX1_keepIn_40 : decode cX1_keepIn 40 = .ok (.getfield 21, 3) := by decide +kernel
theorem dX1_keepIn_43 : decode cX1_keepIn 43 = .ok (.iastore, 1) := by decide +kernel
theorem dX1_keepIn_44 : decode cX1_keepIn 44 = .ok (.aload_n 1, 1) := by decide +kernel
theorem dX1_keepIn_45 : decode cX1_keepIn 45 = .ok (.bipush 74, 2) := by decide +kernel
theorem dX1_keepIn_47 : decode cX1_keepIn 47 = .ok (.aload_n 0, 1) := by decide +kernel
theorem dX1_keepIn_48 : decode cX1_keepIn 48 = .ok (.getfield 33, 3) := by decide +kernel
theorem dX1_keepIn_51 : decode cX1_keepIn 51 = .ok (.iastore, 1) := by decide +kernel
theorem dX1_keepIn_52 : decode cX1_keepIn 52 = .ok (.return_, 1) := by decide +kernel
theorem dX1_takeFrom_0 : decode cX1_takeFrom 0 = .ok (.iconst 0, 1) := by decide +kernel
theorem dX1_takeFrom_1 : decode cX1_takeFrom 1 = .ok (.istore_n 2, 1) := by decide +kernel
theorem dX1_takeFrom_2 : decode cX1_takeFrom 2 = .ok (.iload_n 2, 1) := by decide +kernel
theorem dX1_takeFrom_3 : decode cX1_takeFrom 3 = .ok (.bipush 8, 2) := by decide +kernel
theorem dX1_takeFrom_5 : decode cX1_takeFrom 5 = .ok (.if_icmp .ge 23, 3) := by decide +kernel
theorem dX1_takeFrom_8 : decode cX1_takeFrom 8 = .ok (.aload_n 0, 1) := by decide +kernel
theorem dX1_takeFrom_9 : decode cX1_takeFrom 9 = .ok (.getfield 11, 3) := by decide +kernel
theorem dX1_takeFrom_12 : decode cX1_takeFrom 12 = .ok (.iload_n 2, 1) := by decide +kernel
theorem dX1_takeFrom_13 : decode cX1_takeFrom 13 = .ok (.aaload, 1) := by decide +kernel
theorem dX1_takeFrom_14 : decode cX1_takeFrom 14 = .ok (.aload_n 1, 1) := by decide +kernel
theorem dX1_takeFrom_15 : decode cX1_takeFrom 15 = .ok (.iload_n 2, 1) := by decide +kernel
theorem dX1_takeFrom_16 : decode cX1_takeFrom 16 = .ok (.bipush 9, 2) := by decide +kernel
theorem dX1_takeFrom_18 : decode cX1_takeFrom 18 = .ok (.imul, 1) := by decide +kernel
theorem dX1_takeFrom_19 : decode cX1_takeFrom 19 = .ok (.invokevirtual 59, 3) := by decide +kernel
theorem dX1_takeFrom_22 : decode cX1_takeFrom 22 = .ok (.iinc 2 1, 3) := by decide +kernel
theorem dX1_takeFrom_25 : decode cX1_takeFrom 25 = .ok (.goto (-23), 3) := by decide +kernel
theorem dX1_takeFrom_28 : decode cX1_takeFrom 28 = .ok (.aload_n 0, 1) := by decide +kernel
theorem dX1_takeFrom_29 : decode cX1_takeFrom 29 = .ok (.aload_n 1, 1) := by decide +kernel
theorem dX1_takeFrom_30 : decode cX1_takeFrom 30 = .ok (.bipush 72, 2) := by decide +kernel
theorem dX1_takeFrom_32 : decode cX1_takeFrom 32 = .ok (.iaload, 1) := by decide +kernel
theorem dX1_takeFrom_33 : decode cX1_takeFrom 33 = .ok (.putfield 17, 3) := by decide +kernel
theorem dX1_takeFrom_36 : decode cX1_takeFrom 36 = .ok (.aload_n 0, 1) := by decide +kernel
theorem dX1_takeFrom_37 : decode cX1_takeFrom 37 = .ok (.aload_n 1, 1) := by decide +kernel
theorem dX1_takeFrom_38 : decode cX1_takeFrom 38 = .ok (.bipush 73, 2) := by decide +kernel
theorem dX1_takeFrom_40 : decode cX1_takeFrom 40 = .ok (.iaload, 1) := by decide +kernel
theorem dX1_takeFrom_41 : decode cX1_takeFrom 41 = .ok (.putfield 21, 3) := by decide +kernel
theorem dX1_takeFrom_44 : decode cX1_takeFrom 44 = .ok (.aload_n 0, 1) := by decide +kernel
theorem dX1_takeFrom_45 : decode cX1_takeFrom 45 = .ok (.aload_n 1, 1) := by decide +kernel
theorem dX1_takeFrom_46 : decode cX1_takeFrom 46 = .ok (.bipush 74, 2) := by decide +kernel
theorem dX1_takeFrom_48 : decode cX1_takeFrom 48 = .ok (.iaload, 1) := by decide +kernel
theorem dX1_takeFrom_49 : decode cX1_takeFrom 49 = .ok (.putfield 33, 3) := by decide +kernel
theorem dX1_takeFrom_52 : decode cX1_takeFrom 52 = .ok (.return_, 1) := by decide +kernel
theorem dX2_init_0 : decode cX2_init 0 = .ok (.aload_n 0, 1) := by decide +kernel
theorem dX2_init_1 : decode cX2_init 1 = .ok (.invokespecial 3, 3) := by decide +kernel
theorem dX2_init_4 : decode cX2_init 4 = .ok (.aload_n 0, 1) := by decide +kernel
theorem dX2_init_5 : decode cX2_init 5 = .ok (.bipush 30, 2) := by decide +kernel
theorem dX2_init_7 : decode cX2_init 7 = .ok (.newarray .int, 2) := by decide +kernel
theorem dX2_init_9 : decode cX2_init 9 = .ok (.putfield 9, 3) := by decide +kernel
theorem dX2_init_12 : decode cX2_init 12 = .ok (.aload_n 0, 1) := by decide +kernel
theorem dX2_init_13 : decode cX2_init 13 = .ok (.bipush 30, 2) := by decide +kernel
theorem dX2_init_15 : decode cX2_init 15 = .ok (.newarray .int, 2) := by decide +kernel
theorem dX2_init_17 : decode cX2_init 17 = .ok (.putfield 15, 3) := by decide +kernel
theorem dX2_init_20 : decode cX2_init 20 = .ok (.aload_n 0, 1) := by decide +kernel
theorem dX2_init_21 : decode cX2_init 21 = .ok (.bipush 30, 2) := by decide +kernel
theorem dX2_init_23 : decode cX2_init 23 = .ok (.newarray .int, 2) := by decide +kernel
theorem dX2_init_25 : decode cX2_init 25 = .ok (.putfield 18, 3) := by decide +kernel
theorem dX2_init_28 : decode cX2_init 28 = .ok (.aload_n 0, 1) := by decide +kernel
theorem dX2_init_29 : decode cX2_init 29 = .ok (.iconst 0, 1) := by decide +kernel
theorem dX2_init_30 : decode cX2_init 30 = .ok (.putfield 21, 3) := by decide +kernel
theorem dX2_init_33 : decode cX2_init 33 = .ok (.aload_n 0, 1) := by decide +kernel
theorem dX2_init_34 : decode cX2_init 34 = .ok (.new 25, 3) := by decide +kernel
theorem dX2_init_37 : decode cX2_init 37 = .ok (.dup, 1) := by decide +kernel
theorem dX2_init_38 : decode cX2_init 38 = .ok (.invokespecial 27, 3) := by decide +kernel
theorem dX2_init_41 : decode cX2_init 41 = .ok (.putfield 28, 3) := by decide +kernel
theorem dX2_init_44 : decode cX2_init 44 = .ok (.aload_n 0, 1) := by decide +kernel
theorem dX2_init_45 : decode cX2_init 45 = .ok (.bipush 35, 2) := by decide +kernel
theorem dX2_init_47 : decode cX2_init 47 = .ok (.newarray .int, 2) := by decide +kernel
theorem dX2_init_49 : decode cX2_init 49 = .ok (.putfield 32, 3) := by decide +kernel
theorem dX2_init_52 : decode cX2_init 52 = .ok (.aload_n 0, 1) := by decide +kernel
theorem dX2_init_53 : decode cX2_init 53 = .ok (.iconst (-1), 1) := by decide +kernel
theorem dX2_init_54 : decode cX2_init 54 = .ok (.putfield 35, 3) := by decide +kernel
theorem dX2_init_57 : decode cX2_init 57 = .ok (.aload_n 0, 1) := by decide +kernel
theorem dX2_init_58 : decode cX2_init 58 = .ok (.iconst (-1), 1) := by decide +kernel
theorem dX2_init_59 : decode cX2_init 59 = .ok (.putfield 38, 3) := by decide +kernel
theorem dX2_init_62 : decode cX2_init 62 = .ok (.aload_n 0, 1) := by decide +kernel
theorem dX2_init_63 : decode cX2_init 63 = .ok (.iconst (-1), 1) := by decide +kernel
theorem dX2_init_64 : decode cX2_init 64 = .ok (.putfield 41, 3) := by decide +kernel
theorem dX2_init_67 : decode cX2_init 67 = .ok (.return_, 1) := by decide +kernel
theorem dX2_clear_0 : decode cX2_clear 0 = .ok (.aload_n 0, 1) := by decide +kernel
theorem dX2_clear_1 : decode cX2_clear 1 = .ok (.iconst 0, 1) := by decide +kernel
theorem dX2_clear_2 : decode cX2_clear 2 = .ok (.putfield 21, 3) := by decide +kernel
theorem dX2_clear_5 : decode cX2_clear 5 = .ok (.return_, 1) := by decide +kernel
theorem dX2_add_0 : decode cX2_add 0 = .ok (.aload_n 0, 1) := by decide +kernel
theorem dX2_add_1 : decode cX2_add 1 = .ok (.getfield 21, 3) := by decide +kernel
theorem dX2_add_4 : decode cX2_add 4 = .ok (.bipush 30, 2) := by decide +kernel
theorem dX2_add_6 : decode cX2_add 6 = .ok (.if_icmp .lt 5, 3) := by decide +kernel
theorem dX2_add_9 : decode cX2_add 9 = .ok (.iconst (-1), 1) := by decide +kernel
theorem dX2_add_10 : decode cX2_add 10 = .ok (.ireturn, 1) := by decide +kernel
theorem dX2_add_11 : decode cX2_add 11 = .ok (.aload_n 0, 1) := by decide +kernel
theorem dX2_add_12 : decode cX2_add 12 = .ok (.getfield 9, 3) := by decide +kernel
theorem dX2_add_15 : decode cX2_add 15 = .ok (.aload_n 0, 1) := by decide +kernel
theorem dX2_add_16 : decode cX2_add 16 = .ok (.getfield 21, 3) := by decide +kernel
theorem dX2_add_19 : decode cX2_add 19 = .ok (.iload_n 1, 1) := by decide +kernel
theorem dX2_add_20 : decode cX2_add 20 = .ok (.iastore, 1) := by decide +kernel
theorem dX2_add_21 : decode cX2_add 21 = .ok (.aload_n 0, 1) := by decide +kernel
theorem dX2_add_22 : decode cX2_add 22 = .ok (.getfield 15, 3) := by decide +kernel
theorem dX2_add_25 : decode cX2_add 25 = .ok (.aload_n 0, 1) := by decide +kernel
theorem dX2_add_26 : decode cX2_add 26 = .ok (.getfield 21, 3) := by decide +kernel
theorem dX2_add_29 : decode cX2_add 29 = .ok (.iconst (-1), 1) := by decide +kernel
theorem dX2_add_30 : decode cX2_add 30 = .ok (.iastore, 1) := by decide +kernel
theorem dX2_add_31 : decode cX2_add 31 = .ok (.aload_n 0, 1) := by decide +kernel
theorem dX2_add_32 : decode cX2_add 32 = .ok (.getfield 18, 3) := by decide +kernel
theorem dX2_add_35 : decode cX2_add 35 = .ok (.aload_n 0, 1) := by decide +kernel
theorem dX2_add_36 : decode cX2_add 36 = .ok (.getfield 21, 3) := by decide +kernel
theorem dX2_add_39 : decode cX2_add 39 = .ok (.iload_n 2, 1) := by decide +kernel
theorem dX2_add_40 : decode cX2_add 40 = .ok (.iastore, 1) := by decide +kernel
theorem dX2_add_41 : decode cX2_add 41 = .ok (.aload_n 0, 1) := by decide +kernel
theorem dX2_add_42 : decode cX2_add 42 = .ok (.dup, 1) := by decide +kernel
theorem dX2_add_43 : decode cX2_add 43 = .ok (.getfield 21, 3) := by decide +kernel
theorem dX2_add_46 : decode cX2_add 46 = .ok (.iconst 1, 1) := by decide +kernel
theorem dX2_add_47 : decode cX2_add 47 = .ok (.iadd, 1) := by decide +kernel
theorem dX2_add_48 : decode cX2_add 48 = .ok (.putfield 21, 3) := by decide +kernel
theorem dX2_add_51 : decode cX2_add 51 = .ok (.aload_n 0, 1) := by decide +kernel
theorem dX2_add_52 : decode cX2_add 52 = .ok (.getfield 21, 3) := by decide +kernel
theorem dX2_add_55 : decode cX2_add 55 = .ok (.iconst 1, 1) := by decide +kernel
theorem dX2_add_56 : decode cX2_add 56 = .ok (.isub, 1) := by decide +kernel
theorem dX2_add_57 : decode cX2_add 57 = .ok (.ireturn, 1) := by decide +kernel
theorem dX2_takeBack_0 : decode cX2_takeBack 0 = .ok (.iload_n 1, 1) := by decide +kernel
theorem dX2_takeBack_1 : decode cX2_takeBack 1 = .ok (.ifCond .lt 21, 3) := by decide +kernel
theorem dX2_takeBack_4 : decode cX2_takeBack 4 = .ok (.iload_n 1, 1) := by decide +kernel
theorem dX2_takeBack_5 : decode cX2_takeBack 5 = .ok (.aload_n 0, 1) := by decide +kernel
theorem dX2_takeBack_6 : decode cX2_takeBack 6 = .ok (.getfield 21, 3) := by decide +kernel
theorem dX2_takeBack_9 : decode cX2_takeBack 9 = .ok (.if_icmp .ge 13, 3) := by decide +kernel
theorem dX2_takeBack_12 : decode cX2_takeBack 12 = .ok (.aload_n 0, 1) := by decide +kernel
theorem dX2_takeBack_13 : decode cX2_takeBack 13 = .ok (.getfield 15, 3) := by decide +kernel
theorem dX2_takeBack_16 : decode cX2_takeBack 16 = .ok (.iload_n 1, 1) := by decide +kernel
theorem dX2_takeBack_17 : decode cX2_takeBack 17 = .ok (.iaload, 1) := by decide +kernel
theorem dX2_takeBack_18 : decode cX2_takeBack 18 = .ok (.iconst (-1), 1) := by decide +kernel
theorem dX2_takeBack_19 : decode cX2_takeBack 19 = .ok (.if_icmp .eq 5, 3) := by decide +kernel
theorem dX2_takeBack_22 : decode cX2_takeBack 22 = .ok (.iconst 0, 1) := by decide +kernel
theorem dX2_takeBack_23 : decode cX2_takeBack 23 = .ok (.ireturn, 1) := by decide +kernel
theorem dX2_takeBack_24 : decode cX2_takeBack 24 = .ok (.aload_n 0, 1) := by decide +kernel
theorem dX2_takeBack_25 : decode cX2_takeBack 25 = .ok (.getfield 15, 3) := by decide +kernel
theorem dX2_takeBack_28 : decode cX2_takeBack 28 = .ok (.iload_n 1, 1) := by decide +kernel
theorem dX2_takeBack_29 : decode cX2_takeBack 29 = .ok (.iload_n 2, 1) := by decide +kernel
theorem dX2_takeBack_30 : decode cX2_takeBack 30 = .ok (.iastore, 1) := by decide +kernel
theorem dX2_takeBack_31 : decode cX2_takeBack 31 = .ok (.iconst 1, 1) := by decide +kernel
theorem dX2_takeBack_32 : decode cX2_takeBack 32 = .ok (.ireturn, 1) := by decide +kernel
theorem dX2_leftAt_0 : decode cX2_leftAt 0 = .ok (.iconst 1, 1) := by decide +kernel
theorem dX2_leftAt_1 : decode cX2_leftAt 1 = .ok (.aload_n 2, 1) := by decide +kernel
theorem dX2_leftAt_2 : decode cX2_leftAt 2 = .ok (.getfield 44, 3) := by decide +kernel
theorem dX2_leftAt_5 : decode cX2_leftAt 5 = .ok (.ishl, 1) := by decide +kernel
theorem dX2_leftAt_6 : decode cX2_leftAt 6 = .ok (.iconst 1, 1) := by decide +kernel
theorem dX2_leftAt_7 : decode cX2_leftAt 7 = .ok (.isub, 1) := by decide +kernel
theorem dX2_leftAt_8 : decode cX2_leftAt 8 = .ok (.istore_n 3, 1) := by decide +kernel
theorem dX2_leftAt_9 : decode cX2_leftAt 9 = .ok (.iconst 0, 1) := by decide +kernel
theorem dX2_leftAt_10 : decode cX2_leftAt 10 = .ok (.istore 4, 2) := by decide +kernel
theorem dX2_leftAt_12 : decode cX2_leftAt 12 = .ok (.iload 4, 2) := by decide +kernel
theorem dX2_leftAt_14 : decode cX2_leftAt 14 = .ok (.aload_n 0, 1) := by decide +kernel
theorem dX2_leftAt_15 : decode cX2_leftAt 15 = .ok (.getfield 21, 3) := by decide +kernel
theorem dX2_leftAt_18 : decode cX2_leftAt 18 = .ok (.if_icmp .ge 64, 3) := by decide +kernel
theorem dX2_leftAt_21 : decode cX2_leftAt 21 = .ok (.aload_n 0, 1) := by decide +kernel
theorem dX2_leftAt_22 : decode cX2_leftAt 22 = .ok (.getfield 15, 3) := by decide +kernel
theorem dX2_leftAt_25 : decode cX2_leftAt 25 = .ok (.iload 4, 2) := by decide +kernel
theorem dX2_leftAt_27 : decode cX2_leftAt 27 = .ok (.iaload, 1) := by decide +kernel
theorem dX2_leftAt_28 : decode cX2_leftAt 28 = .ok (.iconst (-1), 1) := by decide +kernel
theorem dX2_leftAt_29 : decode cX2_leftAt 29 = .ok (.if_icmp .eq 18, 3) := by decide +kernel
theorem dX2_leftAt_32 : decode cX2_leftAt 32 = .ok (.aload_n 0, 1) := by decide +kernel
theorem dX2_leftAt_33 : decode cX2_leftAt 33 = .ok (.getfield 15, 3) := by decide +kernel
theorem dX2_leftAt_36 : decode cX2_leftAt 36 = .ok (.iload 4, 2) := by decide +kernel
theorem dX2_leftAt_38 : decode cX2_leftAt 38 = .ok (.iaload, 1) := by decide +kernel
theorem dX2_leftAt_39 : decode cX2_leftAt 39 = .ok (.iload_n 1, 1) := by decide +kernel
theorem dX2_leftAt_40 : decode cX2_leftAt 40 = .ok (.if_icmp .gt 7, 3) := by decide +kernel
theorem dX2_leftAt_43 : decode cX2_leftAt 43 = .ok (.iconst 1, 1) := by decide +kernel
theorem dX2_leftAt_44 : decode cX2_leftAt 44 = .ok (.goto 4, 3) := by decide +kernel
theorem dX2_leftAt_47 : decode cX2_leftAt 47 = .ok (.iconst 0, 1) := by decide +kernel
theorem dX2_leftAt_48 : decode cX2_leftAt 48 = .ok (.istore 5, 2) := by decide +kernel
theorem dX2_leftAt_50 : decode cX2_leftAt 50 = .ok (.aload_n 0, 1) := by decide +kernel
theorem dX2_leftAt_51 : decode cX2_leftAt 51 = .ok (.getfield 9, 3) := by decide +kernel
theorem dX2_leftAt_54 : decode cX2_leftAt 54 = .ok (.iload 4, 2) := by decide +kernel
theorem dX2_leftAt_56 : decode cX2_leftAt 56 = .ok (.iaload, 1) := by decide +kernel
theorem dX2_leftAt_57 : decode cX2_leftAt 57 = .ok (.iload_n 1, 1) := by decide +kernel
theorem dX2_leftAt_58 : decode cX2_leftAt 58 = .ok (.if_icmp .gt 18, 3) := by decide +kernel
theorem dX2_leftAt_61 : decode cX2_leftAt 61 = .ok (.iload 5, 2) := by decide +kernel
theorem dX2_leftAt_63 : decode cX2_leftAt 63 = .ok (.ifCond .ne 13, 3) := by decide +kernel
theorem dX2_leftAt_66 : decode cX2_leftAt 66 = .ok (.iload_n 3, 1) := by decide +kernel
theorem dX2_leftAt_67 : decode cX2_leftAt 67 = .ok (.aload_n 0, 1) := by decide +kernel
theorem dX2_leftAt_68 : decode cX2_leftAt 68 = .ok (.getfield 18, 3) := by decide +kernel
theorem dX2_leftAt_71 : decode cX2_leftAt 71 = .ok (.iload 4, 2) := by decide +kernel
theorem dX2_leftAt_73 : decode cX2_leftAt 73 = .ok (.iaload, 1) := by decide +kernel
theorem dX2_leftAt_74 : decode cX2_leftAt 74 = .ok (.iand, 1) := by decide +kernel
theorem dX2_leftAt_75 : decode cX2_leftAt 75 = .ok (.istore_n 3, 1) := by decide +kernel
theorem dX2_leftAt_76 : decode cX2_leftAt 76 = .ok (.iinc 4 1, 3) := by decide +kernel
theorem dX2_leftAt_79 : decode cX2_leftAt 79 = .ok (.goto (-67), 3) := by decide +kernel
theorem dX2_leftAt_82 : decode cX2_leftAt 82 = .ok (.iload_n 3, 1) := by decide +kernel
theorem dX2_leftAt_83 : decode cX2_leftAt 83 = .ok (.ireturn, 1) := by decide +kernel
theorem dX2_lookBack_0 : decode cX2_lookBack 0 = .ok (.aload_n 1, 1) := by decide +kernel
theorem dX2_lookBack_1 : decode cX2_lookBack 1 = .ok (.getfield 49, 3) := by decide +kernel
theorem dX2_lookBack_4 : decode cX2_lookBack 4 = .ok (.iload_n 2, 1) := by decide +kernel
theorem dX2_lookBack_5 : decode cX2_lookBack 5 = .ok (.aaload, 1) := by decide +kernel
theorem dX2_lookBack_6 : decode cX2_lookBack 6 = .ok (.astore 5, 2) := by decide +kernel
theorem dX2_lookBack_8 : decode cX2_lookBack 8 = .ok (.aload_n 0, 1) := by decide +kernel
theorem dX2_lookBack_9 : decode cX2_lookBack 9 = .ok (.getfield 28, 3) := by decide +kernel
theorem dX2_lookBack_12 : decode cX2_lookBack 12 = .ok (.aload 5, 2) := by decide +kernel
theorem dX2_lookBack_14 : decode cX2_lookBack 14 = .ok (.invokevirtual 53, 3) := by decide +kernel
theorem dX2_lookBack_17 : decode cX2_lookBack 17 = .ok (.iconst 0, 1) := by decide +kernel
theorem dX2_lookBack_18 : decode cX2_lookBack 18 = .ok (.istore 6, 2) := by decide +kernel
theorem dX2_lookBack_20 : decode cX2_lookBack 20 = .ok (.iload 6, 2) := by decide +kernel
theorem dX2_lookBack_22 : decode cX2_lookBack 22 = .ok (.iload 4, 2) := by decide +kernel
theorem dX2_lookBack_24 : decode cX2_lookBack 24 = .ok (.if_icmp .ge 27, 3) := by decide +kernel
theorem dX2_lookBack_27 : decode cX2_lookBack 27 = .ok (.aload_n 0, 1) := by decide +kernel
theorem dX2_lookBack_28 : decode cX2_lookBack 28 = .ok (.getfield 28, 3) := by decide +kernel
theorem dX2_lookBack_31 : decode cX2_lookBack 31 = .ok (.aload 5, 2) := by decide +kernel
theorem dX2_lookBack_33 : decode cX2_lookBack 33 = .ok (.aload_n 1, 1) := by decide +kernel
theorem dX2_lookBack_34 : decode cX2_lookBack 34 = .ok (.iload 6, 2) := by decide +kernel
theorem dX2_lookBack_36 : decode cX2_lookBack 36 = .ok (.aload_n 1, 1) := by decide +kernel
theorem dX2_lookBack_37 : decode cX2_lookBack 37 = .ok (.getfield 57, 3) := by decide +kernel
theorem dX2_lookBack_40 : decode cX2_lookBack 40 = .ok (.iload_n 3, 1) := by decide +kernel
theorem dX2_lookBack_41 : decode cX2_lookBack 41 = .ok (.iaload, 1) := by decide +kernel
theorem dX2_lookBack_42 : decode cX2_lookBack 42 = .ok (.invokevirtual 60, 3) := by decide +kernel
theorem dX2_lookBack_45 : decode cX2_lookBack 45 = .ok (.iinc 6 1, 3) := by decide +kernel
theorem dX2_lookBack_48 : decode cX2_lookBack 48 = .ok (.goto (-28), 3) := by decide +kernel
theorem dX2_lookBack_51 : decode cX2_lookBack 51 = .ok (.return_, 1) := by decide +kernel
theorem dX2_shown_0 : decode cX2_shown 0 = .ok (.aload_n 0, 1) := by decide +kernel
theorem dX2_shown_1 : decode cX2_shown 1 = .ok (.getfield 28, 3) := by decide +kernel
theorem dX2_shown_4 : decode cX2_shown 4 = .ok (.getfield 64, 3) := by decide +kernel
theorem dX2_shown_7 : decode cX2_shown 7 = .ok (.iload_n 1, 1) := by decide +kernel
theorem dX2_shown_8 : decode cX2_shown 8 = .ok (.iaload, 1) := by decide +kernel
theorem dX2_shown_9 : decode cX2_shown 9 = .ok (.ireturn, 1) := by decide +kernel
theorem dX2_choose_0 : decode cX2_choose 0 = .ok (.aload_n 0, 1) := by decide +kernel
theorem dX2_choose_1 : decode cX2_choose 1 = .ok (.bipush 8, 2) := by decide +kernel
theorem dX2_choose_3 : decode cX2_choose 3 = .ok (.putfield 41, 3) := by decide +kernel
theorem dX2_choose_6 : decode cX2_choose 6 = .ok (.iconst 0, 1) := by decide +kernel
theorem dX2_choose_7 : decode cX2_choose 7 = .ok (.istore 4, 2) := by decide +kernel
theorem dX2_choose_9 : decode cX2_choose 9 = .ok (.iload 4, 2) := by decide +kernel
theorem dX2_choose_11 : decode cX2_choose 11 = .ok (.aload_n 1, 1) := by decide +kernel
theorem dX2_choose_12 : decode cX2_choose 12 = .ok (.getfield 67, 3) := by decide +kernel
theorem dX2_choose_15 : decode cX2_choose 15 = .ok (.if_icmp .ge 130, 3) := by decide +kernel
theorem dX2_choose_18 : decode cX2_choose 18 = .ok (.iconst 0, 1) := by decide +kernel
theorem dX2_choose_19 : decode cX2_choose 19 = .ok (.istore 5, 2) := by decide +kernel
theorem dX2_choose_21 : decode cX2_choose 21 = .ok (.iload 5, 2) := by decide +kernel
theorem dX2_choose_23 : decode cX2_choose 23 = .ok (.aload_n 1, 1) := by decide +kernel
theorem dX2_choose_24 : decode cX2_choose 24 = .ok (.getfield 44, 3) := by decide +kernel
theorem dX2_choose_27 : decode cX2_choose 27 = .ok (.if_icmp .ge 48, 3) := by decide +kernel
theorem dX2_choose_30 : decode cX2_choose 30 = .ok (.iload_n 3, 1) := by decide +kernel
theorem dX2_choose_31 : decode cX2_choose 31 = .ok (.iload 5, 2) := by decide +kernel
theorem dX2_choose_33 : decode cX2_choose 33 = .ok (.ishr, 1) := by decide +kernel
theorem dX2_choose_34 : decode cX2_choose 34 = .ok (.iconst 1, 1) := by decide +kernel
theorem dX2_choose_35 : decode cX2_choose 35 = .ok (.iand, 1) := by decide +kernel
theorem dX2_choose_36 : decode cX2_choose 36 = .ok (.ifCond .eq 33, 3) := by decide +kernel
theorem dX2_choose_39 : decode cX2_choose 39 = .ok (.aload_n 0, 1) := by decide +kernel
theorem dX2_choose_40 : decode cX2_choose 40 = .ok (.aload_n 1, 1) := by decide +kernel
theorem dX2_choose_41 : decode cX2_choose 41 = .ok (.iload 4, 2) := by decide +kernel
theorem dX2_choose_43 : decode cX2_choose 43 = .ok (.iload 5, 2) := by decide +kernel
theorem dX2_choose_45 : decode cX2_choose 45 = .ok (.iload_n 2, 1) := by decide +kernel
theorem dX2_choose_46 : decode cX2_choose 46 = .ok (.invokevirtual 70, 3) := by decide +kernel
theorem dX2_choose_49 : decode cX2_choose 49 = .ok (.aload_n 0, 1) := by decide +kernel
theorem dX2_choose_50 : decode cX2_choose 50 = .ok (.getfield 28, 3) := by decide +kernel
theorem dX2_choose_53 : decode cX2_choose 53 = .ok (.getfield 64, 3) := by decide +kernel
theorem dX2_choose_56 : decode cX2_choose 56 = .ok (.iconst 0, 1) := by decide +kernel
theorem dX2_choose_57 : decode cX2_choose 57 = .ok (.aload_n 0, 1) := by decide +kernel
theorem dX2_choose_58 : decode cX2_choose 58 = .ok (.getfield 32, 3) := by decide +kernel
theorem dX2_choose_61 : decode cX2_choose 61 = .ok (.iload 5, 2) := by decide +kernel
theorem dX2_choose_63 : decode cX2_choose 63 = .ok (.iconst 5, 1) := by decide +kernel
theorem dX2_choose_64 : decode cX2_choose 64 = .ok (.imul, 1) := by decide +kernel
theorem dX2_choose_65 : decode cX2_choose 65 = .ok (.iconst 5, 1) := by decide +kernel
theorem dX2_choose_66 : decode cX2_choose 66 = .ok (.invokestatic 74, 3) := by decide +kernel
theorem dX2_choose_69 : decode cX2_choose 69 = .ok (.iinc 5 1, 3) := by decide +kernel
theorem dX2_choose_72 : decode cX2_choose 72 = .ok (.goto (-51), 3) := by decide +kernel
theorem dX2_choose_75 : decode cX2_choose 75 = .ok (.iconst 0, 1) := by decide +kernel
theorem dX2_choose_76 : decode cX2_choose 76 = .ok (.istore 5, 2) := by decide +kernel
theorem dX2_choose_78 : decode cX2_choose 78 = .ok (.iload 5, 2) := by decide +kernel
theorem dX2_choose_80 : decode cX2_choose 80 = .ok (.aload_n 1, 1) := by decide +kernel
theorem dX2_choose_81 : decode cX2_choose 81 = .ok (.getfield 49, 3) := by decide +kernel
theorem dX2_choose_84 : decode cX2_choose 84 = .ok (.iload 4, 2) := by decide +kernel
theorem dX2_choose_86 : decode cX2_choose 86 = .ok (.aaload, 1) := by decide +kernel
theorem dX2_choose_87 : decode cX2_choose 87 = .ok (.getfield 80, 3) := by decide +kernel
theorem dX2_choose_90 : decode cX2_choose 90 = .ok (.if_icmp .ge 49, 3) := by decide +kernel
theorem dX2_choose_93 : decode cX2_choose 93 = .ok (.aload_n 0, 1) := by decide +kernel
theorem dX2_choose_94 : decode cX2_choose 94 = .ok (.iload 5, 2) := by decide +kernel
theorem dX2_choose_96 : decode cX2_choose 96 = .ok (.aload_n 1, 1) := by decide +kernel
theorem dX2_choose_97 : decode cX2_choose 97 = .ok (.getfield 44, 3) := by decide +kernel
theorem dX2_choose_100 : decode cX2_choose 100 = .ok (.iload_n 3, 1) := by decide +kernel
theorem dX2_choose_101 : decode cX2_choose 101 = .ok (.invokevirtual 85, 3) := by decide +kernel
theorem dX2_choose_104 : decode cX2_choose 104 = .ok (.istore 6, 2) := by decide +kernel
theorem dX2_choose_106 : decode cX2_choose 106 = .ok (.iload 6, 2) := by decide +kernel
theorem dX2_choose_108 : decode cX2_choose 108 = .ok (.aload_n 0, 1) := by decide +kernel
theorem dX2_choose_109 : decode cX2_choose 109 = .ok (.getfield 41, 3) := by decide +kernel
theorem dX2_choose_112 : decode cX2_choose 112 = .ok (.if_icmp .ge 21, 3) := by decide +kernel
theorem dX2_choose_115 : decode cX2_choose 115 = .ok (.aload_n 0, 1) := by decide +kernel
theorem dX2_choose_116 : decode cX2_choose 116 = .ok (.iload 4, 2) := by decide +kernel
theorem dX2_choose_118 : decode cX2_choose 118 = .ok (.putfield 35, 3) := by decide +kernel
theorem dX2_choose_121 : decode cX2_choose 121 = .ok (.aload_n 0, 1) := by decide +kernel
theorem dX2_choose_122 : decode cX2_choose 122 = .ok (.iload 5, 2) := by decide +kernel
theorem dX2_choose_124 : decode cX2_choose 124 = .ok (.putfield 38, 3) := by decide +kernel
theorem dX2_choose_127 : decode cX2_choose 127 = .ok (.aload_n 0, 1) := by decide +kernel
theorem dX2_choose_128 : decode cX2_choose 128 = .ok (.iload 6, 2) := by decide +kernel
theorem dX2_choose_130 : decode cX2_choose 130 = .ok (.putfield 41, 3) := by decide +kernel
theorem dX2_choose_133 : decode cX2_choose 133 = .ok (.iinc 5 1, 3) := by decide +kernel
theorem dX2_choose_136 : decode cX2_choose 136 = .ok (.goto (-58), 3) := by decide +kernel
theorem dX2_choose_139 : decode cX2_choose 139 = .ok (.iinc 4 1, 3) := by decide +kernel
theorem dX2_choose_142 : decode cX2_choose 142 = .ok (.goto (-133), 3) := by decide +kernel
theorem dX2_choose_145 : decode cX2_choose 145 = .ok (.return_, 1) := by decide +kernel
theorem dX2_mostAlike_0 : decode cX2_mostAlike 0 = .ok (.iconst 0, 1) := by decide +kernel
theorem dX2_mostAlike_1 : decode cX2_mostAlike 1 = .ok (.istore 4, 2) := by decide +kernel
theorem dX2_mostAlike_3 : decode cX2_mostAlike 3 = .ok (.iconst 0, 1) := by decide +kernel
theorem dX2_mostAlike_4 : decode cX2_mostAlike 4 = .ok (.istore 5, 2) := by decide +kernel
theorem dX2_mostAlike_6 : decode cX2_mostAlike 6 = .ok (.iload 5, 2) := by decide +kernel
theorem dX2_mostAlike_8 : decode cX2_mostAlike 8 = .ok (.iload_n 2, 1) := by decide +kernel
theorem dX2_mostAlike_9 : decode cX2_mostAlike 9 = .ok (.if_icmp .ge 101, 3) := by decide +kernel
theorem dX2_mostAlike_12 : decode cX2_mostAlike 12 = .ok (.iconst 0, 1) := by decide +kernel
theorem dX2_mostAlike_13 : decode cX2_mostAlike 13 = .ok (.istore 6, 2) := by decide +kernel
theorem dX2_mostAlike_15 : decode cX2_mostAlike 15 = .ok (.iconst 0, 1) := by decide +kernel
theorem dX2_mostAlike_16 : decode cX2_mostAlike 16 = .ok (.istore 7, 2) := by decide +kernel
theorem dX2_mostAlike_18 : decode cX2_mostAlike 18 = .ok (.iload 7, 2) := by decide +kernel
theorem dX2_mostAlike_20 : decode cX2_mostAlike 20 = .ok (.iload_n 2, 1) := by decide +kernel
theorem dX2_mostAlike_21 : decode cX2_mostAlike 21 = .ok (.if_icmp .ge 74, 3) := by decide +kernel
theorem dX2_mostAlike_24 : decode cX2_mostAlike 24 = .ok (.iload_n 3, 1) := by decide +kernel
theorem dX2_mostAlike_25 : decode cX2_mostAlike 25 = .ok (.iload 5, 2) := by decide +kernel
theorem dX2_mostAlike_27 : decode cX2_mostAlike 27 = .ok (.ishr, 1) := by decide +kernel
theorem dX2_mostAlike_28 : decode cX2_mostAlike 28 = .ok (.iconst 1, 1) := by decide +kernel
theorem dX2_mostAlike_29 : decode cX2_mostAlike 29 = .ok (.iand, 1) := by decide +kernel
theorem dX2_mostAlike_30 : decode cX2_mostAlike 30 = .ok (.ifCond .eq 65, 3) := by decide +kernel
theorem dX2_mostAlike_33 : decode cX2_mostAlike 33 = .ok (.aload_n 0, 1) := by decide +kernel
theorem dX2_mostAlike_34 : decode cX2_mostAlike 34 = .ok (.getfield 32, 3) := by decide +kernel
theorem dX2_mostAlike_37 : decode cX2_mostAlike 37 = .ok (.iload 5, 2) := by decide +kernel
theorem dX2_mostAlike_39 : decode cX2_mostAlike 39 = .ok (.iconst 5, 1) := by decide +kernel
theorem dX2_mostAlike_40 : decode cX2_mostAlike 40 = .ok (.imul, 1) := by decide +kernel
theorem dX2_mostAlike_41 : decode cX2_mostAlike 41 = .ok (.iload_n 1, 1) := by decide +kernel
theorem dX2_mostAlike_42 : decode cX2_mostAlike 42 = .ok (.iadd, 1) := by decide +kernel
theorem dX2_mostAlike_43 : decode cX2_mostAlike 43 = .ok (.iaload, 1) := by decide +kernel
theorem dX2_mostAlike_44 : decode cX2_mostAlike 44 = .ok (.aload_n 0, 1) := by decide +kernel
theorem dX2_mostAlike_45 : decode cX2_mostAlike 45 = .ok (.getfield 32, 3) := by decide +kernel
theorem dX2_mostAlike_48 : decode cX2_mostAlike 48 = .ok (.iload 7, 2) := by decide +kernel
theorem dX2_mostAlike_50 : decode cX2_mostAlike 50 = .ok (.iconst 5, 1) := by decide +kernel
theorem dX2_mostAlike_51 : decode cX2_mostAlike 51 = .ok (.imul, 1) := by decide +kernel
theorem dX2_mostAlike_52 : decode cX2_mostAlike 52 = .ok (.iload_n 1, 1) := by decide +kernel
theorem dX2_mostAlike_53 : decode cX2_mostAlike 53 = .ok (.iadd, 1) := by decide +kernel
theorem dX2_mostAlike_54 : decode cX2_mostAlike 54 = .ok (.iaload, 1) := by decide +kernel
theorem dX2_mostAlike_55 : decode cX2_mostAlike 55 = .ok (.if_icmp .ne 7, 3) := by decide +kernel
theorem dX2_mostAlike_58 : decode cX2_mostAlike 58 = .ok (.iconst 1, 1) := by decide +kernel
theorem dX2_mostAlike_59 : decode cX2_mostAlike 59 = .ok (.goto 4, 3) := by decide +kernel
theorem dX2_mostAlike_62 : decode cX2_mostAlike 62 = .ok (.iconst 0, 1) := by decide +kernel
theorem dX2_mostAlike_63 : decode cX2_mostAlike 63 = .ok (.istore 8, 2) := by decide +kernel
theorem dX2_mostAlike_65 : decode cX2_mostAlike 65 = .ok (.iload 6, 2) := by decide +kernel
theorem dX2_mostAlike_67 : decode cX2_mostAlike 67 = .ok (.iload 8, 2) := by decide +kernel
theorem dX2_mostAlike_69 : decode cX2_mostAlike 69 = .ok (.ifCond .eq 16, 3) := by decide +kernel
theorem dX2_mostAlike_72 : decode cX2_mostAlike 72 = .ok (.iload_n 3, 1) := by decide +kernel
theorem dX2_mostAlike_73 : decode cX2_mostAlike 73 = .ok (.iload 7, 2) := by decide +kernel
theorem dX2_mostAlike_75 : decode cX2_mostAlike 75 = .ok (.ishr, 1) := by decide +kernel
theorem dX2_mostAlike_76 : decode cX2_mostAlike 76 = .ok (.iconst 1, 1) := by decide +kernel
theorem dX2_mostAlike_77 : decode cX2_mostAlike 77 = .ok (.iand, 1) := by decide +kernel
theorem dX2_mostAlike_78 : decode cX2_mostAlike 78 = .ok (.ifCond .eq 7, 3) := by decide +kernel
theorem dX2_mostAlike_81 : decode cX2_mostAlike 81 = .ok (.iconst 1, 1) := by decide +kernel
theorem dX2_mostAlike_82 : decode cX2_mostAlike 82 = .ok (.goto 4, 3) := by decide +kernel
theorem dX2_mostAlike_85 : decode cX2_mostAlike 85 = .ok (.iconst 0, 1) := by decide +kernel
theorem dX2_mostAlike_86 : decode cX2_mostAlike 86 = .ok (.iadd, 1) := by decide +kernel
theorem dX2_mostAlike_87 : decode cX2_mostAlike 87 = .ok (.istore 6, 2) := by decide +kernel
theorem dX2_mostAlike_89 : decode cX2_mostAlike 89 = .ok (.iinc 7 1, 3) := by decide +kernel
theorem dX2_mostAlike_92 : decode cX2_mostAlike 92 = .ok (.goto (-74), 3) := by decide +kernel
theorem dX2_mostAlike_95 : decode cX2_mostAlike 95 = .ok (.iload 4, 2) := by decide +kernel
theorem dX2_mostAlike_97 : decode cX2_mostAlike 97 = .ok (.iload 6, 2) := by decide +kernel
theorem dX2_mostAlike_99 : decode cX2_mostAlike 99 = .ok (.invokestatic 89, 3) := by decide +kernel
theorem dX2_mostAlike_102 : decode cX2_mostAlike 102 = .ok (.istore 4, 2) := by decide +kernel
theorem dX2_mostAlike_104 : decode cX2_mostAlike 104 = .ok (.iinc 5 1, 3) := by decide +kernel
theorem dX2_mostAlike_107 : decode cX2_mostAlike 107 = .ok (.goto (-101), 3) := by decide +kernel
theorem dX2_mostAlike_110 : decode cX2_mostAlike 110 = .ok (.iload 4, 2) := by decide +kernel
theorem dX2_mostAlike_112 : decode cX2_mostAlike 112 = .ok (.ireturn, 1) := by decide +kernel
theorem dX3_init_0 : decode cX3_init 0 = .ok (.aload_n 0, 1) := by decide +kernel
theorem dX3_init_1 : decode cX3_init 1 = .ok (.invokespecial 3, 3) := by decide +kernel
theorem dX3_init_4 : decode cX3_init 4 = .ok (.aload_n 0, 1) := by decide +kernel
theorem dX3_init_5 : decode cX3_init 5 = .ok (.bipush 64, 2) := by decide +kernel
theorem dX3_init_7 : decode cX3_init 7 = .ok (.newarray .int, 2) := by decide +kernel
theorem dX3_init_9 : decode cX3_init 9 = .ok (.putfield 9, 3) := by decide +kernel
theorem dX3_init_12 : decode cX3_init 12 = .ok (.aload_n 0, 1) := by decide +kernel
theorem dX3_init_13 : decode cX3_init 13 = .ok (.sipush 576, 3) := by decide +kernel
theorem dX3_init_16 : decode cX3_init 16 = .ok (.newarray .byte, 2) := by decide +kernel
theorem dX3_init_18 : decode cX3_init 18 = .ok (.putfield 15, 3) := by decide +kernel
theorem dX3_init_21 : decode cX3_init 21 = .ok (.aload_n 0, 1) := by decide +kernel
theorem dX3_init_22 : decode cX3_init 22 = .ok (.bipush 7, 2) := by decide +kernel
theorem dX3_init_24 : decode cX3_init 24 = .ok (.newarray .int, 2) := by decide +kernel
theorem dX3_init_26 : decode cX3_init 26 = .ok (.putfield 19, 3) := by decide +kernel
theorem dX3_init_29 : decode cX3_init 29 = .ok (.aload_n 0, 1) := by decide +kernel
theorem dX3_init_30 : decode cX3_init 30 = .ok (.bipush 7, 2) := by decide +kernel
theorem dX3_init_32 : decode cX3_init 32 = .ok (.newarray .int, 2) := by decide +kernel
theorem dX3_init_34 : decode cX3_init 34 = .ok (.putfield 22, 3) := by decide +kernel
theorem dX3_init_37 : decode cX3_init 37 = .ok (.aload_n 0, 1) := by decide +kernel
theorem dX3_init_38 : decode cX3_init 38 = .ok (.iconst 0, 1) := by decide +kernel
theorem dX3_init_39 : decode cX3_init 39 = .ok (.putfield 25, 3) := by decide +kernel
theorem dX3_init_42 : decode cX3_init 42 = .ok (.aload_n 0, 1) := by decide +kernel
theorem dX3_init_43 : decode cX3_init 43 = .ok (.iconst 0, 1) := by decide +kernel
theorem dX3_init_44 : decode cX3_init 44 = .ok (.putfield 29, 3) := by decide +kernel
theorem dX3_init_47 : decode cX3_init 47 = .ok (.aload_n 0, 1) := by decide +kernel
theorem dX3_init_48 : decode cX3_init 48 = .ok (.iconst 0, 1) := by decide +kernel
theorem dX3_init_49 : decode cX3_init 49 = .ok (.putfield 32, 3) := by decide +kernel
theorem dX3_init_52 : decode cX3_init 52 = .ok (.return_, 1) := by decide +kernel
theorem dX3_forget_0 : decode cX3_forget 0 = .ok (.aload_n 0, 1) := by decide +kernel
theorem dX3_forget_1 : decode cX3_forget 1 = .ok (.iconst 0, 1) := by decide +kernel
theorem dX3_forget_2 : decode cX3_forget 2 = .ok (.putfield 25, 3) := by decide +kernel
theorem dX3_forget_5 : decode cX3_forget 5 = .ok (.return_, 1) := by decide +kernel
theorem dX3_goAbout_0 : decode cX3_goAbout 0 = .ok (.aload_n 1, 1) := by decide +kernel
theorem dX3_goAbout_1 : decode cX3_goAbout 1 = .ok (.getfield 35, 3) := by decide +kernel
theorem dX3_goAbout_4 : decode cX3_goAbout 4 = .ok (.astore 5, 2) := by decide +kernel
theorem dX3_goAbout_6 : decode cX3_goAbout 6 = .ok (.iload_n 3, 1) := by decide +kernel
theorem dX3_goAbout_7 : decode cX3_goAbout 7 = .ok (.invokestatic 41, 3) := by decide +kernel
theorem dX3_goAbout_10 : decode cX3_goAbout 10 = .ok (.istore 6, 2) := by decide +kernel
theorem dX3_goAbout_12 : decode cX3_goAbout 12 = .ok (.aload 5, 2) := by decide +kernel
theorem dX3_goAbout_14 : decode cX3_goAbout 14 = .ok (.getfield 47, 3) := by decide +kernel
theorem dX3_goAbout_17 : decode cX3_goAbout 17 = .ok (.iconst (-1), 1) := by decide +kernel
theorem dX3_goAbout_18 : decode cX3_goAbout 18 = .ok (.if_icmp .eq 10, 3) := by decide +kernel
theorem dX3_goAbout_21 : decode cX3_goAbout 21 = .ok (.iload 6, 2) := by decide +kernel
theorem dX3_goAbout_23 : decode cX3_goAbout 23 = .ok (.bipush 7, 2) := by decide +kernel
theorem dX3_goAbout_25 : decode cX3_goAbout 25 = .ok (.if_icmp .le 5, 3) := by decide +kernel
theorem dX3_goAbout_28 : decode cX3_goAbout 28 = .ok (.iconst 0, 1) := by decide +kernel
theorem dX3_goAbout_29 : decode cX3_goAbout 29 = .ok (.ireturn, 1) := by decide +kernel
theorem dX3_goAbout_30 : decode cX3_goAbout 30 = .ok (.aload_n 0, 1) := by decide +kernel
theorem dX3_goAbout_31 : decode cX3_goAbout 31 = .ok (.aload 5, 2) := by decide +kernel
theorem dX3_goAbout_33 : decode cX3_goAbout 33 = .ok (.invokevirtual 52, 3) := by decide +kernel
theorem dX3_goAbout_36 : decode cX3_goAbout 36 = .ok (.aload_n 0, 1) := by decide +kernel
theorem dX3_goAbout_37 : decode cX3_goAbout 37 = .ok (.aload 5, 2) := by decide +kernel
theorem dX3_goAbout_39 : decode cX3_goAbout 39 = .ok (.iload_n 3, 1) := by decide +kernel
theorem dX3_goAbout_40 : decode cX3_goAbout 40 = .ok (.invokevirtual 56, 3) := by decide +kernel
theorem dX3_goAbout_43 : decode cX3_goAbout 43 = .ok (.ifCond .ne 5, 3) := by decide +kernel
theorem dX3_goAbout_46 : decode cX3_goAbout 46 = .ok (.iconst 0, 1) := by decide +kernel
theorem dX3_goAbout_47 : decode cX3_goAbout 47 = .ok (.ireturn, 1) := by decide +kernel
theorem dX3_goAbout_48 : decode cX3_goAbout 48 = .ok (.aload_n 0, 1) := by decide +kernel
theorem dX3_goAbout_49 : decode cX3_goAbout 49 = .ok (.getfield 15, 3) := by decide +kernel
theorem dX3_goAbout_52 : decode cX3_goAbout 52 = .ok (.iconst 0, 1) := by decide +kernel
theorem dX3_goAbout_53 : decode cX3_goAbout 53 = .ok (.invokestatic 60, 3) := by decide +kernel
theorem dX3_goAbout_56 : decode cX3_goAbout 56 = .ok (.aload_n 0, 1) := by decide +kernel
theorem dX3_goAbout_57 : decode cX3_goAbout 57 = .ok (.iload 6, 2) := by decide +kernel
theorem dX3_goAbout_59 : decode cX3_goAbout 59 = .ok (.iconst 1, 1) := by decide +kernel
theorem dX3_goAbout_60 : decode cX3_goAbout 60 = .ok (.iadd, 1) := by decide +kernel
theorem dX3_goAbout_61 : decode cX3_goAbout 61 = .ok (.putfield 29, 3) := by decide +kernel
theorem dX3_goAbout_64 : decode cX3_goAbout 64 = .ok (.aload_n 0, 1) := by decide +kernel
theorem dX3_goAbout_65 : decode cX3_goAbout 65 = .ok (.iconst 0, 1) := by decide +kernel
theorem dX3_goAbout_66 : decode cX3_goAbout 66 = .ok (.putfield 32, 3) := by decide +kernel
theorem dX3_goAbout_69 : decode cX3_goAbout 69 = .ok (.iconst 0, 1) := by decide +kernel
theorem dX3_goAbout_70 : decode cX3_goAbout 70 = .ok (.istore 7, 2) := by decide +kernel
theorem dX3_goAbout_72 : decode cX3_goAbout 72 = .ok (.iload 7, 2) := by decide +kernel
theorem dX3_goAbout_74 : decode cX3_goAbout 74 = .ok (.sipush 5040, 3) := by decide +kernel
theorem dX3_goAbout_77 : decode cX3_goAbout 77 = .ok (.if_icmp .ge 31, 3) := by decide +kernel
theorem dX3_goAbout_80 : decode cX3_goAbout 80 = .ok (.aload_n 0, 1) := by decide +kernel
theorem dX3_goAbout_81 : decode cX3_goAbout 81 = .ok (.aload_n 1, 1) := by decide +kernel
theorem dX3_goAbout_82 : decode cX3_goAbout 82 = .ok (.aload_n 2, 1) := by decide +kernel
theorem dX3_goAbout_83 : decode cX3_goAbout 83 = .ok (.iload 6, 2) := by decide +kernel
theorem dX3_goAbout_85 : decode cX3_goAbout 85 = .ok (.iload 4, 2) := by decide +kernel
theorem dX3_goAbout_87 : decode cX3_goAbout 87 = .ok (.invokevirtual 66, 3) := by decide +kernel
theorem dX3_goAbout_90 : decode cX3_goAbout 90 = .ok (.aload_n 0, 1) := by decide +kernel
theorem dX3_goAbout_91 : decode cX3_goAbout 91 = .ok (.iload 6, 2) := by decide +kernel
theorem dX3_goAbout_93 : decode cX3_goAbout 93 = .ok (.invokevirtual 70, 3) := by decide +kernel
theorem dX3_goAbout_96 : decode cX3_goAbout 96 = .ok (.ifCond .ne 6, 3) := by decide +kernel
theorem dX3_goAbout_99 : decode cX3_goAbout 99 = .ok (.goto 9, 3) := by decide +kernel
theorem dX3_goAbout_102 : decode cX3_goAbout 102 = .ok (.iinc 7 1, 3) := by decide +kernel
theorem dX3_goAbout_105 : decode cX3_goAbout 105 = .ok (.goto (-33), 3) := by decide +kernel
theorem dX3_goAbout_108 : decode cX3_goAbout 108 = .ok (.aload_n 0, 1) := by decide +kernel
theorem dX3_goAbout_109 : decode cX3_goAbout 109 = .ok (.iload 6, 2) := by decide +kernel
theorem dX3_goAbout_111 : decode cX3_goAbout 111 = .ok (.putfield 25, 3) := by decide +kernel
theorem dX3_goAbout_114 : decode cX3_goAbout 114 = .ok (.iconst 1, 1) := by decide +kernel
theorem dX3_goAbout_115 : decode cX3_goAbout 115 = .ok (.ireturn, 1) := by decide +kernel
theorem dX3_measure_0 : decode cX3_measure 0 = .ok (.aload_n 0, 1) := by decide +kernel
theorem dX3_measure_1 : decode cX3_measure 1 = .ok (.getfield 9, 3) := by decide +kernel
theorem dX3_measure_4 : decode cX3_measure 4 = .ok (.ldc 74, 2) := by decide +kernel
theorem dX3_measure_6 : decode cX3_measure 6 = .ok (.invokestatic 75, 3) := by decide +kernel
theorem dX3_measure_9 : decode cX3_measure 9 = .ok (.iconst 0, 1) := by decide +kernel
theorem dX3_measure_10 : decode cX3_measure 10 = .ok (.istore_n 2, 1) := by decide +kernel
theorem dX3_measure_11 : decode cX3_measure 11 = .ok (.iload_n 2, 1) := by decide +kernel
theorem dX3_measure_12 : decode cX3_measure 12 = .ok (.bipush 8, 2) := by decide +kernel
theorem dX3_measure_14 : decode cX3_measure 14 = .ok (.if_icmp .ge 21, 3) := by decide +kernel
theorem dX3_measure_17 : decode cX3_measure 17 = .ok (.aload_n 0, 1) := by decide +kernel
theorem dX3_measure_18 : decode cX3_measure 18 = .ok (.getfield 9, 3) := by decide +kernel
theorem dX3_measure_21 : decode cX3_measure 21 = .ok (.iload_n 2, 1) := by decide +kernel
theorem dX3_measure_22 : decode cX3_measure 22 = .ok (.bipush 8, 2) := by decide +kernel
theorem dX3_measure_24 : decode cX3_measure 24 = .ok (.imul, 1) := by decide +kernel
theorem dX3_measure_25 : decode cX3_measure 25 = .ok (.iload_n 2, 1) := by decide +kernel
theorem dX3_measure_26 : decode cX3_measure 26 = .ok (.iadd, 1) := by decide +kernel
theorem dX3_measure_27 : decode cX3_measure 27 = .ok (.iconst 0, 1) := by decide +kernel
theorem dX3_measure_28 : decode cX3_measure 28 = .ok (.iastore, 1) := by decide +kernel
theorem dX3_measure_29 : decode cX3_measure 29 = .ok (.iinc 2 1, 3) := by decide +kernel
theorem dX3_measure_32 : decode cX3_measure 32 = .ok (.goto (-21), 3) := by decide +kernel
theorem dX3_measure_35 : decode cX3_measure 35 = .ok (.iconst 0, 1) := by decide +kernel
theorem dX3_measure_36 : decode cX3_measure 36 = .ok (.istore_n 2, 1) := by decide +kernel
theorem dX3_measure_37 : decode cX3_measure 37 = .ok (.iload_n 2, 1) := by decide +kernel
theorem dX3_measure_38 : decode cX3_measure 38 = .ok (.aload_n 1, 1) := by decide +kernel
theorem dX3_measure_39 : decode cX3_measure 39 = .ok (.getfield 78, 3) := by decide +kernel
theorem dX3_measure_42 : decode cX3_measure 42 = .ok (.if_icmp .ge 63, 3) := by decide +kernel
theorem dX3_measure_45 : decode cX3_measure 45 = .ok (.aload_n 0, 1) := by decide +kernel
theorem dX3_measure_46 : decode cX3_measure 46 = .ok (.getfield 9, 3) := by decide +kernel
theorem dX3_measure_49 : decode cX3_measure 49 = .ok (.aload_n 1, 1) := by decide +kernel
theorem dX3_measure_50 : decode cX3_measure 50 = .ok (.getfield 81, 3) := by decide +kernel
theorem dX3_measure_53 : decode cX3_measure 53 = .ok (.iload_n 2, 1) := by decide +kernel
theorem dX3_measure_54 : decode cX3_measure 54 = .ok (.iaload, 1) := by decide +kernel
theorem dX3_measure_55 : decode cX3_measure 55 = .ok (.bipush 8, 2) := by decide +kernel
theorem dX3_measure_57 : decode cX3_measure 57 = .ok (.imul, 1) := by decide +kernel
theorem dX3_measure_58 : decode cX3_measure 58 = .ok (.aload_n 1, 1) := by decide +kernel
theorem dX3_measure_59 : decode cX3_measure 59 = .ok (.getfield 84, 3) := by decide +kernel
theorem dX3_measure_62 : decode cX3_measure 62 = .ok (.iload_n 2, 1) := by decide +kernel
theorem dX3_measure_63 : decode cX3_measure 63 = .ok (.iaload, 1) := by decide +kernel
theorem dX3_measure_64 : decode cX3_measure 64 = .ok (.iadd, 1) := by decide +kernel
theorem dX3_measure_65 : decode cX3_measure 65 = .ok (.aload_n 1, 1) := by decide +kernel
theorem dX3_measure_66 : decode cX3_measure 66 = .ok (.getfield 87, 3) := by decide +kernel
theorem dX3_measure_69 : decode cX3_measure 69 = .ok (.iload_n 2, 1) := by decide +kernel
theorem dX3_measure_70 : decode cX3_measure 70 = .ok (.iaload, 1) := by decide +kernel
theorem dX3_measure_71 : decode cX3_measure 71 = .ok (.iastore, 1) := by decide +kernel
theorem dX3_measure_72 : decode cX3_measure 72 = .ok (.aload_n 0, 1) := by decide +kernel
theorem dX3_measure_73 : decode cX3_measure 73 = .ok (.getfield 9, 3) := by decide +kernel
theorem dX3_measure_76 : decode cX3_measure 76 = .ok (.aload_n 1, 1) := by decide +kernel
theorem dX3_measure_77 : decode cX3_measure 77 = .ok (.getfield 84, 3) := by decide +kernel
theorem dX3_measure_80 : decode cX3_measure 80 = .ok (.iload_n 2, 1) := by decide +kernel
theorem dX3_measure_81 : decode cX3_measure 81 = .ok (.iaload, 1) := by decide +kernel
theorem dX3_measure_82 : decode cX3_measure 82 = .ok (.bipush 8, 2) := by decide +kernel
theorem dX3_measure_84 : decode cX3_measure 84 = .ok (.imul, 1) := by decide +kernel
theorem dX3_measure_85 : decode cX3_measure 85 = .ok (.aload_n 1, 1) := by decide +kernel
theorem dX3_measure_86 : decode cX3_measure 86 = .ok (.getfield 81, 3) := by decide +kernel
theorem dX3_measure_89 : decode cX3_measure 89 = .ok (.iload_n 2, 1) := by decide +kernel
theorem dX3_measure_90 : decode cX3_measure 90 = .ok (.iaload, 1) := by decide +kernel
theorem dX3_measure_91 : decode cX3_measure 91 = .ok (.iadd, 1) := by decide +kernel
theorem dX3_measure_92 : decode cX3_measure 92 = .ok (.aload_n 1, 1) := by decide +kernel
theorem dX3_measure_93 : decode cX3_measure 93 = .ok (.getfield 87, 3) := by decide +kernel
theorem dX3_measure_96 : decode cX3_measure 96 = .ok (.iload_n 2, 1) := by decide +kernel
theorem dX3_measure_97 : decode cX3_measure 97 = .ok (.iaload, 1) := by decide +kernel
theorem dX3_measure_98 : decode cX3_measure 98 = .ok (.iastore, 1) := by decide +kernel
theorem dX3_measure_99 : decode cX3_measure 99 = .ok (.iinc 2 1, 3) := by decide +kernel
theorem dX3_measure_102 : decode cX3_measure 102 = .ok (.goto (-65), 3) := by decide +kernel
theorem dX3_measure_105 : decode cX3_measure 105 = .ok (.iconst 0, 1) := by decide +kernel
theorem dX3_measure_106 : decode cX3_measure 106 = .ok (.istore_n 2, 1) := by decide +kernel
theorem dX3_measure_107 : decode cX3_measure 107 = .ok (.iload_n 2, 1) := by decide +kernel
theorem dX3_measure_108 : decode cX3_measure 108 = .ok (.aload_n 1, 1) := by decide +kernel
theorem dX3_measure_109 : decode cX3_measure 109 = .ok (.getfield 90, 3) := by decide +kernel
theorem dX3_measure_112 : decode cX3_measure 112 = .ok (.if_icmp .ge 104, 3) := by decide +kernel
theorem dX3_measure_115 : decode cX3_measure 115 = .ok (.iconst 0, 1) := by decide +kernel
theorem dX3_measure_116 : decode cX3_measure 116 = .ok (.istore_n 3, 1) := by decide +kernel
theorem dX3_measure_117 : decode cX3_measure 117 = .ok (.iload_n 3, 1) := by decide +kernel
theorem dX3_measure_118 : decode cX3_measure 118 = .ok (.aload_n 1, 1) := by decide +kernel
theorem dX3_measure_119 : decode cX3_measure 119 = .ok (.getfield 90, 3) := by decide +kernel
theorem dX3_measure_122 : decode cX3_measure 122 = .ok (.if_icmp .ge 88, 3) := by decide +kernel
theorem dX3_measure_125 : decode cX3_measure 125 = .ok (.aload_n 0, 1) := by decide +kernel
theorem dX3_measure_126 : decode cX3_measure 126 = .ok (.getfield 9, 3) := by decide +kernel
theorem dX3_measure_129 : decode cX3_measure 129 = .ok (.iload_n 3, 1) := by decide +kernel
theorem dX3_measure_130 : decode cX3_measure 130 = .ok (.bipush 8, 2) := by decide +kernel
theorem dX3_measure_132 : decode cX3_measure 132 = .ok (.imul, 1) := by decide +kernel
theorem dX3_measure_133 : decode cX3_measure 133 = .ok (.iload_n 2, 1) := by decide +kernel
theorem dX3_measure_134 : decode cX3_measure 134 = .ok (.iadd, 1) := by decide +kernel
theorem dX3_measure_135 : decode cX3_measure 135 = .ok (.iaload, 1) := by decide +kernel
theorem dX3_measure_136 : decode cX3_measure 136 = .ok (.istore 4, 2) := by decide +kernel
theorem dX3_measure_138 : decode cX3_measure 138 = .ok (.iconst 0, 1) := by decide +kernel
theorem dX3_measure_139 : decode cX3_measure 139 = .ok (.istore 5, 2) := by decide +kernel
theorem dX3_measure_141 : decode cX3_measure 141 = .ok (.iload 5, 2) := by decide +kernel
theorem dX3_measure_143 : decode cX3_measure 143 = .ok (.aload_n 1, 1) := by decide +kernel
theorem dX3_measure_144 : decode cX3_measure 144 = .ok (.getfield 90, 3) := by decide +kernel
theorem dX3_measure_147 : decode cX3_measure 147 = .ok (.if_icmp .ge 57, 3) := by decide +kernel
theorem dX3_measure_150 : decode cX3_measure 150 = .ok (.iload 4, 2) := by decide +kernel
theorem dX3_measure_152 : decode cX3_measure 152 = .ok (.ldc 74, 2) := by decide +kernel
theorem dX3_measure_154 : decode cX3_measure 154 = .ok (.if_icmp .ge 50, 3) := by decide +kernel
theorem dX3_measure_157 : decode cX3_measure 157 = .ok (.iload_n 3, 1) := by decide +kernel
theorem dX3_measure_158 : decode cX3_measure 158 = .ok (.bipush 8, 2) := by decide +kernel
theorem dX3_measure_160 : decode cX3_measure 160 = .ok (.imul, 1) := by decide +kernel
theorem dX3_measure_161 : decode cX3_measure 161 = .ok (.iload 5, 2) := by decide +kernel
theorem dX3_measure_163 : decode cX3_measure 163 = .ok (.iadd, 1) := by decide +kernel
theorem dX3_measure_164 : decode cX3_measure 164 = .ok (.istore 6, 2) := by decide +kernel
theorem dX3_measure_166 : decode cX3_measure 166 = .ok (.aload_n 0, 1) := by decide +kernel
theorem dX3_measure_167 : decode cX3_measure 167 = .ok (.getfield 9, 3) := by decide +kernel
theorem dX3_measure_170 : decode cX3_measure 170 = .ok (.iload 6, 2) := by decide +kernel
theorem dX3_measure_172 : decode cX3_measure 172 = .ok (.aload_n 0, 1) := by decide +kernel
theorem dX3_measure_173 : decode cX3_measure 173 = .ok (.getfield 9, 3) := by decide +kernel
theorem dX3_measure_176 : decode cX3_measure 176 = .ok (.iload 6, 2) := by decide +kernel
theorem dX3_measure_178 : decode cX3_measure 178 = .ok (.iaload, 1) := by decide +kernel
theorem dX3_measure_179 : decode cX3_measure 179 = .ok (.iload 4, 2) := by decide +kernel
theorem dX3_measure_181 : decode cX3_measure 181 = .ok (.aload_n 0, 1) := by decide +kernel
theorem dX3_measure_182 : decode cX3_measure 182 = .ok (.getfield 9, 3) := by decide +kernel
theorem dX3_measure_185 : decode cX3_measure 185 = .ok (.iload_n 2, 1) := by decide +kernel
theorem dX3_measure_186 : decode cX3_measure 186 = .ok (.bipush 8, 2) := by decide +kernel
theorem dX3_measure_188 : decode cX3_measure 188 = .ok (.imul, 1) := by decide +kernel
theorem dX3_measure_189 : decode cX3_measure 189 = .ok (.iload 5, 2) := by decide +kernel
theorem dX3_measure_191 : decode cX3_measure 191 = .ok (.iadd, 1) := by decide +kernel
theorem dX3_measure_192 : decode cX3_measure 192 = .ok (.iaload, 1) := by decide +kernel
theorem dX3_measure_193 : decode cX3_measure 193 = .ok (.iadd, 1) := by decide +kernel
theorem dX3_measure_194 : decode cX3_measure 194 = .ok (.invokestatic 93, 3) := by decide +kernel
theorem dX3_measure_197 : decode cX3_measure 197 = .ok (.iastore, 1) := by decide +kernel
theorem dX3_measure_198 : decode cX3_measure 198 = .ok (.iinc 5 1, 3) := by decide +kernel
theorem dX3_measure_201 : decode cX3_measure 201 = .ok (.goto (-60), 3) := by decide +kernel
theorem dX3_measure_204 : decode cX3_measure 204 = .ok (.iinc 3 1, 3) := by decide +kernel
theorem dX3_measure_207 : decode cX3_measure 207 = .ok (.goto (-90), 3) := by decide +kernel
theorem dX3_measure_210 : decode cX3_measure 210 = .ok (.iinc 2 1, 3) := by decide +kernel
theorem dX3_measure_213 : decode cX3_measure 213 = .ok (.goto (-106), 3) := by decide +kernel
theorem dX3_measure_216 : decode cX3_measure 216 = .ok (.return_, 1) := by decide +kernel
theorem dX3_lineUp_0 : decode cX3_lineUp 0 = .ok (.iconst 0, 1) := by decide +kernel
theorem dX3_lineUp_1 : decode cX3_lineUp 1 = .ok (.istore_n 3, 1) := by decide +kernel
theorem dX3_lineUp_2 : decode cX3_lineUp 2 = .ok (.iconst 0, 1) := by decide +kernel
theorem dX3_lineUp_3 : decode cX3_lineUp 3 = .ok (.istore 4, 2) := by decide +kernel
theorem dX3_lineUp_5 : decode cX3_lineUp 5 = .ok (.iload 4, 2) := by decide +kernel
theorem dX3_lineUp_7 : decode cX3_lineUp 7 = .ok (.aload_n 1, 1) := by decide +kernel
theorem dX3_lineUp_8 : decode cX3_lineUp 8 = .ok (.getfield 90, 3) := by decide +kernel
theorem dX3_lineUp_11 : decode cX3_lineUp 11 = .ok (.if_icmp .ge 57, 3) := by decide +kernel
theorem dX3_lineUp_14 : decode cX3_lineUp 14 = .ok (.iload_n 3, 1) := by decide +kernel
theorem dX3_lineUp_15 : decode cX3_lineUp 15 = .ok (.bipush 7, 2) := by decide +kernel
theorem dX3_lineUp_17 : decode cX3_lineUp 17 = .ok (.if_icmp .ge 51, 3) := by decide +kernel
theorem dX3_lineUp_20 : decode cX3_lineUp 20 = .ok (.iload_n 2, 1) := by decide +kernel
theorem dX3_lineUp_21 : decode cX3_lineUp 21 = .ok (.iload 4, 2) := by decide +kernel
theorem dX3_lineUp_23 : decode cX3_lineUp 23 = .ok (.ishr, 1) := by decide +kernel
theorem dX3_lineUp_24 : decode cX3_lineUp 24 = .ok (.iconst 1, 1) := by decide +kernel
theorem dX3_lineUp_25 : decode cX3_lineUp 25 = .ok (.iand, 1) := by decide +kernel
theorem dX3_lineUp_26 : decode cX3_lineUp 26 = .ok (.ifCond .eq 36, 3) := by decide +kernel
theorem dX3_lineUp_29 : decode cX3_lineUp 29 = .ok (.aload_n 0, 1) := by decide +kernel
theorem dX3_lineUp_30 : decode cX3_lineUp 30 = .ok (.getfield 9, 3) := by decide +kernel
theorem dX3_lineUp_33 : decode cX3_lineUp 33 = .ok (.aload_n 1, 1) := by decide +kernel
theorem dX3_lineUp_34 : decode cX3_lineUp 34 = .ok (.getfield 47, 3) := by decide +kernel
theorem dX3_lineUp_37 : decode cX3_lineUp 37 = .ok (.bipush 8, 2) := by decide +kernel
theorem dX3_lineUp_39 : decode cX3_lineUp 39 = .ok (.imul, 1) := by decide +kernel
theorem dX3_lineUp_40 : decode cX3_lineUp 40 = .ok (.iload 4, 2) := by decide +kernel
theorem dX3_lineUp_42 : decode cX3_lineUp 42 = .ok (.iadd, 1) := by decide +kernel
theorem dX3_lineUp_43 : decode cX3_lineUp 43 = .ok (.iaload, 1) := by decide +kernel
theorem dX3_lineUp_44 : decode cX3_lineUp 44 = .ok (.ldc 74, 2) := by decide +kernel
theorem dX3_lineUp_46 : decode cX3_lineUp 46 = .ok (.if_icmp .lt 5, 3) := by decide +kernel
theorem dX3_lineUp_49 : decode cX3_lineUp 49 = .ok (.iconst 0, 1) := by decide +kernel
theorem dX3_lineUp_50 : decode cX3_lineUp 50 = .ok (.ireturn, 1) := by decide +kernel
theorem dX3_lineUp_51 : decode cX3_lineUp 51 = .ok (.aload_n 0, 1) := by decide +kernel
theorem dX3_lineUp_52 : decode cX3_lineUp 52 = .ok (.getfield 19, 3) := by decide +kernel
theorem dX3_lineUp_55 : decode cX3_lineUp 55 = .ok (.iload_n 3, 1) := by decide +kernel
theorem dX3_lineUp_56 : decode cX3_lineUp 56 = .ok (.iload 4, 2) := by decide +kernel
theorem dX3_lineUp_58 : decode cX3_lineUp 58 = .ok (.iastore, 1) := by decide +kernel
theorem dX3_lineUp_59 : decode cX3_lineUp 59 = .ok (.iinc 3 1, 3) := by decide +kernel
theorem dX3_lineUp_62 : decode cX3_lineUp 62 = .ok (.iinc 4 1, 3) := by decide +kernel
theorem dX3_lineUp_65 : decode cX3_lineUp 65 = .ok (.goto (-60), 3) := by decide +kernel
theorem dX3_lineUp_68 : decode cX3_lineUp 68 = .ok (.iconst 1, 1) := by decide +kernel
theorem dX3_lineUp_69 : decode cX3_lineUp 69 = .ok (.ireturn, 1) := by decide +kernel
theorem dX3_tryOrder_0 : decode cX3_tryOrder 0 = .ok (.iconst 0, 1) := by decide +kernel
theorem dX3_tryOrder_1 : decode cX3_tryOrder 1 = .ok (.istore 5, 2) := by decide +kernel
theorem dX3_tryOrder_3 : decode cX3_tryOrder 3 = .ok (.iconst 0, 1) := by decide +kernel
theorem dX3_tryOrder_4 : decode cX3_tryOrder 4 = .ok (.istore 6, 2) := by decide +kernel
theorem dX3_tryOrder_6 : decode cX3_tryOrder 6 = .ok (.iload 6, 2) := by decide +kernel
theorem dX3_tryOrder_8 : decode cX3_tryOrder 8 = .ok (.iload_n 3, 1) := by decide +kernel
theorem dX3_tryOrder_9 : decode cX3_tryOrder 9 = .ok (.if_icmp .ge 27, 3) := by decide +kernel
theorem dX3_tryOrder_12 : decode cX3_tryOrder 12 = .ok (.iload 5, 2) := by decide +kernel
theorem dX3_tryOrder_14 : decode cX3_tryOrder 14 = .ok (.aload_n 0, 1) := by decide +kernel
theorem dX3_tryOrder_15 : decode cX3_tryOrder 15 = .ok (.iload 6, 2) := by decide +kernel
theorem dX3_tryOrder_17 : decode cX3_tryOrder 17 = .ok (.aload_n 1, 1) := by decide +kernel
theorem dX3_tryOrder_18 : decode cX3_tryOrder 18 = .ok (.getfield 35, 3) := by decide +kernel
theorem dX3_tryOrder_21 : decode cX3_tryOrder 21 = .ok (.getfield 47, 3) := by decide +kernel
theorem dX3_tryOrder_24 : decode cX3_tryOrder 24 = .ok (.invokevirtual 99, 3) := by decide +kernel
theorem dX3_tryOrder_27 : decode cX3_tryOrder 27 = .ok (.iadd, 1) := by decide +kernel
theorem dX3_tryOrder_28 : decode cX3_tryOrder 28 = .ok (.istore 5, 2) := by decide +kernel
theorem dX3_tryOrder_30 : decode cX3_tryOrder 30 = .ok (.iinc 6 1, 3) := by decide +kernel
theorem dX3_tryOrder_33 : decode cX3_tryOrder 33 = .ok (.goto (-27), 3) := by decide +kernel
theorem dX3_tryOrder_36 : decode cX3_tryOrder 36 = .ok (.aload_n 0, 1) := by decide +kernel
theorem dX3_tryOrder_37 : decode cX3_tryOrder 37 = .ok (.getfield 29, 3) := by decide +kernel
theorem dX3_tryOrder_40 : decode cX3_tryOrder 40 = .ok (.ifCond .ne 13, 3) := by decide +kernel
theorem dX3_tryOrder_43 : decode cX3_tryOrder 43 = .ok (.iload 5, 2) := by decide +kernel
theorem dX3_tryOrder_45 : decode cX3_tryOrder 45 = .ok (.aload_n 0, 1) := by decide +kernel
theorem dX3_tryOrder_46 : decode cX3_tryOrder 46 = .ok (.getfield 32, 3) := by decide +kernel
theorem dX3_tryOrder_49 : decode cX3_tryOrder 49 = .ok (.if_icmp .lt 4, 3) := by decide +kernel
theorem dX3_tryOrder_52 : decode cX3_tryOrder 52 = .ok (.return_, 1) := by decide +kernel
theorem dX3_tryOrder_53 : decode cX3_tryOrder 53 = .ok (.aload_n 0, 1) := by decide +kernel
theorem dX3_tryOrder_54 : decode cX3_tryOrder 54 = .ok (.aload_n 1, 1) := by decide +kernel
theorem dX3_tryOrder_55 : decode cX3_tryOrder 55 = .ok (.aload_n 2, 1) := by decide +kernel
theorem dX3_tryOrder_56 : decode cX3_tryOrder 56 = .ok (.iload_n 3, 1) := by decide +kernel
theorem dX3_tryOrder_57 : decode cX3_tryOrder 57 = .ok (.iload 4, 2) := by decide +kernel
theorem dX3_tryOrder_59 : decode cX3_tryOrder 59 = .ok (.invokevirtual 102, 3) := by decide +kernel
theorem dX3_tryOrder_62 : decode cX3_tryOrder 62 = .ok (.istore 6, 2) := by decide +kernel
theorem dX3_tryOrder_64 : decode cX3_tryOrder 64 = .ok (.iload 6, 2) := by decide +kernel
theorem dX3_tryOrder_66 : decode cX3_tryOrder 66 = .ok (.aload_n 0, 1) := by decide +kernel
theorem dX3_tryOrder_67 : decode cX3_tryOrder 67 = .ok (.getfield 29, 3) := by decide +kernel
theorem dX3_tryOrder_70 : decode cX3_tryOrder 70 = .ok (.if_icmp .lt 21, 3) := by decide +kernel
theorem dX3_tryOrder_73 : decode cX3_tryOrder 73 = .ok (.iload 6, 2) := by decide +kernel
theorem dX3_tryOrder_75 : decode cX3_tryOrder 75 = .ok (.aload_n 0, 1) := by decide +kernel
theorem dX3_tryOrder_76 : decode cX3_tryOrder 76 = .ok (.getfield 29, 3) := by decide +kernel
theorem dX3_tryOrder_79 : decode cX3_tryOrder 79 = .ok (.if_icmp .ne 38, 3) := by decide +kernel
theorem dX3_tryOrder_82 : decode cX3_tryOrder 82 = .ok (.iload 5, 2) := by decide +kernel
theorem dX3_tryOrder_84 : decode cX3_tryOrder 84 = .ok (.aload_n 0, 1) := by decide +kernel
theorem dX3_tryOrder_85 : decode cX3_tryOrder 85 = .ok (.getfield 32, 3) := by decide +kernel
theorem dX3_tryOrder_88 : decode cX3_tryOrder 88 = .ok (.if_icmp .ge 29, 3) := by decide +kernel
theorem dX3_tryOrder_91 : decode cX3_tryOrder 91 = .ok (.aload_n 0, 1) := by decide +kernel
theorem dX3_tryOrder_92 : decode cX3_tryOrder 92 = .ok (.iload 6, 2) := by decide +kernel
theorem dX3_tryOrder_94 : decode cX3_tryOrder 94 = .ok (.putfield 29, 3) := by decide +kernel
theorem dX3_tryOrder_97 : decode cX3_tryOrder 97 = .ok (.aload_n 0, 1) := by decide +kernel
theorem dX3_tryOrder_98 : decode cX3_tryOrder 98 = .ok (.iload 5, 2) := by decide +kernel
theorem dX3_tryOrder_100 : decode cX3_tryOrder 100 = .ok (.putfield 32, 3) := by decide +kernel
theorem dX3_tryOrder_103 : decode cX3_tryOrder 103 = .ok (.aload_n 0, 1) := by decide +kernel
theorem dX3_tryOrder_104 : decode cX3_tryOrder 104 = .ok (.getfield 19, 3) := by decide +kernel
theorem dX3_tryOrder_107 : decode cX3_tryOrder 107 = .ok (.iconst 0, 1) := by decide +kernel
theorem dX3_tryOrder_108 : decode cX3_tryOrder 108 = .ok (.aload_n 0, 1) := by decide +kernel
theorem dX3_tryOrder_109 : decode cX3_tryOrder 109 = .ok (.getfield 22, 3) := by decide +kernel
theorem dX3_tryOrder_112 : decode cX3_tryOrder 112 = .ok (.iconst 0, 1) := by decide +kernel
theorem dX3_tryOrder_113 : decode cX3_tryOrder 113 = .ok (.iload_n 3, 1) := by decide +kernel
theorem dX3_tryOrder_114 : decode cX3_tryOrder 114 = .ok (.invokestatic 106, 3) := by decide +kernel
theorem dX3_tryOrder_117 : decode cX3_tryOrder 117 = .ok (.return_, 1) := by decide +kernel
theorem dX3_minutesTo_0 : decode cX3_minutesTo 0 = .ok (.iload_n 1, 1) := by decide +kernel
theorem dX3_minutesTo_1 : decode cX3_minutesTo 1 = .ok (.ifCond .ne 7, 3) := by decide +kernel
theorem dX3_minutesTo_4 : decode cX3_minutesTo 4 = .ok (.iload_n 2, 1) := by decide +kernel
theorem dX3_minutesTo_5 : decode cX3_minutesTo 5 = .ok (.goto 11, 3) := by decide +kernel
theorem dX3_minutesTo_8 : decode cX3_minutesTo 8 = .ok (.aload_n 0, 1) := by decide +kernel
theorem dX3_minutesTo_9 : decode cX3_minutesTo 9 = .ok (.getfield 19, 3) := by decide +kernel
theorem dX3_minutesTo_12 : decode cX3_minutesTo 12 = .ok (.iload_n 1, 1) := by decide +kernel
theorem dX3_minutesTo_13 : decode cX3_minutesTo 13 = .ok (.iconst 1, 1) := by decide +kernel
theorem dX3_minutesTo_14 : decode cX3_minutesTo 14 = .ok (.isub, 1) := by decide +kernel
theorem dX3_minutesTo_15 : decode cX3_minutesTo 15 = .ok (.iaload, 1) := by decide +kernel
theorem dX3_minutesTo_16 : decode cX3_minutesTo 16 = .ok (.istore_n 3, 1) := by decide +kernel
theorem dX3_minutesTo_17 : decode cX3_minutesTo 17 = .ok (.aload_n 0, 1) := by decide +kernel
theorem dX3_minutesTo_18 : decode cX3_minutesTo 18 = .ok (.getfield 9, 3) := by decide +kernel
theorem dX3_minutesTo_21 : decode cX3_minutesTo 21 = .ok (.iload_n 3, 1) := by decide +kernel
theorem dX3_minutesTo_22 : decode cX3_minutesTo 22 = .ok (.bipush 8, 2) := by decide +kernel
theorem dX3_minutesTo_24 : decode cX3_minutesTo 24 = .ok (.imul, 1) := by decide +kernel
theorem dX3_minutesTo_25 : decode cX3_minutesTo 25 = .ok (.aload_n 0, 1) := by decide +kernel
theorem dX3_minutesTo_26 : decode cX3_minutesTo 26 = .ok (.getfield 19, 3) := by decide +kernel
theorem dX3_minutesTo_29 : decode cX3_minutesTo 29 = .ok (.iload_n 1, 1) := by decide +kernel
theorem dX3_minutesTo_30 : decode cX3_minutesTo 30 = .ok (.iaload, 1) := by decide +kernel
theorem dX3_minutesTo_31 : decode cX3_minutesTo 31 = .ok (.iadd, 1) := by decide +kernel
theorem dX3_minutesTo_32 : decode cX3_minutesTo 32 = .ok (.iaload, 1) := by decide +kernel
theorem dX3_minutesTo_33 : decode cX3_minutesTo 33 = .ok (.ireturn, 1) := by decide +kernel
theorem dX3_countWhite_0 : decode cX3_countWhite 0 = .ok (.iconst 0, 1) := by decide +kernel
theorem dX3_countWhite_1 : decode cX3_countWhite 1 = .ok (.istore 5, 2) := by decide +kernel
theorem dX3_countWhite_3 : decode cX3_countWhite 3 = .ok (.iconst 0, 1) := by decide +kernel
theorem dX3_countWhite_4 : decode cX3_countWhite 4 = .ok (.istore 6, 2) := by decide +kernel
theorem dX3_countWhite_6 : decode cX3_countWhite 6 = .ok (.iconst 0, 1) := by decide +kernel
theorem dX3_countWhite_7 : decode cX3_countWhite 7 = .ok (.istore 7, 2) := by decide +kernel
theorem dX3_countWhite_9 : decode cX3_countWhite 9 = .ok (.iload 7, 2) := by decide +kernel
theorem dX3_countWhite_11 : decode cX3_countWhite 11 = .ok (.iload_n 3, 1) := by decide +kernel
theorem dX3_countWhite_12 : decode cX3_countWhite 12 = .ok (.if_icmp .ge 112, 3) := by decide +kernel
theorem dX3_countWhite_15 : decode cX3_countWhite 15 = .ok (.iload 5, 2) := by decide +kernel
theorem dX3_countWhite_17 : decode cX3_countWhite 17 = .ok (.aload_n 0, 1) := by decide +kernel
theorem dX3_countWhite_18 : decode cX3_countWhite 18 = .ok (.iload 7, 2) := by decide +kernel
theorem dX3_countWhite_20 : decode cX3_countWhite 20 = .ok (.aload_n 1, 1) := by decide +kernel
theorem dX3_countWhite_21 : decode cX3_countWhite 21 = .ok (.getfield 35, 3) := by decide +kernel
theorem dX3_countWhite_24 : decode cX3_countWhite 24 = .ok (.getfield 47, 3) := by decide +kernel
theorem dX3_countWhite_27 : decode cX3_countWhite 27 = .ok (.invokevirtual 99, 3) := by decide +kernel
theorem dX3_countWhite_30 : decode cX3_countWhite 30 = .ok (.iadd, 1) := by decide +kernel
theorem dX3_countWhite_31 : decode cX3_countWhite 31 = .ok (.istore 5, 2) := by decide +kernel
theorem dX3_countWhite_33 : decode cX3_countWhite 33 = .ok (.bipush 71, 2) := by decide +kernel
theorem dX3_countWhite_35 : decode cX3_countWhite 35 = .ok (.iload 5, 2) := by decide +kernel
theorem dX3_countWhite_37 : decode cX3_countWhite 37 = .ok (.bipush 10, 2) := by decide +kernel
theorem dX3_countWhite_39 : decode cX3_countWhite 39 = .ok (.idiv, 1) := by decide +kernel
theorem dX3_countWhite_40 : decode cX3_countWhite 40 = .ok (.invokestatic 93, 3) := by decide +kernel
theorem dX3_countWhite_43 : decode cX3_countWhite 43 = .ok (.istore 8, 2) := by decide +kernel
theorem dX3_countWhite_45 : decode cX3_countWhite 45 = .ok (.aload_n 0, 1) := by decide +kernel
theorem dX3_countWhite_46 : decode cX3_countWhite 46 = .ok (.getfield 19, 3) := by decide +kernel
theorem dX3_countWhite_49 : decode cX3_countWhite 49 = .ok (.iload 7, 2) := by decide +kernel
theorem dX3_countWhite_51 : decode cX3_countWhite 51 = .ok (.iaload, 1) := by decide +kernel
theorem dX3_countWhite_52 : decode cX3_countWhite 52 = .ok (.bipush 72, 2) := by decide +kernel
theorem dX3_countWhite_54 : decode cX3_countWhite 54 = .ok (.imul, 1) := by decide +kernel
theorem dX3_countWhite_55 : decode cX3_countWhite 55 = .ok (.iload 8, 2) := by decide +kernel
theorem dX3_countWhite_57 : decode cX3_countWhite 57 = .ok (.iadd, 1) := by decide +kernel
theorem dX3_countWhite_58 : decode cX3_countWhite 58 = .ok (.istore 9, 2) := by decide +kernel
theorem dX3_countWhite_60 : decode cX3_countWhite 60 = .ok (.aload_n 0, 1) := by decide +kernel
theorem dX3_countWhite_61 : decode cX3_countWhite 61 = .ok (.getfield 15, 3) := by decide +kernel
theorem dX3_countWhite_64 : decode cX3_countWhite 64 = .ok (.iload 9, 2) := by decide +kernel
theorem dX3_countWhite_66 : decode cX3_countWhite 66 = .ok (.baload, 1) := by decide +kernel
theorem dX3_countWhite_67 : decode cX3_countWhite 67 = .ok (.ifCond .ne 37, 3) := by decide +kernel
theorem dX3_countWhite_70 : decode cX3_countWhite 70 = .ok (.aload_n 0, 1) := by decide +kernel
theorem dX3_countWhite_71 : decode cX3_countWhite 71 = .ok (.getfield 15, 3) := by decide +kernel
theorem dX3_countWhite_74 : decode cX3_countWhite 74 = .ok (.iload 9, 2) := by decide +kernel
theorem dX3_countWhite_76 : decode cX3_countWhite 76 = .ok (.aload_n 2, 1) := by decide +kernel
theorem dX3_countWhite_77 : decode cX3_countWhite 77 = .ok (.aload_n 1, 1) := by decide +kernel
theorem dX3_countWhite_78 : decode cX3_countWhite 78 = .ok (.aload_n 0, 1) := by decide +kernel
theorem dX3_countWhite_79 : decode cX3_countWhite 79 = .ok (.getfield 19, 3) := by decide +kernel
theorem dX3_countWhite_82 : decode cX3_countWhite 82 = .ok (.iload 7, 2) := by decide +kernel
theorem dX3_countWhite_84 : decode cX3_countWhite 84 = .ok (.iaload, 1) := by decide +kernel
theorem dX3_countWhite_85 : decode cX3_countWhite 85 = .ok (.iconst 0, 1) := by decide +kernel
theorem dX3_countWhite_86 : decode cX3_countWhite 86 = .ok (.iload 4, 2) := by decide +kernel
theorem dX3_countWhite_88 : decode cX3_countWhite 88 = .ok (.iload 8, 2) := by decide +kernel
theorem dX3_countWhite_90 : decode cX3_countWhite 90 = .ok (.invokevirtual 112, 3) := by decide +kernel
theorem dX3_countWhite_93 : decode cX3_countWhite 93 = .ok (.iconst (-1), 1) := by decide +kernel
theorem dX3_countWhite_94 : decode cX3_countWhite 94 = .ok (.if_icmp .ne 7, 3) := by decide +kernel
theorem dX3_countWhite_97 : decode cX3_countWhite 97 = .ok (.iconst 1, 1) := by decide +kernel
theorem dX3_countWhite_98 : decode cX3_countWhite 98 = .ok (.goto 4, 3) := by decide +kernel
theorem dX3_countWhite_101 : decode cX3_countWhite 101 = .ok (.iconst 2, 1) := by decide +kernel
theorem dX3_countWhite_102 : decode cX3_countWhite 102 = .ok (.i2b, 1) := by decide +kernel
theorem dX3_countWhite_103 : decode cX3_countWhite 103 = .ok (.bastore, 1) := by decide +kernel
theorem dX3_countWhite_104 : decode cX3_countWhite 104 = .ok (.iload 6, 2) := by decide +kernel
theorem dX3_countWhite_106 : decode cX3_countWhite 106 = .ok (.aload_n 0, 1) := by decide +kernel
theorem dX3_countWhite_107 : decode cX3_countWhite 107 = .ok (.getfield 15, 3) := by decide +kernel
theorem dX3_countWhite_110 : decode cX3_countWhite 110 = .ok (.iload 9, 2) := by decide +kernel
theorem dX3_countWhite_112 : decode cX3_countWhite 112 = .ok (.baload, 1) := by decide +kernel
theorem dX3_countWhite_113 : decode cX3_countWhite 113 = .ok (.iconst 1, 1) := by decide +kernel
theorem dX3_countWhite_114 : decode cX3_countWhite 114 = .ok (.isub, 1) := by decide +kernel
theorem dX3_countWhite_115 : decode cX3_countWhite 115 = .ok (.iadd, 1) := by decide +kernel
theorem dX3_countWhite_116 : decode cX3_countWhite 116 = .ok (.istore 6, 2) := by decide +kernel
theorem dX3_countWhite_118 : decode cX3_countWhite 118 = .ok (.iinc 7 1, 3) := by decide +kernel
theorem dX3_countWhite_121 : decode cX3_countWhite 121 = .ok (.goto (-112), 3) := by decide +kernel
theorem dX3_countWhite_124 : decode cX3_countWhite 124 = .ok (.iload 6, 2) := by decide +kernel
theorem dX3_countWhite_126 : decode cX3_countWhite 126 = .ok (.ireturn, 1) := by decide +kernel
theorem dX3_nextOrder_0 : decode cX3_nextOrder 0 = .ok (.iload_n 1, 1) := by decide +kernel
theorem dX3_nextOrder_1 : decode cX3_nextOrder 1 = .ok (.iconst 2, 1) := by decide +kernel
theorem dX3_nextOrder_2 : decode cX3_nextOrder 2 = .ok (.isub, 1) := by decide +kernel
theorem dX3_nextOrder_3 : decode cX3_nextOrder 3 = .ok (.istore_n 2, 1) := by decide +kernel
theorem dX3_nextOrder_4 : decode cX3_nextOrder 4 = .ok (.iload_n 2, 1) := by decide +kernel
theorem dX3_nextOrder_5 : decode cX3_nextOrder 5 = .ok (.ifCond .lt 26, 3) := by decide +kernel
theorem dX3_nextOrder_8 : decode cX3_nextOrder 8 = .ok (.aload_n 0, 1) := by decide +kernel
theorem dX3_nextOrder_9 : decode cX3_nextOrder 9 = .ok (.getfield 19, 3) := by decide +kernel
theorem dX3_nextOrder_12 : decode cX3_nextOrder 12 = .ok (.iload_n 2, 1) := by decide +kernel
theorem dX3_nextOrder_13 : decode cX3_nextOrder 13 = .ok (.iaload, 1) := by decide +kernel
theorem dX3_nextOrder_14 : decode cX3_nextOrder 14 = .ok (.aload_n 0, 1) := by decide +kernel
theorem dX3_nextOrder_15 : decode cX3_nextOrder 15 = .ok (.getfield 19, 3) := by decide +kernel
theorem dX3_nextOrder_18 : decode cX3_nextOrder 18 = .ok (.iload_n 2, 1) := by decide +kernel
theorem dX3_nextOrder_19 : decode cX3_nextOrder 19 = .ok (.iconst 1, 1) := by decide +kernel
theorem dX3_nextOrder_20 : decode cX3_nextOrder 20 = .ok (.iadd, 1) := by decide +kernel
theorem dX3_nextOrder_21 : decode cX3_nextOrder 21 = .ok (.iaload, 1) := by decide +kernel
theorem dX3_nextOrder_22 : decode cX3_nextOrder 22 = .ok (.if_icmp .le 9, 3) := by decide +kernel
theorem dX3_nextOrder_25 : decode cX3_nextOrder 25 = .ok (.iinc 2 (-1), 3) := by decide +kernel
theorem dX3_nextOrder_28 : decode cX3_nextOrder 28 = .ok (.goto (-24), 3) := by decide +kernel
theorem dX3_nextOrder_31 : decode cX3_nextOrder 31 = .ok (.iload_n 2, 1) := by decide +kernel
theorem dX3_nextOrder_32 : decode cX3_nextOrder 32 = .ok (.ifCond .ge 5, 3) := by decide +kernel
theorem dX3_nextOrder_35 : decode cX3_nextOrder 35 = .ok (.iconst 0, 1) := by decide +kernel
theorem dX3_nextOrder_36 : decode cX3_nextOrder 36 = .ok (.ireturn, 1) := by decide +kernel
theorem dX3_nextOrder_37 : decode cX3_nextOrder 37 = .ok (.iload_n 1, 1) := by decide +kernel
theorem dX3_nextOrder_38 : decode cX3_nextOrder 38 = .ok (.iconst 1, 1) := by decide +kernel
theorem dX3_nextOrder_39 : decode cX3_nextOrder 39 = .ok (.isub, 1) := by decide +kernel
theorem dX3_nextOrder_40 : decode cX3_nextOrder 40 = .ok (.istore_n 3, 1) := by decide +kernel
theorem dX3_nextOrder_41 : decode cX3_nextOrder 41 = .ok (.iload_n 3, 1) := by decide +kernel
theorem dX3_nextOrder_42 : decode cX3_nextOrder 42 = .ok (.iload_n 2, 1) := by decide +kernel
theorem dX3_nextOrder_43 : decode cX3_nextOrder 43 = .ok (.if_icmp .le 24, 3) := by decide +kernel
theorem dX3_nextOrder_46 : decode cX3_nextOrder 46 = .ok (.aload_n 0, 1) := by decide +kernel
theorem dX3_nextOrder_47 : decode cX3_nextOrder 47 = .ok (.getfield 19, 3) := by decide +kernel
theorem dX3_nextOrder_50 : decode cX3_nextOrder 50 = .ok (.iload_n 3, 1) := by decide +kernel
theorem dX3_nextOrder_51 : decode cX3_nextOrder 51 = .ok (.iaload, 1) := by decide +kernel
theorem dX3_nextOrder_52 : decode cX3_nextOrder 52 = .ok (.aload_n 0, 1) := by decide +kernel
theorem dX3_nextOrder_53 : decode cX3_nextOrder 53 = .ok (.getfield 19, 3) := by decide +kernel
theorem dX3_nextOrder_56 : decode cX3_nextOrder 56 = .ok (.iload_n 2, 1) := by decide +kernel
theorem dX3_nextOrder_57 : decode cX3_nextOrder 57 = .ok (.iaload, 1) := by decide +kernel
theorem dX3_nextOrder_58 : decode cX3_nextOrder 58 = .ok (.if_icmp .ge 9, 3) := by decide +kernel
theorem dX3_nextOrder_61 : decode cX3_nextOrder 61 = .ok (.iinc 3 (-1), 3) := by decide +kernel
theorem dX3_nextOrder_64 : decode cX3_nextOrder 64 = .ok (.goto (-23), 3) := by decide +kernel
theorem dX3_nextOrder_67 : decode cX3_nextOrder 67 = .ok (.aload_n 0, 1) := by decide +kernel
theorem dX3_nextOrder_68 : decode cX3_nextOrder 68 = .ok (.iload_n 2, 1) := by decide +kernel
theorem dX3_nextOrder_69 : decode cX3_nextOrder 69 = .ok (.iload_n 3, 1) := by decide +kernel
theorem dX3_nextOrder_70 : decode cX3_nextOrder 70 = .ok (.invokevirtual 118, 3) := by decide +kernel
theorem dX3_nextOrder_73 : decode cX3_nextOrder 73 = .ok (.iload_n 2, 1) := by decide +kernel
theorem dX3_nextOrder_74 : decode cX3_nextOrder 74 = .ok (.iconst 1, 1) := by decide +kernel
theorem dX3_nextOrder_75 : decode cX3_nextOrder 75 = .ok (.iadd, 1) := by decide +kernel
theorem dX3_nextOrder_76 : decode cX3_nextOrder 76 = .ok (.istore 4, 2) := by decide +kernel
theorem dX3_nextOrder_78 : decode cX3_nextOrder 78 = .ok (.iload_n 1, 1) := by decide +kernel
theorem dX3_nextOrder_79 : decode cX3_nextOrder 79 = .ok (.iconst 1, 1) := by decide +kernel
theorem dX3_nextOrder_80 : decode cX3_nextOrder 80 = .ok (.isub, 1) := by decide +kernel
theorem dX3_nextOrder_81 : decode cX3_nextOrder 81 = .ok (.istore 5, 2) := by decide +kernel
theorem dX3_nextOrder_83 : decode cX3_nextOrder 83 = .ok (.iload 4, 2) := by decide +kernel
theorem dX3_nextOrder_85 : decode cX3_nextOrder 85 = .ok (.iload 5, 2) := by decide +kernel
theorem dX3_nextOrder_87 : decode cX3_nextOrder 87 = .ok (.if_icmp .ge 20, 3) := by decide +kernel
theorem dX3_nextOrder_90 : decode cX3_nextOrder 90 = .ok (.aload_n 0, 1) := by decide +kernel
theorem dX3_nextOrder_91 : decode cX3_nextOrder 91 = .ok (.iload 4, 2) := by decide +kernel
theorem dX3_nextOrder_93 : decode cX3_nextOrder 93 = .ok (.iload 5, 2) := by decide +kernel
theorem dX3_nextOrder_95 : decode cX3_nextOrder 95 = .ok (.invokevirtual 118, 3) := by decide +kernel
theorem dX3_nextOrder_98 : decode cX3_nextOrder 98 = .ok (.iinc 4 1, 3) := by decide +kernel
theorem dX3_nextOrder_101 : decode cX3_nextOrder 101 = .ok (.iinc 5 (-1), 3) := by decide +kernel
theorem dX3_nextOrder_104 : decode cX3_nextOrder 104 = .ok (.goto (-21), 3) := by decide +kernel
theorem dX3_nextOrder_107 : decode cX3_nextOrder 107 = .ok (.iconst 1, 1) := by decide +kernel
theorem dX3_nextOrder_108 : decode cX3_nextOrder 108 = .ok (.ireturn, 1) := by decide +kernel
theorem dX3_swap_0 : decode cX3_swap 0 = .ok (.aload_n 0, 1) := by decide +kernel
theorem dX3_swap_1 : decode cX3_swap 1 = .ok (.getfield 19, 3) := by decide +kernel
theorem dX3_swap_4 : decode cX3_swap 4 = .ok (.iload_n 1, 1) := by decide +kernel
theorem dX3_swap_5 : decode cX3_swap 5 = .ok (.iaload, 1) := by decide +kernel
theorem dX3_swap_6 : decode cX3_swap 6 = .ok (.istore_n 3, 1) := by decide +kernel
theorem dX3_swap_7 : decode cX3_swap 7 = .ok (.aload_n 0, 1) := by decide +kernel
theorem dX3_swap_8 : decode cX3_swap 8 = .ok (.getfield 19, 3) := by decide +kernel
theorem dX3_swap_11 : decode cX3_swap 11 = .ok (.iload_n 1, 1) := by decide +kernel
theorem dX3_swap_12 : decode cX3_swap 12 = .ok (.aload_n 0, 1) := by decide +kernel
theorem dX3_swap_13 : decode cX3_swap 13 = .ok (.getfield 19, 3) := by decide +kernel
theorem dX3_swap_16 : decode cX3_swap 16 = .ok (.iload_n 2, 1) := by decide +kernel
theorem dX3_swap_17 : decode cX3_swap 17 = .ok (.iaload, 1) := by decide +kernel
theorem dX3_swap_18 : decode cX3_swap 18 = .ok (.iastore, 1) := by decide +kernel
theorem dX3_swap_19 : decode cX3_swap 19 = .ok (.aload_n 0, 1) := by decide +kernel
theorem dX3_swap_20 : decode cX3_swap 20 = .ok (.getfield 19, 3) := by decide +kernel
theorem dX3_swap_23 : decode cX3_swap 23 = .ok (.iload_n 2, 1) := by decide +kernel
theorem dX3_swap_24 : decode cX3_swap 24 = .ok (.iload_n 3, 1) := by decide +kernel
theorem dX3_swap_25 : decode cX3_swap 25 = .ok (.iastore, 1) := by decide +kernel
theorem dX3_swap_26 : decode cX3_swap 26 = .ok (.return_, 1) := by decide +kernel
theorem dX4_init_0 : decode cX4_init 0 = .ok (.aload_n 0, 1) := by decide +kernel
theorem dX4_init_1 : decode cX4_init 1 = .ok (.invokespecial 3, 3) := by decide +kernel
theorem dX4_init_4 : decode cX4_init 4 = .ok (.aload_n 0, 1) := by decide +kernel
theorem dX4_init_5 : decode cX4_init 5 = .ok (.iconst 5, 1) := by decide +kernel
theorem dX4_init_6 : decode cX4_init 6 = .ok (.newarray .int, 2) := by decide +kernel
theorem dX4_init_8 : decode cX4_init 8 = .ok (.putfield 9, 3) := by decide +kernel
theorem dX4_init_11 : decode cX4_init 11 = .ok (.aload_n 0, 1) := by decide +kernel
theorem dX4_init_12 : decode cX4_init 12 = .ok (.iconst 0, 1) := by decide +kernel
theorem dX4_init_13 : decode cX4_init 13 = .ok (.putfield 15, 3) := by decide +kernel
theorem dX4_init_16 : decode cX4_init 16 = .ok (.aload_n 0, 1) := by decide +kernel
theorem dX4_init_17 : decode cX4_init 17 = .ok (.iconst 0, 1) := by decide +kernel
theorem dX4_init_18 : decode cX4_init 18 = .ok (.putfield 19, 3) := by decide +kernel
theorem dX4_init_21 : decode cX4_init 21 = .ok (.aload_n 0, 1) := by decide +kernel
theorem dX4_init_22 : decode cX4_init 22 = .ok (.iconst 0, 1) := by decide +kernel
theorem dX4_init_23 : decode cX4_init 23 = .ok (.putfield 22, 3) := by decide +kernel
theorem dX4_init_26 : decode cX4_init 26 = .ok (.aload_n 0, 1) := by decide +kernel
theorem dX4_init_27 : decode cX4_init 27 = .ok (.iconst 0, 1) := by decide +kernel
theorem dX4_init_28 : decode cX4_init 28 = .ok (.putfield 25, 3) := by decide +kernel
theorem dX4_init_31 : decode cX4_init 31 = .ok (.return_, 1) := by decide +kernel
theorem dX4_begin_0 : decode cX4_begin 0 = .ok (.aload_n 1, 1) := by decide +kernel
theorem dX4_begin_1 : decode cX4_begin 1 = .ok (.getfield 28, 3) := by decide +kernel
theorem dX4_begin_4 : decode cX4_begin 4 = .ok (.iconst 0, 1) := by decide +kernel
theorem dX4_begin_5 : decode cX4_begin 5 = .ok (.aload_n 0, 1) := by decide +kernel
theorem dX4_begin_6 : decode cX4_begin 6 = .ok (.getfield 9, 3) := by decide +kernel
theorem dX4_begin_9 : decode cX4_begin 9 = .ok (.iconst 0, 1) := by decide +kernel
theorem dX4_begin_10 : decode cX4_begin 10 = .ok (.iconst 5, 1) := by decide +kernel
theorem dX4_begin_11 : decode cX4_begin 11 = .ok (.invokestatic 31, 3) := by decide +kernel
theorem dX4_begin_14 : decode cX4_begin 14 = .ok (.aload_n 0, 1) := by decide +kernel
theorem dX4_begin_15 : decode cX4_begin 15 = .ok (.iconst 0, 1) := by decide +kernel
theorem dX4_begin_16 : decode cX4_begin 16 = .ok (.putfield 15, 3) := by decide +kernel
theorem dX4_begin_19 : decode cX4_begin 19 = .ok (.aload_n 0, 1) := by decide +kernel
theorem dX4_begin_20 : decode cX4_begin 20 = .ok (.iconst 0, 1) := by decide +kernel
theorem dX4_begin_21 : decode cX4_begin 21 = .ok (.putfield 19, 3) := by decide +kernel
theorem dX4_begin_24 : decode cX4_begin 24 = .ok (.aload_n 0, 1) := by decide +kernel
theorem dX4_begin_25 : decode cX4_begin 25 = .ok (.iconst 0, 1) := by decide +kernel
theorem dX4_begin_26 : decode cX4_begin 26 = .ok (.putfield 22, 3) := by decide +kernel
theorem dX4_begin_29 : decode cX4_begin 29 = .ok (.aload_n 0, 1) := by decide +kernel
theorem dX4_begin_30 : decode cX4_begin 30 = .ok (.iconst 0, 1) := by decide +kernel
theorem dX4_begin_31 : decode cX4_begin 31 = .ok (.putfield 25, 3) := by decide +kernel
theorem dX4_begin_34 : decode cX4_begin 34 = .ok (.return_, 1) := by decide +kernel
theorem dX4_copy_0 : decode cX4_copy 0 = .ok (.aload_n 1, 1) := by decide +kernel
theorem dX4_copy_1 : decode cX4_copy 1 = .ok (.getfield 9, 3) := by decide +kernel
theorem dX4_copy_4 : decode cX4_copy 4 = .ok (.iconst 0, 1) := by decide +kernel
theorem dX4_copy_5 : decode cX4_copy 5 = .ok (.aload_n 0, 1) := by decide +kernel
theorem dX4_copy_6 : decode cX4_copy 6 = .ok (.getfield 9, 3) := by decide +kernel
theorem dX4_copy_9 : decode cX4_copy 9 = .ok (.iconst 0, 1) := by decide +kernel
theorem dX4_copy_10 : decode cX4_copy 10 = .ok (.iconst 5, 1) := by decide +kernel
theorem dX4_copy_11 : decode cX4_copy 11 = .ok (.invokestatic 31, 3) := by decide +kernel
theorem dX4_copy_14 : decode cX4_copy 14 = .ok (.aload_n 0, 1) := by decide +kernel
theorem dX4_copy_15 : decode cX4_copy 15 = .ok (.aload_n 1, 1) := by decide +kernel
theorem dX4_copy_16 : decode cX4_copy 16 = .ok (.getfield 15, 3) := by decide +kernel
theorem dX4_copy_19 : decode cX4_copy 19 = .ok (.putfield 15, 3) := by decide +kernel
theorem dX4_copy_22 : decode cX4_copy 22 = .ok (.aload_n 0, 1) := by decide +kernel
theorem dX4_copy_23 : decode cX4_copy 23 = .ok (.aload_n 1, 1) := by decide +kernel
theorem dX4_copy_24 : decode cX4_copy 24 = .ok (.getfield 19, 3) := by decide +kernel
theorem dX4_copy_27 : decode cX4_copy 27 = .ok (.putfield 19, 3) := by decide +kernel
theorem dX4_copy_30 : decode cX4_copy 30 = .ok (.aload_n 0, 1) := by decide +kernel
theorem dX4_copy_31 : decode cX4_copy 31 = .ok (.aload_n 1, 1) := by decide +kernel
theorem dX4_copy_32 : decode cX4_copy 32 = .ok (.getfield 22, 3) := by decide +kernel
theorem dX4_copy_35 : decode cX4_copy 35 = .ok (.putfield 22, 3) := by decide +kernel
theorem dX4_copy_38 : decode cX4_copy 38 = .ok (.aload_n 0, 1) := by decide +kernel
theorem dX4_copy_39 : decode cX4_copy 39 = .ok (.aload_n 1, 1) := by decide +kernel
theorem dX4_copy_40 : decode cX4_copy 40 = .ok (.getfield 25, 3) := by decide +kernel
theorem dX4_copy_43 : decode cX4_copy 43 = .ok (.putfield 25, 3) := by decide +kernel
theorem dX4_copy_46 : decode cX4_copy 46 = .ok (.return_, 1) := by decide +kernel
theorem dX4_keepIn_0 : decode cX4_keepIn 0 = .ok (.aload_n 0, 1) := by decide +kernel
theorem dX4_keepIn_1 : decode cX4_keepIn 1 = .ok (.getfield 9, 3) := by decide +kernel
theorem dX4_keepIn_4 : decode cX4_keepIn 4 = .ok (.iconst 0, 1) := by decide +kernel
theorem dX4_keepIn_5 : decode cX4_keepIn 5 = .ok (.aload_n 1, 1) := by decide +kernel
theorem dX4_keepIn_6 : decode cX4_keepIn 6 = .ok (.iload_n 2, 1) := by decide +kernel
theorem dX4_keepIn_7 : decode cX4_keepIn 7 = .ok (.iconst 5, 1) := by decide +kernel
theorem dX4_keepIn_8 : decode cX4_keepIn 8 = .ok (.invokestatic 31, 3) := by decide +kernel
theorem dX4_keepIn_11 : decode cX4_keepIn 11 = .ok (.aload_n 1, 1) := by decide +kernel
theorem dX4_keepIn_12 : decode cX4_keepIn 12 = .ok (.iload_n 2, 1) := by decide +kernel
theorem dX4_keepIn_13 : decode cX4_keepIn 13 = .ok (.iconst 5, 1) := by decide +kernel
theorem dX4_keepIn_14 : decode cX4_keepIn 14 = .ok (.iadd, 1) := by decide +kernel
theorem dX4_keepIn_15 : decode cX4_keepIn 15 = .ok (.aload_n 0, 1) := by decide +kernel
theorem dX4_keepIn_16 : decode cX4_keepIn 16 = .ok (.getfield 15, 3) := by decide +kernel
theorem dX4_keepIn_19 : decode cX4_keepIn 19 = .ok (.iastore, 1) := by decide +kernel
theorem dX4_keepIn_20 : decode cX4_keepIn 20 = .ok (.aload_n 1, 1) := by decide +kernel
theorem dX4_keepIn_21 : decode cX4_keepIn 21 = .ok (.iload_n 2, 1) := by decide +kernel
theorem dX4_keepIn_22 : decode cX4_keepIn 22 = .ok (.iconst 5, 1) := by decide +kernel
theorem dX4_keepIn_23 : decode cX4_keepIn 23 = .ok (.iadd, 1) := by decide +kernel
theorem dX4_keepIn_24 : decode cX4_keepIn 24 = .ok (.iconst 1, 1) := by decide +kernel
theorem dX4_keepIn_25 : decode cX4_keepIn 25 = .ok (.iadd, 1) := by decide +kernel
theorem dX4_keepIn_26 : decode cX4_keepIn 26 = .ok (.aload_n 0, 1) := by decide +kernel
theorem dX4_keepIn_27 : decode cX4_keepIn 27 = .ok (.getfield 19, 3) := by decide +kernel
theorem dX4_keepIn_30 : decode cX4_keepIn 30 = .ok (.iastore, 1) := by decide +kernel
theorem dX4_keepIn_31 : decode cX4_keepIn 31 = .ok (.aload_n 1, 1) := by decide +kernel
theorem dX4_keepIn_32 : decode cX4_keepIn 32 = .ok (.iload_n 2, 1) := by decide +kernel
theorem dX4_keepIn_33 : decode cX4_keepIn 33 = .ok (.iconst 5, 1) := by decide +kernel
theorem dX4_keepIn_34 : decode cX4_keepIn 34 = .ok (.iadd, 1) := by decide +kernel
theorem dX4_keepIn_35 : decode cX4_keepIn 35 = .ok (.iconst 2, 1) := by decide +kernel
theorem dX4_keepIn_36 : decode cX4_keepIn 36 = .ok (.iadd, 1) := by decide +kernel
theorem dX4_keepIn_37 : decode cX4_keepIn 37 = .ok (.aload_n 0, 1) := by decide +kernel
theorem dX4_keepIn_38 : decode cX4_keepIn 38 = .ok (.getfield 22, 3) := by decide +kernel
theorem dX4_keepIn_41 : decode cX4_keepIn 41 = .ok (.iastore, 1) := by decide +kernel
theorem dX4_keepIn_42 : decode cX4_keepIn 42 = .ok (.aload_n 1, 1) := by decide +kernel
theorem dX4_keepIn_43 : decode cX4_keepIn 43 = .ok (.iload_n 2, 1) := by decide +kernel
theorem dX4_keepIn_44 : decode cX4_keepIn 44 = .ok (.iconst 5, 1) := by decide +kernel
theorem dX4_keepIn_45 : decode cX4_keepIn 45 = .ok (.iadd, 1) := by decide +kernel
theorem dX4_keepIn_46 : decode cX4_keepIn 46 = .ok (.iconst 3, 1) := by decide +kernel
theorem dX4_keepIn_47 : decode cX4_keepIn 47 = .ok (.iadd, 1) := by decide +kernel
theorem dX4_keepIn_48 : decode cX4_keepIn 48 = .ok (.aload_n 0, 1) := by decide +kernel
theorem dX4_keepIn_49 : decode cX4_keepIn 49 = .ok (.getfield 25, 3) := by decide +kernel
theorem dX4_keepIn_52 : decode cX4_keepIn 52 = .ok (.iastore, 1) := by decide +kernel
theorem dX4_keepIn_53 : decode cX4_keepIn 53 = .ok (.return_, 1) := by decide +kernel
theorem dX4_takeFrom_0 : decode cX4_takeFrom 0 = .ok (.aload_n 1, 1) := by decide +kernel
theorem dX4_takeFrom_1 : decode cX4_takeFrom 1 = .ok (.iload_n 2, 1) := by decide +kernel
theorem dX4_takeFrom_2 : decode cX4_takeFrom 2 = .ok (.aload_n 0, 1) := by decide +kernel
theorem dX4_takeFrom_3 : decode cX4_takeFrom 3 = .ok (.getfield 9, 3) := by decide +kernel
theorem dX4_takeFrom_6 : decode cX4_takeFrom 6 = .ok (.iconst 0, 1) := by decide +kernel
theorem dX4_takeFrom_7 : decode cX4_takeFrom 7 = .ok (.iconst 5, 1) := by decide +kernel
theorem dX4_takeFrom_8 : decode cX4_takeFrom 8 = .ok (.invokestatic 31, 3) := by decide +kernel
theorem dX4_takeFrom_11 : decode cX4_takeFrom 11 = .ok (.aload_n 0, 1) := by decide +kernel
theorem dX4_takeFrom_12 : decode cX4_takeFrom 12 = .ok (.aload_n 1, 1) := by decide +kernel
theorem dX4_takeFrom_13 : decode cX4_takeFrom 13 = .ok (.iload_n 2, 1) := by decide +kernel
theorem dX4_takeFrom_14 : decode cX4_takeFrom 14 = .ok (.iconst 5, 1) := by decide +kernel
theorem dX4_takeFrom_15 : decode cX4_takeFrom 15 = .ok (.iadd, 1) := by decide +kernel
theorem dX4_takeFrom_16 : decode cX4_takeFrom 16 = .ok (.iaload, 1) := by decide +kernel
theorem dX4_takeFrom_17 : decode cX4_takeFrom 17 = .ok (.putfield 15, 3) := by decide +kernel
theorem dX4_takeFrom_20 : decode cX4_takeFrom 20 = .ok (.aload_n 0, 1) := by decide +kernel
theorem dX4_takeFrom_21 : decode cX4_takeFrom 21 = .ok (.aload_n 1, 1) := by decide +kernel
theorem dX4_takeFrom_22 : decode cX4_takeFrom 22 = .ok (.iload_n 2, 1) := by decide +kernel
theorem dX4_takeFrom_23 : decode cX4_takeFrom 23 = .ok (.iconst 5, 1) := by decide +kernel
theorem dX4_takeFrom_24 : decode cX4_takeFrom 24 = .ok (.iadd, 1) := by decide +kernel
theorem dX4_takeFrom_25 : decode cX4_takeFrom 25 = .ok (.iconst 1, 1) := by decide +kernel
theorem dX4_takeFrom_26 : decode cX4_takeFrom 26 = .ok (.iadd, 1) := by decide +kernel
theorem dX4_takeFrom_27 : decode cX4_takeFrom 27 = .ok (.iaload, 1) := by decide +kernel
theorem dX4_takeFrom_28 : decode cX4_takeFrom 28 = .ok (.putfield 19, 3) := by decide +kernel
theorem dX4_takeFrom_31 : decode cX4_takeFrom 31 = .ok (.aload_n 0, 1) := by decide +kernel
theorem dX4_takeFrom_32 : decode cX4_takeFrom 32 = .ok (.aload_n 1, 1) := by decide +kernel
theorem dX4_takeFrom_33 : decode cX4_takeFrom 33 = .ok (.iload_n 2, 1) := by decide +kernel
theorem dX4_takeFrom_34 : decode cX4_takeFrom 34 = .ok (.iconst 5, 1) := by decide +kernel
theorem dX4_takeFrom_35 : decode cX4_takeFrom 35 = .ok (.iadd, 1) := by decide +kernel
theorem dX4_takeFrom_36 : decode cX4_takeFrom 36 = .ok (.iconst 2, 1) := by decide +kernel
theorem dX4_takeFrom_37 : decode cX4_takeFrom 37 = .ok (.iadd, 1) := by decide +kernel
theorem dX4_takeFrom_38 : decode cX4_takeFrom 38 = .ok (.iaload, 1) := by decide +kernel
theorem dX4_takeFrom_39 : decode cX4_takeFrom 39 = .ok (.putfield 22, 3) := by decide +kernel
theorem dX4_takeFrom_42 : decode cX4_takeFrom 42 = .ok (.aload_n 0, 1) := by decide +kernel
theorem dX4_takeFrom_43 : decode cX4_takeFrom 43 = .ok (.aload_n 1, 1) := by decide +kernel
theorem dX4_takeFrom_44 : decode cX4_takeFrom 44 = .ok (.iload_n 2, 1) := by decide +kernel
theorem dX4_takeFrom_45 : decode cX4_takeFrom 45 = .ok (.iconst 5, 1) := by decide +kernel
theorem dX4_takeFrom_46 : decode cX4_takeFrom 46 = .ok (.iadd, 1) := by decide +kernel
theorem dX4_takeFrom_47 : decode cX4_takeFrom 47 = .ok (.iconst 3, 1) := by decide +kernel
theorem dX4_takeFrom_48 : decode cX4_takeFrom 48 = .ok (.iadd, 1) := by decide +kernel
theorem dX4_takeFrom_49 : decode cX4_takeFrom 49 = .ok (.iaload, 1) := by decide +kernel
theorem dX4_takeFrom_50 : decode cX4_takeFrom 50 = .ok (.putfield 25, 3) := by decide +kernel
theorem dX4_takeFrom_53 : decode cX4_takeFrom 53 = .ok (.return_, 1) := by decide +kernel
theorem dX4_isWhite_0 : decode cX4_isWhite 0 = .ok (.aload_n 0, 1) := by decide +kernel
theorem dX4_isWhite_1 : decode cX4_isWhite 1 = .ok (.getfield 19, 3) := by decide +kernel
theorem dX4_isWhite_4 : decode cX4_isWhite 4 = .ok (.bipush 10, 2) := by decide +kernel
theorem dX4_isWhite_6 : decode cX4_isWhite 6 = .ok (.if_icmp .lt 7, 3) := by decide +kernel
theorem dX4_isWhite_9 : decode cX4_isWhite 9 = .ok (.iconst 1, 1) := by decide +kernel
theorem dX4_isWhite_10 : decode cX4_isWhite 10 = .ok (.goto 4, 3) := by decide +kernel
theorem dX4_isWhite_13 : decode cX4_isWhite 13 = .ok (.iconst 0, 1) := by decide +kernel
theorem dX4_isWhite_14 : decode cX4_isWhite 14 = .ok (.ireturn, 1) := by decide +kernel
theorem dX4_isBlocked_0 : decode cX4_isBlocked 0 = .ok (.aload_n 1, 1) := by decide +kernel
theorem dX4_isBlocked_1 : decode cX4_isBlocked 1 = .ok (.getfield 37, 3) := by decide +kernel
theorem dX4_isBlocked_4 : decode cX4_isBlocked 4 = .ok (.aload_n 0, 1) := by decide +kernel
theorem dX4_isBlocked_5 : decode cX4_isBlocked 5 = .ok (.getfield 19, 3) := by decide +kernel
theorem dX4_isBlocked_8 : decode cX4_isBlocked 8 = .ok (.iconst 2, 1) := by decide +kernel
theorem dX4_isBlocked_9 : decode cX4_isBlocked 9 = .ok (.aload_n 0, 1) := by decide +kernel
theorem dX4_isBlocked_10 : decode cX4_isBlocked 10 = .ok (.getfield 22, 3) := by decide +kernel
theorem dX4_isBlocked_13 : decode cX4_isBlocked 13 = .ok (.imul, 1) := by decide +kernel
theorem dX4_isBlocked_14 : decode cX4_isBlocked 14 = .ok (.iadd, 1) := by decide +kernel
theorem dX4_isBlocked_15 : decode cX4_isBlocked 15 = .ok (.imul, 1) := by decide +kernel
theorem dX4_isBlocked_16 : decode cX4_isBlocked 16 = .ok (.sipush 1000, 3) := by decide +kernel
theorem dX4_isBlocked_19 : decode cX4_isBlocked 19 = .ok (.if_icmp .lt 7, 3) := by decide +kernel
theorem dX4_isBlocked_22 : decode cX4_isBlocked 22 = .ok (.iconst 1, 1) := by decide +kernel
theorem dX4_isBlocked_23 : decode cX4_isBlocked 23 = .ok (.goto 4, 3) := by decide +kernel
theorem dX4_isBlocked_26 : decode cX4_isBlocked 26 = .ok (.iconst 0, 1) := by decide +kernel
theorem dX4_isBlocked_27 : decode cX4_isBlocked 27 = .ok (.ireturn, 1) := by decide +kernel
theorem dX4_goStep_0 : decode cX4_goStep 0 = .ok (.aload_n 2, 1) := by decide +kernel
theorem dX4_goStep_1 : decode cX4_goStep 1 = .ok (.iload_n 3, 1) := by decide +kernel
theorem dX4_goStep_2 : decode cX4_goStep 2 = .ok (.invokevirtual 40, 3) := by decide +kernel
theorem dX4_goStep_5 : decode cX4_goStep 5 = .ok (.istore 5, 2) := by decide +kernel
theorem dX4_goStep_7 : decode cX4_goStep 7 = .ok (.aload_n 0, 1) := by decide +kernel
theorem dX4_goStep_8 : decode cX4_goStep 8 = .ok (.aload_n 1, 1) := by decide +kernel
theorem dX4_goStep_9 : decode cX4_goStep 9 = .ok (.aload_n 2, 1) := by decide +kernel
theorem dX4_goStep_10 : decode cX4_goStep 10 = .ok (.getfield 46, 3) := by decide +kernel
theorem dX4_goStep_13 : decode cX4_goStep 13 = .ok (.iload 5, 2) := by decide +kernel
theorem dX4_goStep_15 : decode cX4_goStep 15 = .ok (.iaload, 1) := by decide +kernel
theorem dX4_goStep_16 : decode cX4_goStep 16 = .ok (.iload 4, 2) := by decide +kernel
theorem dX4_goStep_18 : decode cX4_goStep 18 = .ok (.iadd, 1) := by decide +kernel
theorem dX4_goStep_19 : decode cX4_goStep 19 = .ok (.invokevirtual 49, 3) := by decide +kernel
theorem dX4_goStep_22 : decode cX4_goStep 22 = .ok (.aload_n 2, 1) := by decide +kernel
theorem dX4_goStep_23 : decode cX4_goStep 23 = .ok (.getfield 53, 3) := by decide +kernel
theorem dX4_goStep_26 : decode cX4_goStep 26 = .ok (.iload 5, 2) := by decide +kernel
theorem dX4_goStep_28 : decode cX4_goStep 28 = .ok (.iaload, 1) := by decide +kernel
theorem dX4_goStep_29 : decode cX4_goStep 29 = .ok (.aload_n 2, 1) := by decide +kernel
theorem dX4_goStep_30 : decode cX4_goStep 30 = .ok (.getfield 56, 3) := by decide +kernel
theorem dX4_goStep_33 : decode cX4_goStep 33 = .ok (.iload 5, 2) := by decide +kernel
theorem dX4_goStep_35 : decode cX4_goStep 35 = .ok (.iaload, 1) := by decide +kernel
theorem dX4_goStep_36 : decode cX4_goStep 36 = .ok (.imul, 1) := by decide +kernel
theorem dX4_goStep_37 : decode cX4_goStep 37 = .ok (.bipush 10, 2) := by decide +kernel
theorem dX4_goStep_39 : decode cX4_goStep 39 = .ok (.idiv, 1) := by decide +kernel
theorem dX4_goStep_40 : decode cX4_goStep 40 = .ok (.istore 6, 2) := by decide +kernel
theorem dX4_goStep_42 : decode cX4_goStep 42 = .ok (.aload_n 0, 1) := by decide +kernel
theorem dX4_goStep_43 : decode cX4_goStep 43 = .ok (.dup, 1) := by decide +kernel
theorem dX4_goStep_44 : decode cX4_goStep 44 = .ok (.getfield 15, 3) := by decide +kernel
theorem dX4_goStep_47 : decode cX4_goStep 47 = .ok (.iload 6, 2) := by decide +kernel
theorem dX4_goStep_49 : decode cX4_goStep 49 = .ok (.iadd, 1) := by decide +kernel
theorem dX4_goStep_50 : decode cX4_goStep 50 = .ok (.putfield 15, 3) := by decide +kernel
theorem dX4_goStep_53 : decode cX4_goStep 53 = .ok (.aload_n 0, 1) := by decide +kernel
theorem dX4_goStep_54 : decode cX4_goStep 54 = .ok (.dup, 1) := by decide +kernel
theorem dX4_goStep_55 : decode cX4_goStep 55 = .ok (.getfield 19, 3) := by decide +kernel
theorem dX4_goStep_58 : decode cX4_goStep 58 = .ok (.aload_n 2, 1) := by decide +kernel
theorem dX4_goStep_59 : decode cX4_goStep 59 = .ok (.getfield 53, 3) := by decide +kernel
theorem dX4_goStep_62 : decode cX4_goStep 62 = .ok (.iload 5, 2) := by decide +kernel
theorem dX4_goStep_64 : decode cX4_goStep 64 = .ok (.iaload, 1) := by decide +kernel
theorem dX4_goStep_65 : decode cX4_goStep 65 = .ok (.iload 6, 2) := by decide +kernel
theorem dX4_goStep_67 : decode cX4_goStep 67 = .ok (.isub, 1) := by decide +kernel
theorem dX4_goStep_68 : decode cX4_goStep 68 = .ok (.iadd, 1) := by decide +kernel
theorem dX4_goStep_69 : decode cX4_goStep 69 = .ok (.putfield 19, 3) := by decide +kernel
theorem dX4_goStep_72 : decode cX4_goStep 72 = .ok (.aload_n 0, 1) := by decide +kernel
theorem dX4_goStep_73 : decode cX4_goStep 73 = .ok (.invokevirtual 59, 3) := by decide +kernel
theorem dX4_goStep_76 : decode cX4_goStep 76 = .ok (.aload_n 0, 1) := by decide +kernel
theorem dX4_goStep_77 : decode cX4_goStep 77 = .ok (.getstatic 62, 3) := by decide +kernel
theorem dX4_goStep_80 : decode cX4_goStep 80 = .ok (.aload_n 1, 1) := by decide +kernel
theorem dX4_goStep_81 : decode cX4_goStep 81 = .ok (.getfield 65, 3) := by decide +kernel
theorem dX4_goStep_84 : decode cX4_goStep 84 = .ok (.iaload, 1) := by decide +kernel
theorem dX4_goStep_85 : decode cX4_goStep 85 = .ok (.invokevirtual 68, 3) := by decide +kernel
theorem dX4_goStep_88 : decode cX4_goStep 88 = .ok (.aload_n 0, 1) := by decide +kernel
theorem dX4_goStep_89 : decode cX4_goStep 89 = .ok (.dup, 1) := by decide +kernel
theorem dX4_goStep_90 : decode cX4_goStep 90 = .ok (.getfield 25, 3) := by decide +kernel
theorem dX4_goStep_93 : decode cX4_goStep 93 = .ok (.aload_n 0, 1) := by decide +kernel
theorem dX4_goStep_94 : decode cX4_goStep 94 = .ok (.getfield 25, 3) := by decide +kernel
theorem dX4_goStep_97 : decode cX4_goStep 97 = .ok (.aload_n 1, 1) := by decide +kernel
theorem dX4_goStep_98 : decode cX4_goStep 98 = .ok (.getfield 72, 3) := by decide +kernel
theorem dX4_goStep_101 : decode cX4_goStep 101 = .ok (.imul, 1) := by decide +kernel
theorem dX4_goStep_102 : decode cX4_goStep 102 = .ok (.bipush 100, 2) := by decide +kernel
theorem dX4_goStep_104 : decode cX4_goStep 104 = .ok (.idiv, 1) := by decide +kernel
theorem dX4_goStep_105 : decode cX4_goStep 105 = .ok (.isub, 1) := by decide +kernel
theorem dX4_goStep_106 : decode cX4_goStep 106 = .ok (.putfield 25, 3) := by decide +kernel
theorem dX4_goStep_109 : decode cX4_goStep 109 = .ok (.aload_n 0, 1) := by decide +kernel
theorem dX4_goStep_110 : decode cX4_goStep 110 = .ok (.getfield 19, 3) := by decide +kernel
theorem dX4_goStep_113 : decode cX4_goStep 113 = .ok (.aload_n 1, 1) := by decide +kernel
theorem dX4_goStep_114 : decode cX4_goStep 114 = .ok (.getfield 72, 3) := by decide +kernel
theorem dX4_goStep_117 : decode cX4_goStep 117 = .ok (.bipush 20, 2) := by decide +kernel
theorem dX4_goStep_119 : decode cX4_goStep 119 = .ok (.idiv, 1) := by decide +kernel
theorem dX4_goStep_120 : decode cX4_goStep 120 = .ok (.invokestatic 75, 3) := by decide +kernel
theorem dX4_goStep_123 : decode cX4_goStep 123 = .ok (.istore 7, 2) := by decide +kernel
theorem dX4_goStep_125 : decode cX4_goStep 125 = .ok (.aload_n 0, 1) := by decide +kernel
theorem dX4_goStep_126 : decode cX4_goStep 126 = .ok (.dup, 1) := by decide +kernel
theorem dX4_goStep_127 : decode cX4_goStep 127 = .ok (.getfield 19, 3) := by decide +kernel
theorem dX4_goStep_130 : decode cX4_goStep 130 = .ok (.iload 7, 2) := by decide +kernel
theorem dX4_goStep_132 : decode cX4_goStep 132 = .ok (.isub, 1) := by decide +kernel
theorem dX4_goStep_133 : decode cX4_goStep 133 = .ok (.putfield 19, 3) := by decide +kernel
theorem dX4_goStep_136 : decode cX4_goStep 136 = .ok (.aload_n 0, 1) := by decide +kernel
theorem dX4_goStep_137 : decode cX4_goStep 137 = .ok (.dup, 1) := by decide +kernel
theorem dX4_goStep_138 : decode cX4_goStep 138 = .ok (.getfield 22, 3) := by decide +kernel
theorem dX4_goStep_141 : decode cX4_goStep 141 = .ok (.iload 7, 2) := by decide +kernel
theorem dX4_goStep_143 : decode cX4_goStep 143 = .ok (.iadd, 1) := by decide +kernel
theorem dX4_goStep_144 : decode cX4_goStep 144 = .ok (.putfield 22, 3) := by decide +kernel
theorem dX4_goStep_147 : decode cX4_goStep 147 = .ok (.return_, 1) := by decide +kernel
theorem dX4_warmBy_0 : decode cX4_warmBy 0 = .ok (.aload_n 1, 1) := by decide +kernel
theorem dX4_warmBy_1 : decode cX4_warmBy 1 = .ok (.getfield 81, 3) := by decide +kernel
theorem dX4_warmBy_4 : decode cX4_warmBy 4 = .ok (.iconst 1, 1) := by decide +kernel
theorem dX4_warmBy_5 : decode cX4_warmBy 5 = .ok (.isub, 1) := by decide +kernel
theorem dX4_warmBy_6 : decode cX4_warmBy 6 = .ok (.istore_n 3, 1) := by decide +kernel
theorem dX4_warmBy_7 : decode cX4_warmBy 7 = .ok (.aload_n 0, 1) := by decide +kernel
theorem dX4_warmBy_8 : decode cX4_warmBy 8 = .ok (.getfield 9, 3) := by decide +kernel
theorem dX4_warmBy_11 : decode cX4_warmBy 11 = .ok (.iconst 0, 1) := by decide +kernel
theorem dX4_warmBy_12 : decode cX4_warmBy 12 = .ok (.dup2, 1) := by decide +kernel
theorem dX4_warmBy_13 : decode cX4_warmBy 13 = .ok (.iaload, 1) := by decide +kernel
theorem dX4_warmBy_14 : decode cX4_warmBy 14 = .ok (.iload_n 2, 1) := by decide +kernel
theorem dX4_warmBy_15 : decode cX4_warmBy 15 = .ok (.aload_n 0, 1) := by decide +kernel
theorem dX4_warmBy_16 : decode cX4_warmBy 16 = .ok (.getfield 9, 3) := by decide +kernel
theorem dX4_warmBy_19 : decode cX4_warmBy 19 = .ok (.iconst 0, 1) := by decide +kernel
theorem dX4_warmBy_20 : decode cX4_warmBy 20 = .ok (.iaload, 1) := by decide +kernel
theorem dX4_warmBy_21 : decode cX4_warmBy 21 = .ok (.isub, 1) := by decide +kernel
theorem dX4_warmBy_22 : decode cX4_warmBy 22 = .ok (.getstatic 84, 3) := by decide +kernel
theorem dX4_warmBy_25 : decode cX4_warmBy 25 = .ok (.aload_n 1, 1) := by decide +kernel
theorem dX4_warmBy_26 : decode cX4_warmBy 26 = .ok (.getfield 65, 3) := by decide +kernel
theorem dX4_warmBy_29 : decode cX4_warmBy 29 = .ok (.iaload, 1) := by decide +kernel
theorem dX4_warmBy_30 : decode cX4_warmBy 30 = .ok (.idiv, 1) := by decide +kernel
theorem dX4_warmBy_31 : decode cX4_warmBy 31 = .ok (.iadd, 1) := by decide +kernel
theorem dX4_warmBy_32 : decode cX4_warmBy 32 = .ok (.iastore, 1) := by decide +kernel
theorem dX4_warmBy_33 : decode cX4_warmBy 33 = .ok (.aload_n 1, 1) := by decide +kernel
theorem dX4_warmBy_34 : decode cX4_warmBy 34 = .ok (.getfield 65, 3) := by decide +kernel
theorem dX4_warmBy_37 : decode cX4_warmBy 37 = .ok (.iconst 2, 1) := by decide +kernel
theorem dX4_warmBy_38 : decode cX4_warmBy 38 = .ok (.if_icmp .ne 26, 3) := by decide +kernel
theorem dX4_warmBy_41 : decode cX4_warmBy 41 = .ok (.iload_n 3, 1) := by decide +kernel
theorem dX4_warmBy_42 : decode cX4_warmBy 42 = .ok (.ifCond .le 22, 3) := by decide +kernel
theorem dX4_warmBy_45 : decode cX4_warmBy 45 = .ok (.aload_n 0, 1) := by decide +kernel
theorem dX4_warmBy_46 : decode cX4_warmBy 46 = .ok (.getfield 9, 3) := by decide +kernel
theorem dX4_warmBy_49 : decode cX4_warmBy 49 = .ok (.iload_n 3, 1) := by decide +kernel
theorem dX4_warmBy_50 : decode cX4_warmBy 50 = .ok (.dup2, 1) := by decide +kernel
theorem dX4_warmBy_51 : decode cX4_warmBy 51 = .ok (.iaload, 1) := by decide +kernel
theorem dX4_warmBy_52 : decode cX4_warmBy 52 = .ok (.iload_n 2, 1) := by decide +kernel
theorem dX4_warmBy_53 : decode cX4_warmBy 53 = .ok (.aload_n 0, 1) := by decide +kernel
theorem dX4_warmBy_54 : decode cX4_warmBy 54 = .ok (.getfield 9, 3) := by decide +kernel
theorem dX4_warmBy_57 : decode cX4_warmBy 57 = .ok (.iload_n 3, 1) := by decide +kernel
theorem dX4_warmBy_58 : decode cX4_warmBy 58 = .ok (.iaload, 1) := by decide +kernel
theorem dX4_warmBy_59 : decode cX4_warmBy 59 = .ok (.isub, 1) := by decide +kernel
theorem dX4_warmBy_60 : decode cX4_warmBy 60 = .ok (.iconst 4, 1) := by decide +kernel
theorem dX4_warmBy_61 : decode cX4_warmBy 61 = .ok (.idiv, 1) := by decide +kernel
theorem dX4_warmBy_62 : decode cX4_warmBy 62 = .ok (.iadd, 1) := by decide +kernel
theorem dX4_warmBy_63 : decode cX4_warmBy 63 = .ok (.iastore, 1) := by decide +kernel
theorem dX4_warmBy_64 : decode cX4_warmBy 64 = .ok (.iconst 0, 1) := by decide +kernel
theorem dX4_warmBy_65 : decode cX4_warmBy 65 = .ok (.istore 4, 2) := by decide +kernel
theorem dX4_warmBy_67 : decode cX4_warmBy 67 = .ok (.iload 4, 2) := by decide +kernel
theorem dX4_warmBy_69 : decode cX4_warmBy 69 = .ok (.iload_n 3, 1) := by decide +kernel
theorem dX4_warmBy_70 : decode cX4_warmBy 70 = .ok (.if_icmp .ge 56, 3) := by decide +kernel
theorem dX4_warmBy_73 : decode cX4_warmBy 73 = .ok (.aload_n 0, 1) := by decide +kernel
theorem dX4_warmBy_74 : decode cX4_warmBy 74 = .ok (.getfield 9, 3) := by decide +kernel
theorem dX4_warmBy_77 : decode cX4_warmBy 77 = .ok (.iload 4, 2) := by decide +kernel
theorem dX4_warmBy_79 : decode cX4_warmBy 79 = .ok (.iconst 1, 1) := by decide +kernel
theorem dX4_warmBy_80 : decode cX4_warmBy 80 = .ok (.iadd, 1) := by decide +kernel
theorem dX4_warmBy_81 : decode cX4_warmBy 81 = .ok (.iaload, 1) := by decide +kernel
theorem dX4_warmBy_82 : decode cX4_warmBy 82 = .ok (.aload_n 0, 1) := by decide +kernel
theorem dX4_warmBy_83 : decode cX4_warmBy 83 = .ok (.getfield 9, 3) := by decide +kernel
theorem dX4_warmBy_86 : decode cX4_warmBy 86 = .ok (.iload 4, 2) := by decide +kernel
theorem dX4_warmBy_88 : decode cX4_warmBy 88 = .ok (.iaload, 1) := by decide +kernel
theorem dX4_warmBy_89 : decode cX4_warmBy 89 = .ok (.isub, 1) := by decide +kernel
theorem dX4_warmBy_90 : decode cX4_warmBy 90 = .ok (.iconst 4, 1) := by decide +kernel
theorem dX4_warmBy_91 : decode cX4_warmBy 91 = .ok (.idiv, 1) := by decide +kernel
theorem dX4_warmBy_92 : decode cX4_warmBy 92 = .ok (.istore 5, 2) := by decide +kernel
theorem dX4_warmBy_94 : decode cX4_warmBy 94 = .ok (.aload_n 0, 1) := by decide +kernel
theorem dX4_warmBy_95 : decode cX4_warmBy 95 = .ok (.getfield 9, 3) := by decide +kernel
theorem dX4_warmBy_98 : decode cX4_warmBy 98 = .ok (.iload 4, 2) := by decide +kernel
theorem dX4_warmBy_100 : decode cX4_warmBy 100 = .ok (.dup2, 1) := by decide +kernel
theorem dX4_warmBy_101 : decode cX4_warmBy 101 = .ok (.iaload, 1) := by decide +kernel
theorem dX4_warmBy_102 : decode cX4_warmBy 102 = .ok (.iload 5, 2) := by decide +kernel
theorem dX4_warmBy_104 : decode cX4_warmBy 104 = .ok (.iadd, 1) := by decide +kernel
theorem dX4_warmBy_105 : decode cX4_warmBy 105 = .ok (.iastore, 1) := by decide +kernel
theorem dX4_warmBy_106 : decode cX4_warmBy 106 = .ok (.aload_n 0, 1) := by decide +kernel
theorem dX4_warmBy_107 : decode cX4_warmBy 107 = .ok (.getfield 9, 3) := by decide +kernel
theorem dX4_warmBy_110 : decode cX4_warmBy 110 = .ok (.iload 4, 2) := by decide +kernel
theorem dX4_warmBy_112 : decode cX4_warmBy 112 = .ok (.iconst 1, 1) := by decide +kernel
theorem dX4_warmBy_113 : decode cX4_warmBy 113 = .ok (.iadd, 1) := by decide +kernel
theorem dX4_warmBy_114 : decode cX4_warmBy 114 = .ok (.dup2, 1) := by decide +kernel
theorem dX4_warmBy_115 : decode cX4_warmBy 115 = .ok (.iaload, 1) := by decide +kernel
theorem dX4_warmBy_116 : decode cX4_warmBy 116 = .ok (.iload 5, 2) := by decide +kernel
theorem dX4_warmBy_118 : decode cX4_warmBy 118 = .ok (.isub, 1) := by decide +kernel
theorem dX4_warmBy_119 : decode cX4_warmBy 119 = .ok (.iastore, 1) := by decide +kernel
theorem dX4_warmBy_120 : decode cX4_warmBy 120 = .ok (.iinc 4 1, 3) := by decide +kernel
theorem dX4_warmBy_123 : decode cX4_warmBy 123 = .ok (.goto (-56), 3) := by decide +kernel
theorem dX4_warmBy_126 : decode cX4_warmBy 126 = .ok (.return_, 1) := by decide +kernel
theorem dX4_meltOrFreeze_0 : decode cX4_meltOrFreeze 0 = .ok (.bipush (-80), 2) := by decide +kernel
theorem dX4_meltOrFreeze_2 : decode cX4_meltOrFreeze 2 = .ok (.bipush 10, 2) := by decide +kernel
theorem dX4_meltOrFreeze_4 : decode cX4_meltOrFreeze 4 = .ok (.aload_n 0, 1) := by decide +kernel
theorem dX4_meltOrFreeze_5 : decode cX4_meltOrFreeze 5 = .ok (.getfield 25, 3) := by decide +kernel
theorem dX4_meltOrFreeze_8 : decode cX4_meltOrFreeze 8 = .ok (.imul, 1) := by decide +kernel
theorem dX4_meltOrFreeze_9 : decode cX4_meltOrFreeze 9 = .ok (.aload_n 0, 1) := by decide +kernel
theorem dX4_meltOrFreeze_10 : decode cX4_meltOrFreeze 10 = .ok (.getfield 15, 3) := by decide +kernel
theorem dX4_meltOrFreeze_13 : decode cX4_meltOrFreeze 13 = .ok (.aload_n 0, 1) := by decide +kernel
theorem dX4_meltOrFreeze_14 : decode cX4_meltOrFreeze 14 = .ok (.getfield 19, 3) := by decide +kernel
theorem dX4_meltOrFreeze_17 : decode cX4_meltOrFreeze 17 = .ok (.iadd, 1) := by decide +kernel
theorem dX4_meltOrFreeze_18 : decode cX4_meltOrFreeze 18 = .ok (.aload_n 0, 1) := by decide +kernel
theorem dX4_meltOrFreeze_19 : decode cX4_meltOrFreeze 19 = .ok (.getfield 22, 3) := by decide +kernel
theorem dX4_meltOrFreeze_22 : decode cX4_meltOrFreeze 22 = .ok (.iadd, 1) := by decide +kernel
theorem dX4_meltOrFreeze_23 : decode cX4_meltOrFreeze 23 = .ok (.bipush 10, 2) := by decide +kernel
theorem dX4_meltOrFreeze_25 : decode cX4_meltOrFreeze 25 = .ok (.iadd, 1) := by decide +kernel
theorem dX4_meltOrFreeze_26 : decode cX4_meltOrFreeze 26 = .ok (.idiv, 1) := by decide +kernel
theorem dX4_meltOrFreeze_27 : decode cX4_meltOrFreeze 27 = .ok (.ineg, 1) := by decide +kernel
theorem dX4_meltOrFreeze_28 : decode cX4_meltOrFreeze 28 = .ok (.invokestatic 87, 3) := by decide +kernel
theorem dX4_meltOrFreeze_31 : decode cX4_meltOrFreeze 31 = .ok (.istore_n 1, 1) := by decide +kernel
theorem dX4_meltOrFreeze_32 : decode cX4_meltOrFreeze 32 = .ok (.aload_n 0, 1) := by decide +kernel
theorem dX4_meltOrFreeze_33 : decode cX4_meltOrFreeze 33 = .ok (.getfield 9, 3) := by decide +kernel
theorem dX4_meltOrFreeze_36 : decode cX4_meltOrFreeze 36 = .ok (.iconst 0, 1) := by decide +kernel
theorem dX4_meltOrFreeze_37 : decode cX4_meltOrFreeze 37 = .ok (.iaload, 1) := by decide +kernel
theorem dX4_meltOrFreeze_38 : decode cX4_meltOrFreeze 38 = .ok (.istore_n 2, 1) := by decide +kernel
theorem dX4_meltOrFreeze_39 : decode cX4_meltOrFreeze 39 = .ok (.iload_n 2, 1) := by decide +kernel
theorem dX4_meltOrFreeze_40 : decode cX4_meltOrFreeze 40 = .ok (.iload_n 1, 1) := by decide +kernel
theorem dX4_meltOrFreeze_41 : decode cX4_meltOrFreeze 41 = .ok (.if_icmp .le 80, 3) := by decide +kernel
theorem dX4_meltOrFreeze_44 : decode cX4_meltOrFreeze 44 = .ok (.aload_n 0, 1) := by decide +kernel
theorem dX4_meltOrFreeze_45 : decode cX4_meltOrFreeze 45 = .ok (.getfield 19, 3) := by decide +kernel
theorem dX4_meltOrFreeze_48 : decode cX4_meltOrFreeze 48 = .ok (.iload_n 2, 1) := by decide +kernel
theorem dX4_meltOrFreeze_49 : decode cX4_meltOrFreeze 49 = .ok (.iload_n 1, 1) := by decide +kernel
theorem dX4_meltOrFreeze_50 : decode cX4_meltOrFreeze 50 = .ok (.isub, 1) := by decide +kernel
theorem dX4_meltOrFreeze_51 : decode cX4_meltOrFreeze 51 = .ok (.iconst 2, 1) := by decide +kernel
theorem dX4_meltOrFreeze_52 : decode cX4_meltOrFreeze 52 = .ok (.idiv, 1) := by decide +kernel
theorem dX4_meltOrFreeze_53 : decode cX4_meltOrFreeze 53 = .ok (.invokestatic 75, 3) := by decide +kernel
theorem dX4_meltOrFreeze_56 : decode cX4_meltOrFreeze 56 = .ok (.istore_n 3, 1) := by decide +kernel
theorem dX4_meltOrFreeze_57 : decode cX4_meltOrFreeze 57 = .ok (.iload_n 2, 1) := by decide +kernel
theorem dX4_meltOrFreeze_58 : decode cX4_meltOrFreeze 58 = .ok (.iconst 2, 1) := by decide +kernel
theorem dX4_meltOrFreeze_59 : decode cX4_meltOrFreeze 59 = .ok (.iload_n 3, 1) := by decide +kernel
theorem dX4_meltOrFreeze_60 : decode cX4_meltOrFreeze 60 = .ok (.imul, 1) := by decide +kernel
theorem dX4_meltOrFreeze_61 : decode cX4_meltOrFreeze 61 = .ok (.isub, 1) := by decide +kernel
theorem dX4_meltOrFreeze_62 : decode cX4_meltOrFreeze 62 = .ok (.istore_n 2, 1) := by decide +kernel
theorem dX4_meltOrFreeze_63 : decode cX4_meltOrFreeze 63 = .ok (.aload_n 0, 1) := by decide +kernel
theorem dX4_meltOrFreeze_64 : decode cX4_meltOrFreeze 64 = .ok (.getfield 22, 3) := by decide +kernel
theorem dX4_meltOrFreeze_67 : decode cX4_meltOrFreeze 67 = .ok (.iload_n 2, 1) := by decide +kernel
theorem dX4_meltOrFreeze_68 : decode cX4_meltOrFreeze 68 = .ok (.iload_n 1, 1) := by decide +kernel
theorem dX4_meltOrFreeze_69 : decode cX4_meltOrFreeze 69 = .ok (.isub, 1) := by decide +kernel
theorem dX4_meltOrFreeze_70 : decode cX4_meltOrFreeze 70 = .ok (.iconst 2, 1) := by decide +kernel
theorem dX4_meltOrFreeze_71 : decode cX4_meltOrFreeze 71 = .ok (.idiv, 1) := by decide +kernel
theorem dX4_meltOrFreeze_72 : decode cX4_meltOrFreeze 72 = .ok (.invokestatic 75, 3) := by decide +kernel
theorem dX4_meltOrFreeze_75 : decode cX4_meltOrFreeze 75 = .ok (.istore 4, 2) := by decide +kernel
theorem dX4_meltOrFreeze_77 : decode cX4_meltOrFreeze 77 = .ok (.iload_n 2, 1) := by decide +kernel
theorem dX4_meltOrFreeze_78 : decode cX4_meltOrFreeze 78 = .ok (.iconst 2, 1) := by decide +kernel
theorem dX4_meltOrFreeze_79 : decode cX4_meltOrFreeze 79 = .ok (.iload 4, 2) := by decide +kernel
theorem dX4_meltOrFreeze_81 : decode cX4_meltOrFreeze 81 = .ok (.imul, 1) := by decide +kernel
theorem dX4_meltOrFreeze_82 : decode cX4_meltOrFreeze 82 = .ok (.isub, 1) := by decide +kernel
theorem dX4_meltOrFreeze_83 : decode cX4_meltOrFreeze 83 = .ok (.istore_n 2, 1) := by decide +kernel
theorem dX4_meltOrFreeze_84 : decode cX4_meltOrFreeze 84 = .ok (.aload_n 0, 1) := by decide +kernel
theorem dX4_meltOrFreeze_85 : decode cX4_meltOrFreeze 85 = .ok (.dup, 1) := by decide +kernel
theorem dX4_meltOrFreeze_86 : decode cX4_meltOrFreeze 86 = .ok (.getfield 19, 3) := by decide +kernel
theorem dX4_meltOrFreeze_89 : decode cX4_meltOrFreeze 89 = .ok (.iload_n 3, 1) := by decide +kernel
theorem dX4_meltOrFreeze_90 : decode cX4_meltOrFreeze 90 = .ok (.isub, 1) := by decide +kernel
theorem dX4_meltOrFreeze_91 : decode cX4_meltOrFreeze 91 = .ok (.putfield 19, 3) := by decide +kernel
theorem dX4_meltOrFreeze_94 : decode cX4_meltOrFreeze 94 = .ok (.aload_n 0, 1) := by decide +kernel
theorem dX4_meltOrFreeze_95 : decode cX4_meltOrFreeze 95 = .ok (.dup, 1) := by decide +kernel
theorem dX4_meltOrFreeze_96 : decode cX4_meltOrFreeze 96 = .ok (.getfield 22, 3) := by decide +kernel
theorem dX4_meltOrFreeze_99 : decode cX4_meltOrFreeze 99 = .ok (.iload 4, 2) := by decide +kernel
theorem dX4_meltOrFreeze_101 : decode cX4_meltOrFreeze 101 = .ok (.isub, 1) := by decide +kernel
theorem dX4_meltOrFreeze_102 : decode cX4_meltOrFreeze 102 = .ok (.putfield 22, 3) := by decide +kernel
theorem dX4_meltOrFreeze_105 : decode cX4_meltOrFreeze 105 = .ok (.aload_n 0, 1) := by decide +kernel
theorem dX4_meltOrFreeze_106 : decode cX4_meltOrFreeze 106 = .ok (.dup, 1) := by decide +kernel
theorem dX4_meltOrFreeze_107 : decode cX4_meltOrFreeze 107 = .ok (.getfield 15, 3) := by decide +kernel
theorem dX4_meltOrFreeze_110 : decode cX4_meltOrFreeze 110 = .ok (.iload_n 3, 1) := by decide +kernel
theorem dX4_meltOrFreeze_111 : decode cX4_meltOrFreeze 111 = .ok (.iload 4, 2) := by decide +kernel
theorem dX4_meltOrFreeze_113 : decode cX4_meltOrFreeze 113 = .ok (.iadd, 1) := by decide +kernel
theorem dX4_meltOrFreeze_114 : decode cX4_meltOrFreeze 114 = .ok (.iadd, 1) := by decide +kernel
theorem dX4_meltOrFreeze_115 : decode cX4_meltOrFreeze 115 = .ok (.putfield 15, 3) := by decide +kernel
theorem dX4_meltOrFreeze_118 : decode cX4_meltOrFreeze 118 = .ok (.goto 42, 3) := by decide +kernel
theorem dX4_meltOrFreeze_121 : decode cX4_meltOrFreeze 121 = .ok (.aload_n 0, 1) := by decide +kernel
theorem dX4_meltOrFreeze_122 : decode cX4_meltOrFreeze 122 = .ok (.getfield 15, 3) := by decide +kernel
theorem dX4_meltOrFreeze_125 : decode cX4_meltOrFreeze 125 = .ok (.iload_n 1, 1) := by decide +kernel
theorem dX4_meltOrFreeze_126 : decode cX4_meltOrFreeze 126 = .ok (.iload_n 2, 1) := by decide +kernel
theorem dX4_meltOrFreeze_127 : decode cX4_meltOrFreeze 127 = .ok (.isub, 1) := by decide +kernel
theorem dX4_meltOrFreeze_128 : decode cX4_meltOrFreeze 128 = .ok (.iconst 2, 1) := by decide +kernel
theorem dX4_meltOrFreeze_129 : decode cX4_meltOrFreeze 129 = .ok (.idiv, 1) := by decide +kernel
theorem dX4_meltOrFreeze_130 : decode cX4_meltOrFreeze 130 = .ok (.invokestatic 75, 3) := by decide +kernel
theorem dX4_meltOrFreeze_133 : decode cX4_meltOrFreeze 133 = .ok (.istore_n 3, 1) := by decide +kernel
theorem dX4_meltOrFreeze_134 : decode cX4_meltOrFreeze 134 = .ok (.iload_n 2, 1) := by decide +kernel
theorem dX4_meltOrFreeze_135 : decode cX4_meltOrFreeze 135 = .ok (.iconst 2, 1) := by decide +kernel
theorem dX4_meltOrFreeze_136 : decode cX4_meltOrFreeze 136 = .ok (.iload_n 3, 1) := by decide +kernel
theorem dX4_meltOrFreeze_137 : decode cX4_meltOrFreeze 137 = .ok (.imul, 1) := by decide +kernel
theorem dX4_meltOrFreeze_138 : decode cX4_meltOrFreeze 138 = .ok (.iadd, 1) := by decide +kernel
theorem dX4_meltOrFreeze_139 : decode cX4_meltOrFreeze 139 = .ok (.istore_n 2, 1) := by decide +kernel
theorem dX4_meltOrFreeze_140 : decode cX4_meltOrFreeze 140 = .ok (.aload_n 0, 1) := by decide +kernel
theorem dX4_meltOrFreeze_141 : decode cX4_meltOrFreeze 141 = .ok (.dup, 1) := by decide +kernel
theorem dX4_meltOrFreeze_142 : decode cX4_meltOrFreeze 142 = .ok (.getfield 15, 3) := by decide +kernel
theorem dX4_meltOrFreeze_145 : decode cX4_meltOrFreeze 145 = .ok (.iload_n 3, 1) := by decide +kernel
theorem dX4_meltOrFreeze_146 : decode cX4_meltOrFreeze 146 = .ok (.isub, 1) := by decide +kernel
theorem dX4_meltOrFreeze_147 : decode cX4_meltOrFreeze 147 = .ok (.putfield 15, 3) := by decide +kernel
theorem dX4_meltOrFreeze_150 : decode cX4_meltOrFreeze 150 = .ok (.aload_n 0, 1) := by decide +kernel
theorem dX4_meltOrFreeze_151 : decode cX4_meltOrFreeze 151 = .ok (.dup, 1) := by decide +kernel
theorem dX4_meltOrFreeze_152 : decode cX4_meltOrFreeze 152 = .ok (.getfield 22, 3) := by decide +kernel
theorem dX4_meltOrFreeze_155 : decode cX4_meltOrFreeze 155 = .ok (.iload_n 3, 1) := by decide +kernel
theorem dX4_meltOrFreeze_156 : decode cX4_meltOrFreeze 156 = .ok (.iadd, 1) := by decide +kernel
theorem dX4_meltOrFreeze_157 : decode cX4_meltOrFreeze 157 = .ok (.putfield 22, 3) := by decide +kernel
theorem dX4_meltOrFreeze_160 : decode cX4_meltOrFreeze 160 = .ok (.aload_n 0, 1) := by decide +kernel
theorem dX4_meltOrFreeze_161 : decode cX4_meltOrFreeze 161 = .ok (.getfield 9, 3) := by decide +kernel
theorem dX4_meltOrFreeze_164 : decode cX4_meltOrFreeze 164 = .ok (.iconst 0, 1) := by decide +kernel
theorem dX4_meltOrFreeze_165 : decode cX4_meltOrFreeze 165 = .ok (.iload_n 2, 1) := by decide +kernel
theorem dX4_meltOrFreeze_166 : decode cX4_meltOrFreeze 166 = .ok (.iastore, 1) := by decide +kernel
theorem dX4_meltOrFreeze_167 : decode cX4_meltOrFreeze 167 = .ok (.return_, 1) := by decide +kernel
theorem dX4_runOff_0 : decode cX4_runOff 0 = .ok (.aload_n 0, 1) := by decide +kernel
theorem dX4_runOff_1 : decode cX4_runOff 1 = .ok (.getfield 15, 3) := by decide +kernel
theorem dX4_runOff_4 : decode cX4_runOff 4 = .ok (.iload_n 1, 1) := by decide +kernel
theorem dX4_runOff_5 : decode cX4_runOff 5 = .ok (.isub, 1) := by decide +kernel
theorem dX4_runOff_6 : decode cX4_runOff 6 = .ok (.istore_n 2, 1) := by decide +kernel
theorem dX4_runOff_7 : decode cX4_runOff 7 = .ok (.iload_n 2, 1) := by decide +kernel
theorem dX4_runOff_8 : decode cX4_runOff 8 = .ok (.ifCond .le 28, 3) := by decide +kernel
theorem dX4_runOff_11 : decode cX4_runOff 11 = .ok (.aload_n 0, 1) := by decide +kernel
theorem dX4_runOff_12 : decode cX4_runOff 12 = .ok (.dup, 1) := by decide +kernel
theorem dX4_runOff_13 : decode cX4_runOff 13 = .ok (.getfield 25, 3) := by decide +kernel
theorem dX4_runOff_16 : decode cX4_runOff 16 = .ok (.aload_n 0, 1) := by decide +kernel
theorem dX4_runOff_17 : decode cX4_runOff 17 = .ok (.getfield 25, 3) := by decide +kernel
theorem dX4_runOff_20 : decode cX4_runOff 20 = .ok (.iload_n 2, 1) := by decide +kernel
theorem dX4_runOff_21 : decode cX4_runOff 21 = .ok (.imul, 1) := by decide +kernel
theorem dX4_runOff_22 : decode cX4_runOff 22 = .ok (.aload_n 0, 1) := by decide +kernel
theorem dX4_runOff_23 : decode cX4_runOff 23 = .ok (.getfield 15, 3) := by decide +kernel
theorem dX4_runOff_26 : decode cX4_runOff 26 = .ok (.idiv, 1) := by decide +kernel
theorem dX4_runOff_27 : decode cX4_runOff 27 = .ok (.isub, 1) := by decide +kernel
theorem dX4_runOff_28 : decode cX4_runOff 28 = .ok (.putfield 25, 3) := by decide +kernel
theorem dX4_runOff_31 : decode cX4_runOff 31 = .ok (.aload_n 0, 1) := by decide +kernel
theorem dX4_runOff_32 : decode cX4_runOff 32 = .ok (.iload_n 1, 1) := by decide +kernel
theorem dX4_runOff_33 : decode cX4_runOff 33 = .ok (.putfield 15, 3) := by decide +kernel
theorem dX4_runOff_36 : decode cX4_runOff 36 = .ok (.return_, 1) := by decide +kernel
