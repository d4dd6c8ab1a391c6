theorem dX5_init_0 : decode cX5_init 0 = .ok (.aload_n 0, 1) := by decide +kernel
theorem dX5_init_1 : decode cX5_init 1 = .ok (.invokespecial 3, 3) := by decide +kernel
theorem dX5_init_4 : decode cX5_init 4 = .ok (.aload_n 0, 1) := by decide +kernel
theorem dX5_init_5 : decode cX5_init 5 = .ok (.bipush 8, 2) := by decide +kernel
theorem dX5_init_7 : decode cX5_init 7 = .ok (.anewarray 9, 3) := by decide +kernel
theorem dX5_init_10 : decode cX5_init 10 = .ok (.putfield 11, 3) := by decide +kernel
theorem dX5_init_13 : decode cX5_init 13 = .ok (.aload_n 0, 1) := by decide +kernel
theorem dX5_init_14 : decode cX5_init 14 = .ok (.bipush 16, 2) := by decide +kernel
theorem dX5_init_16 : decode cX5_init 16 = .ok (.newarray .int, 2) := by decide +kernel
theorem dX5_init_18 : decode cX5_init 18 = .ok (.putfield 17, 3) := by decide +kernel
theorem dX5_init_21 : decode cX5_init 21 = .ok (.aload_n 0, 1) := by decide +kernel
theorem dX5_init_22 : decode cX5_init 22 = .ok (.bipush 16, 2) := by decide +kernel
theorem dX5_init_24 : decode cX5_init 24 = .ok (.newarray .int, 2) := by decide +kernel
theorem dX5_init_26 : decode cX5_init 26 = .ok (.putfield 21, 3) := by decide +kernel
theorem dX5_init_29 : decode cX5_init 29 = .ok (.aload_n 0, 1) := by decide +kernel
theorem dX5_init_30 : decode cX5_init 30 = .ok (.bipush 16, 2) := by decide +kernel
theorem dX5_init_32 : decode cX5_init 32 = .ok (.newarray .int, 2) := by decide +kernel
theorem dX5_init_34 : decode cX5_init 34 = .ok (.putfield 24, 3) := by decide +kernel
theorem dX5_init_37 : decode cX5_init 37 = .ok (.aload_n 0, 1) := by decide +kernel
theorem dX5_init_38 : decode cX5_init 38 = .ok (.bipush 12, 2) := by decide +kernel
theorem dX5_init_40 : decode cX5_init 40 = .ok (.newarray .int, 2) := by decide +kernel
theorem dX5_init_42 : decode cX5_init 42 = .ok (.putfield 27, 3) := by decide +kernel
theorem dX5_init_45 : decode cX5_init 45 = .ok (.aload_n 0, 1) := by decide +kernel
theorem dX5_init_46 : decode cX5_init 46 = .ok (.bipush 12, 2) := by decide +kernel
theorem dX5_init_48 : decode cX5_init 48 = .ok (.newarray .int, 2) := by decide +kernel
theorem dX5_init_50 : decode cX5_init 50 = .ok (.putfield 30, 3) := by decide +kernel
theorem dX5_init_53 : decode cX5_init 53 = .ok (.aload_n 0, 1) := by decide +kernel
theorem dX5_init_54 : decode cX5_init 54 = .ok (.bipush 12, 2) := by decide +kernel
theorem dX5_init_56 : decode cX5_init 56 = .ok (.newarray .int, 2) := by decide +kernel
theorem dX5_init_58 : decode cX5_init 58 = .ok (.putfield 33, 3) := by decide +kernel
theorem dX5_init_61 : decode cX5_init 61 = .ok (.aload_n 0, 1) := by decide +kernel
theorem dX5_init_62 : decode cX5_init 62 = .ok (.bipush 7, 2) := by decide +kernel
theorem dX5_init_64 : decode cX5_init 64 = .ok (.newarray .int, 2) := by decide +kernel
theorem dX5_init_66 : decode cX5_init 66 = .ok (.putfield 36, 3) := by decide +kernel
theorem dX5_init_69 : decode cX5_init 69 = .ok (.aload_n 0, 1) := by decide +kernel
theorem dX5_init_70 : decode cX5_init 70 = .ok (.bipush 7, 2) := by decide +kernel
theorem dX5_init_72 : decode cX5_init 72 = .ok (.newarray .int, 2) := by decide +kernel
theorem dX5_init_74 : decode cX5_init 74 = .ok (.putfield 39, 3) := by decide +kernel
theorem dX5_init_77 : decode cX5_init 77 = .ok (.iconst 0, 1) := by decide +kernel
theorem dX5_init_78 : decode cX5_init 78 = .ok (.istore_n 1, 1) := by decide +kernel
theorem dX5_init_79 : decode cX5_init 79 = .ok (.iload_n 1, 1) := by decide +kernel
theorem dX5_init_80 : decode cX5_init 80 = .ok (.bipush 8, 2) := by decide +kernel
theorem dX5_init_82 : decode cX5_init 82 = .ok (.if_icmp .ge 22, 3) := by decide +kernel
theorem dX5_init_85 : decode cX5_init 85 = .ok (.aload_n 0, 1) := by decide +kernel
theorem dX5_init_86 : decode cX5_init 86 = .ok (.getfield 11, 3) := by decide +kernel
theorem dX5_init_89 : decode cX5_init 89 = .ok (.iload_n 1, 1) := by decide +kernel
theorem dX5_init_90 : decode cX5_init 90 = .ok (.new 9, 3) := by decide +kernel
theorem dX5_init_93 : decode cX5_init 93 = .ok (.dup, 1) := by decide +kernel
theorem dX5_init_94 : decode cX5_init 94 = .ok (.invokespecial 42, 3) := by decide +kernel
theorem dX5_init_97 : decode cX5_init 97 = .ok (.aastore, 1) := by decide +kernel
theorem dX5_init_98 : decode cX5_init 98 = .ok (.iinc 1 1, 3) := by decide +kernel
theorem dX5_init_101 : decode cX5_init 101 = .ok (.goto (-22), 3) := by decide +kernel
theorem dX5_init_104 : decode cX5_init 104 = .ok (.aload_n 0, 1) := by decide +kernel
theorem dX5_init_105 : decode cX5_init 105 = .ok (.invokevirtual 43, 3) := by decide +kernel
theorem dX5_init_108 : decode cX5_init 108 = .ok (.return_, 1) := by decide +kernel
theorem dX5_clear_0 : decode cX5_clear 0 = .ok (.aload_n 0, 1) := by decide +kernel
theorem dX5_clear_1 : decode cX5_clear 1 = .ok (.iconst 0, 1) := by decide +kernel
theorem dX5_clear_2 : decode cX5_clear 2 = .ok (.putfield 46, 3) := by decide +kernel
theorem dX5_clear_5 : decode cX5_clear 5 = .ok (.aload_n 0, 1) := by decide +kernel
theorem dX5_clear_6 : decode cX5_clear 6 = .ok (.iconst 0, 1) := by decide +kernel
theorem dX5_clear_7 : decode cX5_clear 7 = .ok (.putfield 50, 3) := by decide +kernel
theorem dX5_clear_10 : decode cX5_clear 10 = .ok (.aload_n 0, 1) := by decide +kernel
theorem dX5_clear_11 : decode cX5_clear 11 = .ok (.iconst 0, 1) := by decide +kernel
theorem dX5_clear_12 : decode cX5_clear 12 = .ok (.putfield 53, 3) := by decide +kernel
theorem dX5_clear_15 : decode cX5_clear 15 = .ok (.aload_n 0, 1) := by decide +kernel
theorem dX5_clear_16 : decode cX5_clear 16 = .ok (.iconst 0, 1) := by decide +kernel
theorem dX5_clear_17 : decode cX5_clear 17 = .ok (.putfield 56, 3) := by decide +kernel
theorem dX5_clear_20 : decode cX5_clear 20 = .ok (.aload_n 0, 1) := by decide +kernel
theorem dX5_clear_21 : decode cX5_clear 21 = .ok (.iconst 0, 1) := by decide +kernel
theorem dX5_clear_22 : decode cX5_clear 22 = .ok (.putfield 59, 3) := by decide +kernel
theorem dX5_clear_25 : decode cX5_clear 25 = .ok (.aload_n 0, 1) := by decide +kernel
theorem dX5_clear_26 : decode cX5_clear 26 = .ok (.iconst 0, 1) := by decide +kernel
theorem dX5_clear_27 : decode cX5_clear 27 = .ok (.putfield 62, 3) := by decide +kernel
theorem dX5_clear_30 : decode cX5_clear 30 = .ok (.aload_n 0, 1) := by decide +kernel
theorem dX5_clear_31 : decode cX5_clear 31 = .ok (.iconst (-1), 1) := by decide +kernel
theorem dX5_clear_32 : decode cX5_clear 32 = .ok (.putfield 65, 3) := by decide +kernel
theorem dX5_clear_35 : decode cX5_clear 35 = .ok (.aload_n 0, 1) := by decide +kernel
theorem dX5_clear_36 : decode cX5_clear 36 = .ok (.sipush 999, 3) := by decide +kernel
theorem dX5_clear_39 : decode cX5_clear 39 = .ok (.putfield 68, 3) := by decide +kernel
theorem dX5_clear_42 : decode cX5_clear 42 = .ok (.aload_n 0, 1) := by decide +kernel
theorem dX5_clear_43 : decode cX5_clear 43 = .ok (.iconst 0, 1) := by decide +kernel
theorem dX5_clear_44 : decode cX5_clear 44 = .ok (.putfield 71, 3) := by decide +kernel
theorem dX5_clear_47 : decode cX5_clear 47 = .ok (.aload_n 0, 1) := by decide +kernel
theorem dX5_clear_48 : decode cX5_clear 48 = .ok (.getfield 27, 3) := by decide +kernel
theorem dX5_clear_51 : decode cX5_clear 51 = .ok (.iconst 0, 1) := by decide +kernel
theorem dX5_clear_52 : decode cX5_clear 52 = .ok (.iconst 0, 1) := by decide +kernel
theorem dX5_clear_53 : decode cX5_clear 53 = .ok (.iastore, 1) := by decide +kernel
theorem dX5_clear_54 : decode cX5_clear 54 = .ok (.aload_n 0, 1) := by decide +kernel
theorem dX5_clear_55 : decode cX5_clear 55 = .ok (.getfield 30, 3) := by decide +kernel
theorem dX5_clear_58 : decode cX5_clear 58 = .ok (.iconst 0, 1) := by decide +kernel
theorem dX5_clear_59 : decode cX5_clear 59 = .ok (.iconst 0, 1) := by decide +kernel
theorem dX5_clear_60 : decode cX5_clear 60 = .ok (.iastore, 1) := by decide +kernel
theorem dX5_clear_61 : decode cX5_clear 61 = .ok (.aload_n 0, 1) := by decide +kernel
theorem dX5_clear_62 : decode cX5_clear 62 = .ok (.getfield 33, 3) := by decide +kernel
theorem dX5_clear_65 : decode cX5_clear 65 = .ok (.iconst 0, 1) := by decide +kernel
theorem dX5_clear_66 : decode cX5_clear 66 = .ok (.iconst 0, 1) := by decide +kernel
theorem dX5_clear_67 : decode cX5_clear 67 = .ok (.iastore, 1) := by decide +kernel
theorem dX5_clear_68 : decode cX5_clear 68 = .ok (.return_, 1) := by decide +kernel
theorem dX5_yardNamed_0 : decode cX5_yardNamed 0 = .ok (.iconst 0, 1) := by decide +kernel
theorem dX5_yardNamed_1 : decode cX5_yardNamed 1 = .ok (.istore_n 3, 1) := by decide +kernel
theorem dX5_yardNamed_2 : decode cX5_yardNamed 2 = .ok (.iload_n 3, 1) := by decide +kernel
theorem dX5_yardNamed_3 : decode cX5_yardNamed 3 = .ok (.aload_n 0, 1) := by decide +kernel
theorem dX5_yardNamed_4 : decode cX5_yardNamed 4 = .ok (.getfield 46, 3) := by decide +kernel
theorem dX5_yardNamed_7 : decode cX5_yardNamed 7 = .ok (.if_icmp .ge 25, 3) := by decide +kernel
theorem dX5_yardNamed_10 : decode cX5_yardNamed 10 = .ok (.aload_n 0, 1) := by decide +kernel
theorem dX5_yardNamed_11 : decode cX5_yardNamed 11 = .ok (.getfield 11, 3) := by decide +kernel
theorem dX5_yardNamed_14 : decode cX5_yardNamed 14 = .ok (.iload_n 3, 1) := by decide +kernel
theorem dX5_yardNamed_15 : decode cX5_yardNamed 15 = .ok (.aaload, 1) := by decide +kernel
theorem dX5_yardNamed_16 : decode cX5_yardNamed 16 = .ok (.getfield 74, 3) := by decide +kernel
theorem dX5_yardNamed_19 : decode cX5_yardNamed 19 = .ok (.lload_n 1, 1) := by decide +kernel
theorem dX5_yardNamed_20 : decode cX5_yardNamed 20 = .ok (.lcmp, 1) := by decide +kernel
theorem dX5_yardNamed_21 : decode cX5_yardNamed 21 = .ok (.ifCond .ne 5, 3) := by decide +kernel
theorem dX5_yardNamed_24 : decode cX5_yardNamed 24 = .ok (.iload_n 3, 1) := by decide +kernel
theorem dX5_yardNamed_25 : decode cX5_yardNamed 25 = .ok (.ireturn, 1) := by decide +kernel
theorem dX5_yardNamed_26 : decode cX5_yardNamed 26 = .ok (.iinc 3 1, 3) := by decide +kernel
theorem dX5_yardNamed_29 : decode cX5_yardNamed 29 = .ok (.goto (-27), 3) := by decide +kernel
theorem dX5_yardNamed_32 : decode cX5_yardNamed 32 = .ok (.iconst (-1), 1) := by decide +kernel
theorem dX5_yardNamed_33 : decode cX5_yardNamed 33 = .ok (.ireturn, 1) := by decide +kernel
theorem dX5_hasWay_0 : decode cX5_hasWay 0 = .ok (.iconst 0, 1) := by decide +kernel
theorem dX5_hasWay_1 : decode cX5_hasWay 1 = .ok (.istore_n 3, 1) := by decide +kernel
theorem dX5_hasWay_2 : decode cX5_hasWay 2 = .ok (.iload_n 3, 1) := by decide +kernel
theorem dX5_hasWay_3 : decode cX5_hasWay 3 = .ok (.aload_n 0, 1) := by decide +kernel
theorem dX5_hasWay_4 : decode cX5_hasWay 4 = .ok (.getfield 50, 3) := by decide +kernel
theorem dX5_hasWay_7 : decode cX5_hasWay 7 = .ok (.if_icmp .ge 51, 3) := by decide +kernel
theorem dX5_hasWay_10 : decode cX5_hasWay 10 = .ok (.aload_n 0, 1) := by decide +kernel
theorem dX5_hasWay_11 : decode cX5_hasWay 11 = .ok (.getfield 17, 3) := by decide +kernel
theorem dX5_hasWay_14 : decode cX5_hasWay 14 = .ok (.iload_n 3, 1) := by decide +kernel
theorem dX5_hasWay_15 : decode cX5_hasWay 15 = .ok (.iaload, 1) := by decide +kernel
theorem dX5_hasWay_16 : decode cX5_hasWay 16 = .ok (.iload_n 1, 1) := by decide +kernel
theorem dX5_hasWay_17 : decode cX5_hasWay 17 = .ok (.if_icmp .ne 13, 3) := by decide +kernel
theorem dX5_hasWay_20 : decode cX5_hasWay 20 = .ok (.aload_n 0, 1) := by decide +kernel
theorem dX5_hasWay_21 : decode cX5_hasWay 21 = .ok (.getfield 21, 3) := by decide +kernel
theorem dX5_hasWay_24 : decode cX5_hasWay 24 = .ok (.iload_n 3, 1) := by decide +kernel
theorem dX5_hasWay_25 : decode cX5_hasWay 25 = .ok (.iaload, 1) := by decide +kernel
theorem dX5_hasWay_26 : decode cX5_hasWay 26 = .ok (.iload_n 2, 1) := by decide +kernel
theorem dX5_hasWay_27 : decode cX5_hasWay 27 = .ok (.if_icmp .eq 23, 3) := by decide +kernel
theorem dX5_hasWay_30 : decode cX5_hasWay 30 = .ok (.aload_n 0, 1) := by decide +kernel
theorem dX5_hasWay_31 : decode cX5_hasWay 31 = .ok (.getfield 17, 3) := by decide +kernel
theorem dX5_hasWay_34 : decode cX5_hasWay 34 = .ok (.iload_n 3, 1) := by decide +kernel
theorem dX5_hasWay_35 : decode cX5_hasWay 35 = .ok (.iaload, 1) := by decide +kernel
theorem dX5_hasWay_36 : decode cX5_hasWay 36 = .ok (.iload_n 2, 1) := by decide +kernel
theorem dX5_hasWay_37 : decode cX5_hasWay 37 = .ok (.if_icmp .ne 15, 3) := by decide +kernel
theorem dX5_hasWay_40 : decode cX5_hasWay 40 = .ok (.aload_n 0, 1) := by decide +kernel
theorem dX5_hasWay_41 : decode cX5_hasWay 41 = .ok (.getfield 21, 3) := by decide +kernel
theorem dX5_hasWay_44 : decode cX5_hasWay 44 = .ok (.iload_n 3, 1) := by decide +kernel
theorem dX5_hasWay_45 : decode cX5_hasWay 45 = .ok (.iaload, 1) := by decide +kernel
theorem dX5_hasWay_46 : decode cX5_hasWay 46 = .ok (.iload_n 1, 1) := by decide +kernel
theorem dX5_hasWay_47 : decode cX5_hasWay 47 = .ok (.if_icmp .ne 5, 3) := by decide +kernel
theorem dX5_hasWay_50 : decode cX5_hasWay 50 = .ok (.iconst 1, 1) := by decide +kernel
theorem dX5_hasWay_51 : decode cX5_hasWay 51 = .ok (.ireturn, 1) := by decide +kernel
theorem dX5_hasWay_52 : decode cX5_hasWay 52 = .ok (.iinc 3 1, 3) := by decide +kernel
theorem dX5_hasWay_55 : decode cX5_hasWay 55 = .ok (.goto (-53), 3) := by decide +kernel
theorem dX5_hasWay_58 : decode cX5_hasWay 58 = .ok (.iconst 0, 1) := by decide +kernel
theorem dX5_hasWay_59 : decode cX5_hasWay 59 = .ok (.ireturn, 1) := by decide +kernel
theorem dX5_hasSlip_0 : decode cX5_hasSlip 0 = .ok (.iconst 0, 1) := by decide +kernel
theorem dX5_hasSlip_1 : decode cX5_hasSlip 1 = .ok (.istore_n 2, 1) := by decide +kernel
theorem dX5_hasSlip_2 : decode cX5_hasSlip 2 = .ok (.iload_n 2, 1) := by decide +kernel
theorem dX5_hasSlip_3 : decode cX5_hasSlip 3 = .ok (.aload_n 0, 1) := by decide +kernel
theorem dX5_hasSlip_4 : decode cX5_hasSlip 4 = .ok (.getfield 56, 3) := by decide +kernel
theorem dX5_hasSlip_7 : decode cX5_hasSlip 7 = .ok (.if_icmp .ge 21, 3) := by decide +kernel
theorem dX5_hasSlip_10 : decode cX5_hasSlip 10 = .ok (.aload_n 0, 1) := by decide +kernel
theorem dX5_hasSlip_11 : decode cX5_hasSlip 11 = .ok (.getfield 36, 3) := by decide +kernel
theorem dX5_hasSlip_14 : decode cX5_hasSlip 14 = .ok (.iload_n 2, 1) := by decide +kernel
theorem dX5_hasSlip_15 : decode cX5_hasSlip 15 = .ok (.iaload, 1) := by decide +kernel
theorem dX5_hasSlip_16 : decode cX5_hasSlip 16 = .ok (.iload_n 1, 1) := by decide +kernel
theorem dX5_hasSlip_17 : decode cX5_hasSlip 17 = .ok (.if_icmp .ne 5, 3) := by decide +kernel
theorem dX5_hasSlip_20 : decode cX5_hasSlip 20 = .ok (.iconst 1, 1) := by decide +kernel
theorem dX5_hasSlip_21 : decode cX5_hasSlip 21 = .ok (.ireturn, 1) := by decide +kernel
theorem dX5_hasSlip_22 : decode cX5_hasSlip 22 = .ok (.iinc 2 1, 3) := by decide +kernel
theorem dX5_hasSlip_25 : decode cX5_hasSlip 25 = .ok (.goto (-23), 3) := by decide +kernel
theorem dX5_hasSlip_28 : decode cX5_hasSlip 28 = .ok (.iconst 0, 1) := by decide +kernel
theorem dX5_hasSlip_29 : decode cX5_hasSlip 29 = .ok (.ireturn, 1) := by decide +kernel
theorem dX5_hourOf_0 : decode cX5_hourOf 0 = .ok (.iconst 0, 1) := by decide +kernel
theorem dX5_hourOf_1 : decode cX5_hourOf 1 = .ok (.iload_n 1, 1) := by decide +kernel
theorem dX5_hourOf_2 : decode cX5_hourOf 2 = .ok (.bipush 6, 2) := by decide +kernel
theorem dX5_hourOf_4 : decode cX5_hourOf 4 = .ok (.idiv, 1) := by decide +kernel
theorem dX5_hourOf_5 : decode cX5_hourOf 5 = .ok (.aload_n 0, 1) := by decide +kernel
theorem dX5_hourOf_6 : decode cX5_hourOf 6 = .ok (.getfield 53, 3) := by decide +kernel
theorem dX5_hourOf_9 : decode cX5_hourOf 9 = .ok (.iconst 1, 1) := by decide +kernel
theorem dX5_hourOf_10 : decode cX5_hourOf 10 = .ok (.isub, 1) := by decide +kernel
theorem dX5_hourOf_11 : decode cX5_hourOf 11 = .ok (.invokestatic 78, 3) := by decide +kernel
theorem dX5_hourOf_14 : decode cX5_hourOf 14 = .ok (.invokestatic 84, 3) := by decide +kernel
theorem dX5_hourOf_17 : decode cX5_hourOf 17 = .ok (.ireturn, 1) := by decide +kernel
theorem dX5_snowlessFrom_0 : decode cX5_snowlessFrom 0 = .ok (.aload_n 0, 1) := by decide +kernel
theorem dX5_snowlessFrom_1 : decode cX5_snowlessFrom 1 = .ok (.getfield 53, 3) := by decide +kernel
theorem dX5_snowlessFrom_4 : decode cX5_snowlessFrom 4 = .ok (.iconst 1, 1) := by decide +kernel
theorem dX5_snowlessFrom_5 : decode cX5_snowlessFrom 5 = .ok (.isub, 1) := by decide +kernel
theorem dX5_snowlessFrom_6 : decode cX5_snowlessFrom 6 = .ok (.istore_n 1, 1) := by decide +kernel
theorem dX5_snowlessFrom_7 : decode cX5_snowlessFrom 7 = .ok (.iload_n 1, 1) := by decide +kernel
theorem dX5_snowlessFrom_8 : decode cX5_snowlessFrom 8 = .ok (.ifCond .lt 56, 3) := by decide +kernel
theorem dX5_snowlessFrom_11 : decode cX5_snowlessFrom 11 = .ok (.aload_n 0, 1) := by decide +kernel
theorem dX5_snowlessFrom_12 : decode cX5_snowlessFrom 12 = .ok (.getfield 27, 3) := by decide +kernel
theorem dX5_snowlessFrom_15 : decode cX5_snowlessFrom 15 = .ok (.iload_n 1, 1) := by decide +kernel
theorem dX5_snowlessFrom_16 : decode cX5_snowlessFrom 16 = .ok (.iaload, 1) := by decide +kernel
theorem dX5_snowlessFrom_17 : decode cX5_snowlessFrom 17 = .ok (.aload_n 0, 1) := by decide +kernel
theorem dX5_snowlessFrom_18 : decode cX5_snowlessFrom 18 = .ok (.getfield 27, 3) := by decide +kernel
theorem dX5_snowlessFrom_21 : decode cX5_snowlessFrom 21 = .ok (.iload_n 1, 1) := by decide +kernel
theorem dX5_snowlessFrom_22 : decode cX5_snowlessFrom 22 = .ok (.iaload, 1) := by decide +kernel
theorem dX5_snowlessFrom_23 : decode cX5_snowlessFrom 23 = .ok (.aload_n 0, 1) := by decide +kernel
theorem dX5_snowlessFrom_24 : decode cX5_snowlessFrom 24 = .ok (.getfield 33, 3) := by decide +kernel
theorem dX5_snowlessFrom_27 : decode cX5_snowlessFrom 27 = .ok (.iload_n 1, 1) := by decide +kernel
theorem dX5_snowlessFrom_28 : decode cX5_snowlessFrom 28 = .ok (.iaload, 1) := by decide +kernel
theorem dX5_snowlessFrom_29 : decode cX5_snowlessFrom 29 = .ok (.imul, 1) := by decide +kernel
theorem dX5_snowlessFrom_30 : decode cX5_snowlessFrom 30 = .ok (.bipush 10, 2) := by decide +kernel
theorem dX5_snowlessFrom_32 : decode cX5_snowlessFrom 32 = .ok (.idiv, 1) := by decide +kernel
theorem dX5_snowlessFrom_33 : decode cX5_snowlessFrom 33 = .ok (.if_icmp .le 25, 3) := by decide +kernel
theorem dX5_snowlessFrom_36 : decode cX5_snowlessFrom 36 = .ok (.iload_n 1, 1) := by decide +kernel
theorem dX5_snowlessFrom_37 : decode cX5_snowlessFrom 37 = .ok (.aload_n 0, 1) := by decide +kernel
theorem dX5_snowlessFrom_38 : decode cX5_snowlessFrom 38 = .ok (.getfield 53, 3) := by decide +kernel
theorem dX5_snowlessFrom_41 : decode cX5_snowlessFrom 41 = .ok (.iconst 1, 1) := by decide +kernel
theorem dX5_snowlessFrom_42 : decode cX5_snowlessFrom 42 = .ok (.isub, 1) := by decide +kernel
theorem dX5_snowlessFrom_43 : decode cX5_snowlessFrom 43 = .ok (.if_icmp .ne 8, 3) := by decide +kernel
theorem dX5_snowlessFrom_46 : decode cX5_snowlessFrom 46 = .ok (.ldc 87, 2) := by decide +kernel
theorem dX5_snowlessFrom_48 : decode cX5_snowlessFrom 48 = .ok (.goto 9, 3) := by decide +kernel
theorem dX5_snowlessFrom_51 : decode cX5_snowlessFrom 51 = .ok (.iload_n 1, 1) := by decide +kernel
theorem dX5_snowlessFrom_52 : decode cX5_snowlessFrom 52 = .ok (.iconst 1, 1) := by decide +kernel
theorem dX5_snowlessFrom_53 : decode cX5_snowlessFrom 53 = .ok (.iadd, 1) := by decide +kernel
theorem dX5_snowlessFrom_54 : decode cX5_snowlessFrom 54 = .ok (.bipush 6, 2) := by decide +kernel
theorem dX5_snowlessFrom_56 : decode cX5_snowlessFrom 56 = .ok (.imul, 1) := by decide +kernel
theorem dX5_snowlessFrom_57 : decode cX5_snowlessFrom 57 = .ok (.ireturn, 1) := by decide +kernel
theorem dX5_snowlessFrom_58 : decode cX5_snowlessFrom 58 = .ok (.iinc 1 (-1), 3) := by decide +kernel
theorem dX5_snowlessFrom_61 : decode cX5_snowlessFrom 61 = .ok (.goto (-54), 3) := by decide +kernel
theorem dX5_snowlessFrom_64 : decode cX5_snowlessFrom 64 = .ok (.iconst 0, 1) := by decide +kernel
theorem dX5_snowlessFrom_65 : decode cX5_snowlessFrom 65 = .ok (.ireturn, 1) := by decide +kernel
theorem dX5_weightOf_0 : decode cX5_weightOf 0 = .ok (.iconst 0, 1) := by decide +kernel
theorem dX5_weightOf_1 : decode cX5_weightOf 1 = .ok (.istore_n 2, 1) := by decide +kernel
theorem dX5_weightOf_2 : decode cX5_weightOf 2 = .ok (.iconst 0, 1) := by decide +kernel
theorem dX5_weightOf_3 : decode cX5_weightOf 3 = .ok (.istore_n 3, 1) := by decide +kernel
theorem dX5_weightOf_4 : decode cX5_weightOf 4 = .ok (.iload_n 3, 1) := by decide +kernel
theorem dX5_weightOf_5 : decode cX5_weightOf 5 = .ok (.aload_n 0, 1) := by decide +kernel
theorem dX5_weightOf_6 : decode cX5_weightOf 6 = .ok (.getfield 56, 3) := by decide +kernel
theorem dX5_weightOf_9 : decode cX5_weightOf 9 = .ok (.if_icmp .ge 26, 3) := by decide +kernel
theorem dX5_weightOf_12 : decode cX5_weightOf 12 = .ok (.iload_n 1, 1) := by decide +kernel
theorem dX5_weightOf_13 : decode cX5_weightOf 13 = .ok (.iload_n 3, 1) := by decide +kernel
theorem dX5_weightOf_14 : decode cX5_weightOf 14 = .ok (.ishr, 1) := by decide +kernel
theorem dX5_weightOf_15 : decode cX5_weightOf 15 = .ok (.iconst 1, 1) := by decide +kernel
theorem dX5_weightOf_16 : decode cX5_weightOf 16 = .ok (.iand, 1) := by decide +kernel
theorem dX5_weightOf_17 : decode cX5_weightOf 17 = .ok (.ifCond .eq 12, 3) := by decide +kernel
theorem dX5_weightOf_20 : decode cX5_weightOf 20 = .ok (.iload_n 2, 1) := by decide +kernel
theorem dX5_weightOf_21 : decode cX5_weightOf 21 = .ok (.aload_n 0, 1) := by decide +kernel
theorem dX5_weightOf_22 : decode cX5_weightOf 22 = .ok (.getfield 39, 3) := by decide +kernel
theorem dX5_weightOf_25 : decode cX5_weightOf 25 = .ok (.iload_n 3, 1) := by decide +kernel
theorem dX5_weightOf_26 : decode cX5_weightOf 26 = .ok (.iaload, 1) := by decide +kernel
theorem dX5_weightOf_27 : decode cX5_weightOf 27 = .ok (.iadd, 1) := by decide +kernel
theorem dX5_weightOf_28 : decode cX5_weightOf 28 = .ok (.istore_n 2, 1) := by decide +kernel
theorem dX5_weightOf_29 : decode cX5_weightOf 29 = .ok (.iinc 3 1, 3) := by decide +kernel
theorem dX5_weightOf_32 : decode cX5_weightOf 32 = .ok (.goto (-28), 3) := by decide +kernel
theorem dX5_weightOf_35 : decode cX5_weightOf 35 = .ok (.iload_n 2, 1) := by decide +kernel
theorem dX5_weightOf_36 : decode cX5_weightOf 36 = .ok (.ireturn, 1) := by decide +kernel
theorem dX6_init_0 : decode cX6_init 0 = .ok (.aload_n 0, 1) := by decide +kernel
theorem dX6_init_1 : decode cX6_init 1 = .ok (.invokespecial 3, 3) := by decide +kernel
theorem dX6_init_4 : decode cX6_init 4 = .ok (.aload_n 0, 1) := by decide +kernel
theorem dX6_init_5 : decode cX6_init 5 = .ok (.bipush 20, 2) := by decide +kernel
theorem dX6_init_7 : decode cX6_init 7 = .ok (.newarray .long, 2) := by decide +kernel
theorem dX6_init_9 : decode cX6_init 9 = .ok (.putfield 11, 3) := by decide +kernel
theorem dX6_init_12 : decode cX6_init 12 = .ok (.aload_n 0, 1) := by decide +kernel
theorem dX6_init_13 : decode cX6_init 13 = .ok (.iconst 0, 1) := by decide +kernel
theorem dX6_init_14 : decode cX6_init 14 = .ok (.newarray .byte, 2) := by decide +kernel
theorem dX6_init_16 : decode cX6_init 16 = .ok (.putfield 15, 3) := by decide +kernel
theorem dX6_init_19 : decode cX6_init 19 = .ok (.aload_n 0, 1) := by decide +kernel
theorem dX6_init_20 : decode cX6_init 20 = .ok (.iconst 0, 1) := by decide +kernel
theorem dX6_init_21 : decode cX6_init 21 = .ok (.putfield 19, 3) := by decide +kernel
theorem dX6_init_24 : decode cX6_init 24 = .ok (.aload_n 0, 1) := by decide +kernel
theorem dX6_init_25 : decode cX6_init 25 = .ok (.iconst 0, 1) := by decide +kernel
theorem dX6_init_26 : decode cX6_init 26 = .ok (.putfield 23, 3) := by decide +kernel
theorem dX6_init_29 : decode cX6_init 29 = .ok (.aload_n 0, 1) := by decide +kernel
theorem dX6_init_30 : decode cX6_init 30 = .ok (.iconst 0, 1) := by decide +kernel
theorem dX6_init_31 : decode cX6_init 31 = .ok (.putfield 26, 3) := by decide +kernel
theorem dX6_init_34 : decode cX6_init 34 = .ok (.aload_n 0, 1) := by decide +kernel
theorem dX6_init_35 : decode cX6_init 35 = .ok (.iconst 0, 1) := by decide +kernel
theorem dX6_init_36 : decode cX6_init 36 = .ok (.putfield 29, 3) := by decide +kernel
theorem dX6_init_39 : decode cX6_init 39 = .ok (.aload_n 0, 1) := by decide +kernel
theorem dX6_init_40 : decode cX6_init 40 = .ok (.iconst 0, 1) := by decide +kernel
theorem dX6_init_41 : decode cX6_init 41 = .ok (.putfield 32, 3) := by decide +kernel
theorem dX6_init_44 : decode cX6_init 44 = .ok (.aload_n 0, 1) := by decide +kernel
theorem dX6_init_45 : decode cX6_init 45 = .ok (.lconst 0, 1) := by decide +kernel
theorem dX6_init_46 : decode cX6_init 46 = .ok (.putfield 35, 3) := by decide +kernel
theorem dX6_init_49 : decode cX6_init 49 = .ok (.aload_n 0, 1) := by decide +kernel
theorem dX6_init_50 : decode cX6_init 50 = .ok (.iconst (-1), 1) := by decide +kernel
theorem dX6_init_51 : decode cX6_init 51 = .ok (.putfield 39, 3) := by decide +kernel
theorem dX6_init_54 : decode cX6_init 54 = .ok (.iconst 0, 1) := by decide +kernel
theorem dX6_init_55 : decode cX6_init 55 = .ok (.istore_n 1, 1) := by decide +kernel
theorem dX6_init_56 : decode cX6_init 56 = .ok (.lconst 0, 1) := by decide +kernel
theorem dX6_init_57 : decode cX6_init 57 = .ok (.lstore_n 2, 1) := by decide +kernel
theorem dX6_init_58 : decode cX6_init 58 = .ok (.iconst 0, 1) := by decide +kernel
theorem dX6_init_59 : decode cX6_init 59 = .ok (.istore 4, 2) := by decide +kernel
theorem dX6_init_61 : decode cX6_init 61 = .ok (.iload 4, 2) := by decide +kernel
theorem dX6_init_63 : decode cX6_init 63 = .ok (.ldc 42, 2) := by decide +kernel
theorem dX6_init_65 : decode cX6_init 65 = .ok (.invokevirtual 44, 3) := by decide +kernel
theorem dX6_init_68 : decode cX6_init 68 = .ok (.if_icmp .ge 53, 3) := by decide +kernel
theorem dX6_init_71 : decode cX6_init 71 = .ok (.iload_n 1, 1) := by decide +kernel
theorem dX6_init_72 : decode cX6_init 72 = .ok (.bipush 20, 2) := by decide +kernel
theorem dX6_init_74 : decode cX6_init 74 = .ok (.if_icmp .ge 47, 3) := by decide +kernel
theorem dX6_init_77 : decode cX6_init 77 = .ok (.ldc 42, 2) := by decide +kernel
theorem dX6_init_79 : decode cX6_init 79 = .ok (.iload 4, 2) := by decide +kernel
theorem dX6_init_81 : decode cX6_init 81 = .ok (.invokevirtual 49, 3) := by decide +kernel
theorem dX6_init_84 : decode cX6_init 84 = .ok (.istore 5, 2) := by decide +kernel
theorem dX6_init_86 : decode cX6_init 86 = .ok (.iload 5, 2) := by decide +kernel
theorem dX6_init_88 : decode cX6_init 88 = .ok (.bipush 32, 2) := by decide +kernel
theorem dX6_init_90 : decode cX6_init 90 = .ok (.if_icmp .ne 18, 3) := by decide +kernel
theorem dX6_init_93 : decode cX6_init 93 = .ok (.aload_n 0, 1) := by decide +kernel
theorem dX6_init_94 : decode cX6_init 94 = .ok (.getfield 11, 3) := by decide +kernel
theorem dX6_init_97 : decode cX6_init 97 = .ok (.iload_n 1, 1) := by decide +kernel
theorem dX6_init_98 : decode cX6_init 98 = .ok (.lload_n 2, 1) := by decide +kernel
theorem dX6_init_99 : decode cX6_init 99 = .ok (.lastore, 1) := by decide +kernel
theorem dX6_init_100 : decode cX6_init 100 = .ok (.lconst 0, 1) := by decide +kernel
theorem dX6_init_101 : decode cX6_init 101 = .ok (.lstore_n 2, 1) := by decide +kernel
theorem dX6_init_102 : decode cX6_init 102 = .ok (.iinc 1 1, 3) := by decide +kernel
theorem dX6_init_105 : decode cX6_init 105 = .ok (.goto 10, 3) := by decide +kernel
theorem dX6_init_108 : decode cX6_init 108 = .ok (.lload_n 2, 1) := by decide +kernel
theorem dX6_init_109 : decode cX6_init 109 = .ok (.iload 5, 2) := by decide +kernel
theorem dX6_init_111 : decode cX6_init 111 = .ok (.invokestatic 53, 3) := by decide +kernel
theorem dX6_init_114 : decode cX6_init 114 = .ok (.lstore_n 2, 1) := by decide +kernel
theorem dX6_init_115 : decode cX6_init 115 = .ok (.iinc 4 1, 3) := by decide +kernel
theorem dX6_init_118 : decode cX6_init 118 = .ok (.goto (-57), 3) := by decide +kernel
theorem dX6_init_121 : decode cX6_init 121 = .ok (.return_, 1) := by decide +kernel
theorem dX6_begin_0 : decode cX6_begin 0 = .ok (.aload_n 0, 1) := by decide +kernel
theorem dX6_begin_1 : decode cX6_begin 1 = .ok (.aload_n 1, 1) := by decide +kernel
theorem dX6_begin_2 : decode cX6_begin 2 = .ok (.putfield 15, 3) := by decide +kernel
theorem dX6_begin_5 : decode cX6_begin 5 = .ok (.aload_n 0, 1) := by decide +kernel
theorem dX6_begin_6 : decode cX6_begin 6 = .ok (.iload_n 2, 1) := by decide +kernel
theorem dX6_begin_7 : decode cX6_begin 7 = .ok (.aload_n 1, 1) := by decide +kernel
theorem dX6_begin_8 : decode cX6_begin 8 = .ok (.arraylength, 1) := by decide +kernel
theorem dX6_begin_9 : decode cX6_begin 9 = .ok (.invokestatic 57, 3) := by decide +kernel
theorem dX6_begin_12 : decode cX6_begin 12 = .ok (.putfield 19, 3) := by decide +kernel
theorem dX6_begin_15 : decode cX6_begin 15 = .ok (.aload_n 0, 1) := by decide +kernel
theorem dX6_begin_16 : decode cX6_begin 16 = .ok (.iconst 0, 1) := by decide +kernel
theorem dX6_begin_17 : decode cX6_begin 17 = .ok (.putfield 23, 3) := by decide +kernel
theorem dX6_begin_20 : decode cX6_begin 20 = .ok (.aload_n 0, 1) := by decide +kernel
theorem dX6_begin_21 : decode cX6_begin 21 = .ok (.invokevirtual 63, 3) := by decide +kernel
theorem dX6_begin_24 : decode cX6_begin 24 = .ok (.return_, 1) := by decide +kernel
theorem dX6_advance_0 : decode cX6_advance 0 = .ok (.aload_n 0, 1) := by decide +kernel
theorem dX6_advance_1 : decode cX6_advance 1 = .ok (.getfield 23, 3) := by decide +kernel
theorem dX6_advance_4 : decode cX6_advance 4 = .ok (.aload_n 0, 1) := by decide +kernel
theorem dX6_advance_5 : decode cX6_advance 5 = .ok (.getfield 19, 3) := by decide +kernel
theorem dX6_advance_8 : decode cX6_advance 8 = .ok (.if_icmp .ge 44, 3) := by decide +kernel
theorem dX6_advance_11 : decode cX6_advance 11 = .ok (.aload_n 0, 1) := by decide +kernel
theorem dX6_advance_12 : decode cX6_advance 12 = .ok (.getfield 15, 3) := by decide +kernel
theorem dX6_advance_15 : decode cX6_advance 15 = .ok (.aload_n 0, 1) := by decide +kernel
theorem dX6_advance_16 : decode cX6_advance 16 = .ok (.getfield 23, 3) := by decide +kernel
theorem dX6_advance_19 : decode cX6_advance 19 = .ok (.baload, 1) := by decide +kernel
theorem dX6_advance_20 : decode cX6_advance 20 = .ok (.bipush 32, 2) := by decide +kernel
theorem dX6_advance_22 : decode cX6_advance 22 = .ok (.if_icmp .eq 17, 3) := by decide +kernel
theorem dX6_advance_25 : decode cX6_advance 25 = .ok (.aload_n 0, 1) := by decide +kernel
theorem dX6_advance_26 : decode cX6_advance 26 = .ok (.getfield 15, 3) := by decide +kernel
theorem dX6_advance_29 : decode cX6_advance 29 = .ok (.aload_n 0, 1) := by decide +kernel
theorem dX6_advance_30 : decode cX6_advance 30 = .ok (.getfield 23, 3) := by decide +kernel
theorem dX6_advance_33 : decode cX6_advance 33 = .ok (.baload, 1) := by decide +kernel
theorem dX6_advance_34 : decode cX6_advance 34 = .ok (.bipush 10, 2) := by decide +kernel
theorem dX6_advance_36 : decode cX6_advance 36 = .ok (.if_icmp .ne 16, 3) := by decide +kernel
theorem dX6_advance_39 : decode cX6_advance 39 = .ok (.aload_n 0, 1) := by decide +kernel
theorem dX6_advance_40 : decode cX6_advance 40 = .ok (.dup, 1) := by decide +kernel
theorem dX6_advance_41 : decode cX6_advance 41 = .ok (.getfield 23, 3) := by decide +kernel
theorem dX6_advance_44 : decode cX6_advance 44 = .ok (.iconst 1, 1) := by decide +kernel
theorem dX6_advance_45 : decode cX6_advance 45 = .ok (.iadd, 1) := by decide +kernel
theorem dX6_advance_46 : decode cX6_advance 46 = .ok (.putfield 23, 3) := by decide +kernel
theorem dX6_advance_49 : decode cX6_advance 49 = .ok (.goto (-49), 3) := by decide +kernel
theorem dX6_advance_52 : decode cX6_advance 52 = .ok (.aload_n 0, 1) := by decide +kernel
theorem dX6_advance_53 : decode cX6_advance 53 = .ok (.aload_n 0, 1) := by decide +kernel
theorem dX6_advance_54 : decode cX6_advance 54 = .ok (.getfield 23, 3) := by decide +kernel
theorem dX6_advance_57 : decode cX6_advance 57 = .ok (.putfield 29, 3) := by decide +kernel
theorem dX6_advance_60 : decode cX6_advance 60 = .ok (.aload_n 0, 1) := by decide +kernel
theorem dX6_advance_61 : decode cX6_advance 61 = .ok (.iconst (-1), 1) := by decide +kernel
theorem dX6_advance_62 : decode cX6_advance 62 = .ok (.putfield 39, 3) := by decide +kernel
theorem dX6_advance_65 : decode cX6_advance 65 = .ok (.aload_n 0, 1) := by decide +kernel
theorem dX6_advance_66 : decode cX6_advance 66 = .ok (.getfield 23, 3) := by decide +kernel
theorem dX6_advance_69 : decode cX6_advance 69 = .ok (.aload_n 0, 1) := by decide +kernel
theorem dX6_advance_70 : decode cX6_advance 70 = .ok (.getfield 19, 3) := by decide +kernel
theorem dX6_advance_73 : decode cX6_advance 73 = .ok (.if_icmp .lt 11, 3) := by decide +kernel
theorem dX6_advance_76 : decode cX6_advance 76 = .ok (.aload_n 0, 1) := by decide +kernel
theorem dX6_advance_77 : decode cX6_advance 77 = .ok (.iconst 0, 1) := by decide +kernel
theorem dX6_advance_78 : decode cX6_advance 78 = .ok (.putfield 26, 3) := by decide +kernel
theorem dX6_advance_81 : decode cX6_advance 81 = .ok (.goto 98, 3) := by decide +kernel
theorem dX6_advance_84 : decode cX6_advance 84 = .ok (.aload_n 0, 1) := by decide +kernel
theorem dX6_advance_85 : decode cX6_advance 85 = .ok (.getfield 15, 3) := by decide +kernel
theorem dX6_advance_88 : decode cX6_advance 88 = .ok (.aload_n 0, 1) := by decide +kernel
theorem dX6_advance_89 : decode cX6_advance 89 = .ok (.getfield 23, 3) := by decide +kernel
theorem dX6_advance_92 : decode cX6_advance 92 = .ok (.baload, 1) := by decide +kernel
theorem dX6_advance_93 : decode cX6_advance 93 = .ok (.invokestatic 66, 3) := by decide +kernel
theorem dX6_advance_96 : decode cX6_advance 96 = .ok (.ifCond .eq 10, 3) := by decide +kernel
theorem dX6_advance_99 : decode cX6_advance 99 = .ok (.aload_n 0, 1) := by decide +kernel
theorem dX6_advance_100 : decode cX6_advance 100 = .ok (.invokevirtual 70, 3) := by decide +kernel
theorem dX6_advance_103 : decode cX6_advance 103 = .ok (.goto 76, 3) := by decide +kernel
theorem dX6_advance_106 : decode cX6_advance 106 = .ok (.aload_n 0, 1) := by decide +kernel
theorem dX6_advance_107 : decode cX6_advance 107 = .ok (.getfield 15, 3) := by decide +kernel
theorem dX6_advance_110 : decode cX6_advance 110 = .ok (.aload_n 0, 1) := by decide +kernel
theorem dX6_advance_111 : decode cX6_advance 111 = .ok (.getfield 23, 3) := by decide +kernel
theorem dX6_advance_114 : decode cX6_advance 114 = .ok (.baload, 1) := by decide +kernel
theorem dX6_advance_115 : decode cX6_advance 115 = .ok (.invokestatic 73, 3) := by decide +kernel
theorem dX6_advance_118 : decode cX6_advance 118 = .ok (.ifCond .eq 10, 3) := by decide +kernel
theorem dX6_advance_121 : decode cX6_advance 121 = .ok (.aload_n 0, 1) := by decide +kernel
theorem dX6_advance_122 : decode cX6_advance 122 = .ok (.invokevirtual 76, 3) := by decide +kernel
theorem dX6_advance_125 : decode cX6_advance 125 = .ok (.goto 54, 3) := by decide +kernel
theorem dX6_advance_128 : decode cX6_advance 128 = .ok (.aload_n 0, 1) := by decide +kernel
theorem dX6_advance_129 : decode cX6_advance 129 = .ok (.aload_n 0, 1) := by decide +kernel
theorem dX6_advance_130 : decode cX6_advance 130 = .ok (.getfield 15, 3) := by decide +kernel
theorem dX6_advance_133 : decode cX6_advance 133 = .ok (.aload_n 0, 1) := by decide +kernel
theorem dX6_advance_134 : decode cX6_advance 134 = .ok (.getfield 23, 3) := by decide +kernel
theorem dX6_advance_137 : decode cX6_advance 137 = .ok (.baload, 1) := by decide +kernel
theorem dX6_advance_138 : decode cX6_advance 138 = .ok (.bipush 59, 2) := by decide +kernel
theorem dX6_advance_140 : decode cX6_advance 140 = .ok (.if_icmp .ne 7, 3) := by decide +kernel
theorem dX6_advance_143 : decode cX6_advance 143 = .ok (.iconst 4, 1) := by decide +kernel
theorem dX6_advance_144 : decode cX6_advance 144 = .ok (.goto 22, 3) := by decide +kernel
theorem dX6_advance_147 : decode cX6_advance 147 = .ok (.aload_n 0, 1) := by decide +kernel
theorem dX6_advance_148 : decode cX6_advance 148 = .ok (.getfield 15, 3) := by decide +kernel
theorem dX6_advance_151 : decode cX6_advance 151 = .ok (.aload_n 0, 1) := by decide +kernel
theorem dX6_advance_152 : decode cX6_advance 152 = .ok (.getfield 23, 3) := by decide +kernel
theorem dX6_advance_155 : decode cX6_advance 155 = .ok (.baload, 1) := by decide +kernel
theorem dX6_advance_156 : decode cX6_advance 156 = .ok (.bipush 45, 2) := by decide +kernel
theorem dX6_advance_158 : decode cX6_advance 158 = .ok (.if_icmp .ne 7, 3) := by decide +kernel
theorem dX6_advance_161 : decode cX6_advance 161 = .ok (.iconst 5, 1) := by decide +kernel
theorem dX6_advance_162 : decode cX6_advance 162 = .ok (.goto 4, 3) := by decide +kernel
theorem dX6_advance_165 : decode cX6_advance 165 = .ok (.iconst 1, 1) := by decide +kernel
theorem dX6_advance_166 : decode cX6_advance 166 = .ok (.putfield 26, 3) := by decide +kernel
theorem dX6_advance_169 : decode cX6_advance 169 = .ok (.aload_n 0, 1) := by decide +kernel
theorem dX6_advance_170 : decode cX6_advance 170 = .ok (.dup, 1) := by decide +kernel
theorem dX6_advance_171 : decode cX6_advance 171 = .ok (.getfield 23, 3) := by decide +kernel
theorem dX6_advance_174 : decode cX6_advance 174 = .ok (.iconst 1, 1) := by decide +kernel
theorem dX6_advance_175 : decode cX6_advance 175 = .ok (.iadd, 1) := by decide +kernel
theorem dX6_advance_176 : decode cX6_advance 176 = .ok (.putfield 23, 3) := by decide +kernel
theorem dX6_advance_179 : decode cX6_advance 179 = .ok (.return_, 1) := by decide +kernel
theorem dX6_scanWord_0 : decode cX6_scanWord 0 = .ok (.aload_n 0, 1) := by decide +kernel
theorem dX6_scanWord_1 : decode cX6_scanWord 1 = .ok (.lconst 0, 1) := by decide +kernel
theorem dX6_scanWord_2 : decode cX6_scanWord 2 = .ok (.putfield 35, 3) := by decide +kernel
theorem dX6_scanWord_5 : decode cX6_scanWord 5 = .ok (.aload_n 0, 1) := by decide +kernel
theorem dX6_scanWord_6 : decode cX6_scanWord 6 = .ok (.getfield 23, 3) := by decide +kernel
theorem dX6_scanWord_9 : decode cX6_scanWord 9 = .ok (.aload_n 0, 1) := by decide +kernel
theorem dX6_scanWord_10 : decode cX6_scanWord 10 = .ok (.getfield 19, 3) := by decide +kernel
theorem dX6_scanWord_13 : decode cX6_scanWord 13 = .ok (.if_icmp .ge 51, 3) := by decide +kernel
theorem dX6_scanWord_16 : decode cX6_scanWord 16 = .ok (.aload_n 0, 1) := by decide +kernel
theorem dX6_scanWord_17 : decode cX6_scanWord 17 = .ok (.getfield 15, 3) := by decide +kernel
theorem dX6_scanWord_20 : decode cX6_scanWord 20 = .ok (.aload_n 0, 1) := by decide +kernel
theorem dX6_scanWord_21 : decode cX6_scanWord 21 = .ok (.getfield 23, 3) := by decide +kernel
theorem dX6_scanWord_24 : decode cX6_scanWord 24 = .ok (.baload, 1) := by decide +kernel
theorem dX6_scanWord_25 : decode cX6_scanWord 25 = .ok (.invokestatic 66, 3) := by decide +kernel
theorem dX6_scanWord_28 : decode cX6_scanWord 28 = .ok (.ifCond .eq 36, 3) := by decide +kernel
theorem dX6_scanWord_31 : decode cX6_scanWord 31 = .ok (.aload_n 0, 1) := by decide +kernel
theorem dX6_scanWord_32 : decode cX6_scanWord 32 = .ok (.aload_n 0, 1) := by decide +kernel
theorem dX6_scanWord_33 : decode cX6_scanWord 33 = .ok (.getfield 35, 3) := by decide +kernel
theorem dX6_scanWord_36 : decode cX6_scanWord 36 = .ok (.aload_n 0, 1) := by decide +kernel
theorem dX6_scanWord_37 : decode cX6_scanWord 37 = .ok (.getfield 15, 3) := by decide +kernel
theorem dX6_scanWord_40 : decode cX6_scanWord 40 = .ok (.aload_n 0, 1) := by decide +kernel
theorem dX6_scanWord_41 : decode cX6_scanWord 41 = .ok (.getfield 23, 3) := by decide +kernel
theorem dX6_scanWord_44 : decode cX6_scanWord 44 = .ok (.baload, 1) := by decide +kernel
theorem dX6_scanWord_45 : decode cX6_scanWord 45 = .ok (.invokestatic 53, 3) := by decide +kernel
theorem dX6_scanWord_48 : decode cX6_scanWord 48 = .ok (.putfield 35, 3) := by decide +kernel
theorem dX6_scanWord_51 : decode cX6_scanWord 51 = .ok (.aload_n 0, 1) := by decide +kernel
theorem dX6_scanWord_52 : decode cX6_scanWord 52 = .ok (.dup, 1) := by decide +kernel
theorem dX6_scanWord_53 : decode cX6_scanWord 53 = .ok (.getfield 23, 3) := by decide +kernel
theorem dX6_scanWord_56 : decode cX6_scanWord 56 = .ok (.iconst 1, 1) := by decide +kernel
theorem dX6_scanWord_57 : decode cX6_scanWord 57 = .ok (.iadd, 1) := by decide +kernel
theorem dX6_scanWord_58 : decode cX6_scanWord 58 = .ok (.putfield 23, 3) := by decide +kernel
theorem dX6_scanWord_61 : decode cX6_scanWord 61 = .ok (.goto (-56), 3) := by decide +kernel
theorem dX6_scanWord_64 : decode cX6_scanWord 64 = .ok (.aload_n 0, 1) := by decide +kernel
theorem dX6_scanWord_65 : decode cX6_scanWord 65 = .ok (.aload_n 0, 1) := by decide +kernel
theorem dX6_scanWord_66 : decode cX6_scanWord 66 = .ok (.getfield 23, 3) := by decide +kernel
theorem dX6_scanWord_69 : decode cX6_scanWord 69 = .ok (.aload_n 0, 1) := by decide +kernel
theorem dX6_scanWord_70 : decode cX6_scanWord 70 = .ok (.getfield 29, 3) := by decide +kernel
theorem dX6_scanWord_73 : decode cX6_scanWord 73 = .ok (.isub, 1) := by decide +kernel
theorem dX6_scanWord_74 : decode cX6_scanWord 74 = .ok (.bipush 8, 2) := by decide +kernel
theorem dX6_scanWord_76 : decode cX6_scanWord 76 = .ok (.if_icmp .le 7, 3) := by decide +kernel
theorem dX6_scanWord_79 : decode cX6_scanWord 79 = .ok (.iconst 1, 1) := by decide +kernel
theorem dX6_scanWord_80 : decode cX6_scanWord 80 = .ok (.goto 4, 3) := by decide +kernel
theorem dX6_scanWord_83 : decode cX6_scanWord 83 = .ok (.iconst 2, 1) := by decide +kernel
theorem dX6_scanWord_84 : decode cX6_scanWord 84 = .ok (.putfield 26, 3) := by decide +kernel
theorem dX6_scanWord_87 : decode cX6_scanWord 87 = .ok (.aload_n 0, 1) := by decide +kernel
theorem dX6_scanWord_88 : decode cX6_scanWord 88 = .ok (.getfield 26, 3) := by decide +kernel
theorem dX6_scanWord_91 : decode cX6_scanWord 91 = .ok (.iconst 2, 1) := by decide +kernel
theorem dX6_scanWord_92 : decode cX6_scanWord 92 = .ok (.if_icmp .ne 15, 3) := by decide +kernel
theorem dX6_scanWord_95 : decode cX6_scanWord 95 = .ok (.aload_n 0, 1) := by decide +kernel
theorem dX6_scanWord_96 : decode cX6_scanWord 96 = .ok (.aload_n 0, 1) := by decide +kernel
theorem dX6_scanWord_97 : decode cX6_scanWord 97 = .ok (.aload_n 0, 1) := by decide +kernel
theorem dX6_scanWord_98 : decode cX6_scanWord 98 = .ok (.getfield 35, 3) := by decide +kernel
theorem dX6_scanWord_101 : decode cX6_scanWord 101 = .ok (.invokevirtual 79, 3) := by decide +kernel
theorem dX6_scanWord_104 : decode cX6_scanWord 104 = .ok (.putfield 39, 3) := by decide +kernel
theorem dX6_scanWord_107 : decode cX6_scanWord 107 = .ok (.return_, 1) := by decide +kernel
theorem dX6_scanNumber_0 : decode cX6_scanNumber 0 = .ok (.aload_n 0, 1) := by decide +kernel
theorem dX6_scanNumber_1 : decode cX6_scanNumber 1 = .ok (.iconst 0, 1) := by decide +kernel
theorem dX6_scanNumber_2 : decode cX6_scanNumber 2 = .ok (.putfield 32, 3) := by decide +kernel
theorem dX6_scanNumber_5 : decode cX6_scanNumber 5 = .ok (.aload_n 0, 1) := by decide +kernel
theorem dX6_scanNumber_6 : decode cX6_scanNumber 6 = .ok (.getfield 23, 3) := by decide +kernel
theorem dX6_scanNumber_9 : decode cX6_scanNumber 9 = .ok (.aload_n 0, 1) := by decide +kernel
theorem dX6_scanNumber_10 : decode cX6_scanNumber 10 = .ok (.getfield 19, 3) := by decide +kernel
theorem dX6_scanNumber_13 : decode cX6_scanNumber 13 = .ok (.if_icmp .ge 55, 3) := by decide +kernel
theorem dX6_scanNumber_16 : decode cX6_scanNumber 16 = .ok (.aload_n 0, 1) := by decide +kernel
theorem dX6_scanNumber_17 : decode cX6_scanNumber 17 = .ok (.getfield 15, 3) := by decide +kernel
theorem dX6_scanNumber_20 : decode cX6_scanNumber 20 = .ok (.aload_n 0, 1) := by decide +kernel
theorem dX6_scanNumber_21 : decode cX6_scanNumber 21 = .ok (.getfield 23, 3) := by decide +kernel
theorem dX6_scanNumber_24 : decode cX6_scanNumber 24 = .ok (.baload, 1) := by decide +kernel
theorem dX6_scanNumber_25 : decode cX6_scanNumber 25 = .ok (.invokestatic 73, 3) := by decide +kernel
theorem dX6_scanNumber_28 : decode cX6_scanNumber 28 = .ok (.ifCond .eq 40, 3) := by decide +kernel
theorem dX6_scanNumber_31 : decode cX6_scanNumber 31 = .ok (.aload_n 0, 1) := by decide +kernel
theorem dX6_scanNumber_32 : decode cX6_scanNumber 32 = .ok (.aload_n 0, 1) := by decide +kernel
theorem dX6_scanNumber_33 : decode cX6_scanNumber 33 = .ok (.getfield 32, 3) := by decide +kernel
theorem dX6_scanNumber_36 : decode cX6_scanNumber 36 = .ok (.bipush 10, 2) := by decide +kernel
theorem dX6_scanNumber_38 : decode cX6_scanNumber 38 = .ok (.imul, 1) := by decide +kernel
theorem dX6_scanNumber_39 : decode cX6_scanNumber 39 = .ok (.aload_n 0, 1) := by decide +kernel
theorem dX6_scanNumber_40 : decode cX6_scanNumber 40 = .ok (.getfield 15, 3) := by decide +kernel
theorem dX6_scanNumber_43 : decode cX6_scanNumber 43 = .ok (.aload_n 0, 1) := by decide +kernel
theorem dX6_scanNumber_44 : decode cX6_scanNumber 44 = .ok (.getfield 23, 3) := by decide +kernel
theorem dX6_scanNumber_47 : decode cX6_scanNumber 47 = .ok (.baload, 1) := by decide +kernel
theorem dX6_scanNumber_48 : decode cX6_scanNumber 48 = .ok (.iadd, 1) := by decide +kernel
theorem dX6_scanNumber_49 : decode cX6_scanNumber 49 = .ok (.bipush 48, 2) := by decide +kernel
theorem dX6_scanNumber_51 : decode cX6_scanNumber 51 = .ok (.isub, 1) := by decide +kernel
theorem dX6_scanNumber_52 : decode cX6_scanNumber 52 = .ok (.putfield 32, 3) := by decide +kernel
theorem dX6_scanNumber_55 : decode cX6_scanNumber 55 = .ok (.aload_n 0, 1) := by decide +kernel
theorem dX6_scanNumber_56 : decode cX6_scanNumber 56 = .ok (.dup, 1) := by decide +kernel
theorem dX6_scanNumber_57 : decode cX6_scanNumber 57 = .ok (.getfield 23, 3) := by decide +kernel
theorem dX6_scanNumber_60 : decode cX6_scanNumber 60 = .ok (.iconst 1, 1) := by decide +kernel
theorem dX6_scanNumber_61 : decode cX6_scanNumber 61 = .ok (.iadd, 1) := by decide +kernel
theorem dX6_scanNumber_62 : decode cX6_scanNumber 62 = .ok (.putfield 23, 3) := by decide +kernel
theorem dX6_scanNumber_65 : decode cX6_scanNumber 65 = .ok (.goto (-60), 3) := by decide +kernel
theorem dX6_scanNumber_68 : decode cX6_scanNumber 68 = .ok (.aload_n 0, 1) := by decide +kernel
theorem dX6_scanNumber_69 : decode cX6_scanNumber 69 = .ok (.getfield 23, 3) := by decide +kernel
theorem dX6_scanNumber_72 : decode cX6_scanNumber 72 = .ok (.aload_n 0, 1) := by decide +kernel
theorem dX6_scanNumber_73 : decode cX6_scanNumber 73 = .ok (.getfield 19, 3) := by decide +kernel
theorem dX6_scanNumber_76 : decode cX6_scanNumber 76 = .ok (.if_icmp .ge 22, 3) := by decide +kernel
theorem dX6_scanNumber_79 : decode cX6_scanNumber 79 = .ok (.aload_n 0, 1) := by decide +kernel
theorem dX6_scanNumber_80 : decode cX6_scanNumber 80 = .ok (.getfield 15, 3) := by decide +kernel
theorem dX6_scanNumber_83 : decode cX6_scanNumber 83 = .ok (.aload_n 0, 1) := by decide +kernel
theorem dX6_scanNumber_84 : decode cX6_scanNumber 84 = .ok (.getfield 23, 3) := by decide +kernel
theorem dX6_scanNumber_87 : decode cX6_scanNumber 87 = .ok (.baload, 1) := by decide +kernel
theorem dX6_scanNumber_88 : decode cX6_scanNumber 88 = .ok (.invokestatic 66, 3) := by decide +kernel
theorem dX6_scanNumber_91 : decode cX6_scanNumber 91 = .ok (.ifCond .eq 7, 3) := by decide +kernel
theorem dX6_scanNumber_94 : decode cX6_scanNumber 94 = .ok (.iconst 1, 1) := by decide +kernel
theorem dX6_scanNumber_95 : decode cX6_scanNumber 95 = .ok (.goto 4, 3) := by decide +kernel
theorem dX6_scanNumber_98 : decode cX6_scanNumber 98 = .ok (.iconst 0, 1) := by decide +kernel
theorem dX6_scanNumber_99 : decode cX6_scanNumber 99 = .ok (.istore_n 1, 1) := by decide +kernel
theorem dX6_scanNumber_100 : decode cX6_scanNumber 100 = .ok (.aload_n 0, 1) := by decide +kernel
theorem dX6_scanNumber_101 : decode cX6_scanNumber 101 = .ok (.aload_n 0, 1) := by decide +kernel
theorem dX6_scanNumber_102 : decode cX6_scanNumber 102 = .ok (.getfield 23, 3) := by decide +kernel
theorem dX6_scanNumber_105 : decode cX6_scanNumber 105 = .ok (.aload_n 0, 1) := by decide +kernel
theorem dX6_scanNumber_106 : decode cX6_scanNumber 106 = .ok (.getfield 29, 3) := by decide +kernel
theorem dX6_scanNumber_109 : decode cX6_scanNumber 109 = .ok (.isub, 1) := by decide +kernel
theorem dX6_scanNumber_110 : decode cX6_scanNumber 110 = .ok (.iconst 4, 1) := by decide +kernel
theorem dX6_scanNumber_111 : decode cX6_scanNumber 111 = .ok (.if_icmp .gt 7, 3) := by decide +kernel
theorem dX6_scanNumber_114 : decode cX6_scanNumber 114 = .ok (.iload_n 1, 1) := by decide +kernel
theorem dX6_scanNumber_115 : decode cX6_scanNumber 115 = .ok (.ifCond .eq 7, 3) := by decide +kernel
theorem dX6_scanNumber_118 : decode cX6_scanNumber 118 = .ok (.iconst 1, 1) := by decide +kernel
theorem dX6_scanNumber_119 : decode cX6_scanNumber 119 = .ok (.goto 4, 3) := by decide +kernel
theorem dX6_scanNumber_122 : decode cX6_scanNumber 122 = .ok (.iconst 3, 1) := by decide +kernel
theorem dX6_scanNumber_123 : decode cX6_scanNumber 123 = .ok (.putfield 26, 3) := by decide +kernel
theorem dX6_scanNumber_126 : decode cX6_scanNumber 126 = .ok (.return_, 1) := by decide +kernel
theorem dX6_keywordWith_0 : decode cX6_keywordWith 0 = .ok (.iconst 0, 1) := by decide +kernel
theorem dX6_keywordWith_1 : decode cX6_keywordWith 1 = .ok (.istore_n 3, 1) := by decide +kernel
theorem dX6_keywordWith_2 : decode cX6_keywordWith 2 = .ok (.iload_n 3, 1) := by decide +kernel
theorem dX6_keywordWith_3 : decode cX6_keywordWith 3 = .ok (.bipush 20, 2) := by decide +kernel
theorem dX6_keywordWith_5 : decode cX6_keywordWith 5 = .ok (.if_icmp .ge 22, 3) := by decide +kernel
theorem dX6_keywordWith_8 : decode cX6_keywordWith 8 = .ok (.aload_n 0, 1) := by decide +kernel
theorem dX6_keywordWith_9 : decode cX6_keywordWith 9 = .ok (.getfield 11, 3) := by decide +kernel
theorem dX6_keywordWith_12 : decode cX6_keywordWith 12 = .ok (.iload_n 3, 1) := by decide +kernel
theorem dX6_keywordWith_13 : decode cX6_keywordWith 13 = .ok (.laload, 1) := by decide +kernel
theorem dX6_keywordWith_14 : decode cX6_keywordWith 14 = .ok (.lload_n 1, 1) := by decide +kernel
theorem dX6_keywordWith_15 : decode cX6_keywordWith 15 = .ok (.lcmp, 1) := by decide +kernel
theorem dX6_keywordWith_16 : decode cX6_keywordWith 16 = .ok (.ifCond .ne 5, 3) := by decide +kernel
theorem dX6_keywordWith_19 : decode cX6_keywordWith 19 = .ok (.iload_n 3, 1) := by decide +kernel
theorem dX6_keywordWith_20 : decode cX6_keywordWith 20 = .ok (.ireturn, 1) := by decide +kernel
theorem dX6_keywordWith_21 : decode cX6_keywordWith 21 = .ok (.iinc 3 1, 3) := by decide +kernel
theorem dX6_keywordWith_24 : decode cX6_keywordWith 24 = .ok (.goto (-22), 3) := by decide +kernel
theorem dX6_keywordWith_27 : decode cX6_keywordWith 27 = .ok (.iconst (-1), 1) := by decide +kernel
theorem dX6_keywordWith_28 : decode cX6_keywordWith 28 = .ok (.ireturn, 1) := by decide +kernel
theorem dX6_isLetter_0 : decode cX6_isLetter 0 = .ok (.iload_n 0, 1) := by decide +kernel
theorem dX6_isLetter_1 : decode cX6_isLetter 1 = .ok (.bipush 97, 2) := by decide +kernel
theorem dX6_isLetter_3 : decode cX6_isLetter 3 = .ok (.if_icmp .lt 13, 3) := by decide +kernel
theorem dX6_isLetter_6 : decode cX6_isLetter 6 = .ok (.iload_n 0, 1) := by decide +kernel
theorem dX6_isLetter_7 : decode cX6_isLetter 7 = .ok (.bipush 122, 2) := by decide +kernel
theorem dX6_isLetter_9 : decode cX6_isLetter 9 = .ok (.if_icmp .gt 7, 3) := by decide +kernel
theorem dX6_isLetter_12 : decode cX6_isLetter 12 = .ok (.iconst 1, 1) := by decide +kernel
theorem dX6_isLetter_13 : decode cX6_isLetter 13 = .ok (.goto 4, 3) := by decide +kernel
theorem dX6_isLetter_16 : decode cX6_isLetter 16 = .ok (.iconst 0, 1) := by decide +kernel
theorem dX6_isLetter_17 : decode cX6_isLetter 17 = .ok (.ireturn, 1) := by decide +kernel
theorem dX6_isDigit_0 : decode cX6_isDigit 0 = .ok (.iload_n 0, 1) := by decide +kernel
theorem dX6_isDigit_1 : decode cX6_isDigit 1 = .ok (.bipush 48, 2) := by decide +kernel
theorem dX6_isDigit_3 : decode cX6_isDigit 3 = .ok (.if_icmp .lt 13, 3) := by decide +kernel
theorem dX6_isDigit_6 : decode cX6_isDigit 6 = .ok (.iload_n 0, 1) := by decide +kernel
theorem dX6_isDigit_7 : decode cX6_isDigit 7 = .ok (.bipush 57, 2) := by decide +kernel
theorem dX6_isDigit_9 : decode cX6_isDigit 9 = .ok (.if_icmp .gt 7, 3) := by decide +kernel
theorem dX6_isDigit_12 : decode cX6_isDigit 12 = .ok (.iconst 1, 1) := by decide +kernel
theorem dX6_isDigit_13 : decode cX6_isDigit 13 = .ok (.goto 4, 3) := by decide +kernel
theorem dX6_isDigit_16 : decode cX6_isDigit 16 = .ok (.iconst 0, 1) := by decide +kernel
theorem dX6_isDigit_17 : decode cX6_isDigit 17 = .ok (.ireturn, 1) := by decide +kernel
theorem dX6_withLetter_0 : decode cX6_withLetter 0 = .ok (.lload_n 0, 1) := by decide +kernel
theorem dX6_withLetter_1 : decode cX6_withLetter 1 = .ok (.iconst 5, 1) := by decide +kernel
theorem dX6_withLetter_2 : decode cX6_withLetter 2 = .ok (.lshl, 1) := by decide +kernel
theorem dX6_withLetter_3 : decode cX6_withLetter 3 = .ok (.iload_n 2, 1) := by decide +kernel
theorem dX6_withLetter_4 : decode cX6_withLetter 4 = .ok (.bipush 97, 2) := by decide +kernel
theorem dX6_withLetter_6 : decode cX6_withLetter 6 = .ok (.isub, 1) := by decide +kernel
theorem dX6_withLetter_7 : decode cX6_withLetter 7 = .ok (.iconst 1, 1) := by decide +kernel
theorem dX6_withLetter_8 : decode cX6_withLetter 8 = .ok (.iadd, 1) := by decide +kernel
theorem dX6_withLetter_9 : decode cX6_withLetter 9 = .ok (.i2l, 1) := by decide +kernel
theorem dX6_withLetter_10 : decode cX6_withLetter 10 = .ok (.lor, 1) := by decide +kernel
theorem dX6_withLetter_11 : decode cX6_withLetter 11 = .ok (.lreturn, 1) := by decide +kernel
theorem dX7_init_0 : decode cX7_init 0 = .ok (.aload_n 0, 1) := by decide +kernel
theorem dX7_init_1 : decode cX7_init 1 = .ok (.invokespecial 3, 3) := by decide +kernel
theorem dX7_init_4 : decode cX7_init 4 = .ok (.aload_n 0, 1) := by decide +kernel
theorem dX7_init_5 : decode cX7_init 5 = .ok (.new 9, 3) := by decide +kernel
theorem dX7_init_8 : decode cX7_init 8 = .ok (.dup, 1) := by decide +kernel
theorem dX7_init_9 : decode cX7_init 9 = .ok (.invokespecial 11, 3) := by decide +kernel
theorem dX7_init_12 : decode cX7_init 12 = .ok (.putfield 12, 3) := by decide +kernel
theorem dX7_init_15 : decode cX7_init 15 = .ok (.return_, 1) := by decide +kernel
theorem dX7_firstWhite_0 : decode cX7_firstWhite 0 = .ok (.aload_n 1, 1) := by decide +kernel
theorem dX7_firstWhite_1 : decode cX7_firstWhite 1 = .ok (.getfield 18, 3) := by decide +kernel
theorem dX7_firstWhite_4 : decode cX7_firstWhite 4 = .ok (.astore 6, 2) := by decide +kernel
theorem dX7_firstWhite_6 : decode cX7_firstWhite 6 = .ok (.aload 6, 2) := by decide +kernel
theorem dX7_firstWhite_8 : decode cX7_firstWhite 8 = .ok (.invokevirtual 24, 3) := by decide +kernel
theorem dX7_firstWhite_11 : decode cX7_firstWhite 11 = .ok (.istore 7, 2) := by decide +kernel
theorem dX7_firstWhite_13 : decode cX7_firstWhite 13 = .ok (.aload_n 0, 1) := by decide +kernel
theorem dX7_firstWhite_14 : decode cX7_firstWhite 14 = .ok (.getfield 12, 3) := by decide +kernel
theorem dX7_firstWhite_17 : decode cX7_firstWhite 17 = .ok (.aload_n 1, 1) := by decide +kernel
theorem dX7_firstWhite_18 : decode cX7_firstWhite 18 = .ok (.getfield 30, 3) := by decide +kernel
theorem dX7_firstWhite_21 : decode cX7_firstWhite 21 = .ok (.iload_n 2, 1) := by decide +kernel
theorem dX7_firstWhite_22 : decode cX7_firstWhite 22 = .ok (.aaload, 1) := by decide +kernel
theorem dX7_firstWhite_23 : decode cX7_firstWhite 23 = .ok (.invokevirtual 34, 3) := by decide +kernel
theorem dX7_firstWhite_26 : decode cX7_firstWhite 26 = .ok (.iconst 0, 1) := by decide +kernel
theorem dX7_firstWhite_27 : decode cX7_firstWhite 27 = .ok (.istore 8, 2) := by decide +kernel
theorem dX7_firstWhite_29 : decode cX7_firstWhite 29 = .ok (.iload 8, 2) := by decide +kernel
theorem dX7_firstWhite_31 : decode cX7_firstWhite 31 = .ok (.bipush 72, 2) := by decide +kernel
theorem dX7_firstWhite_33 : decode cX7_firstWhite 33 = .ok (.if_icmp .ge 85, 3) := by decide +kernel
theorem dX7_firstWhite_36 : decode cX7_firstWhite 36 = .ok (.iload 8, 2) := by decide +kernel
theorem dX7_firstWhite_38 : decode cX7_firstWhite 38 = .ok (.iload 5, 2) := by decide +kernel
theorem dX7_firstWhite_40 : decode cX7_firstWhite 40 = .ok (.if_icmp .ne 17, 3) := by decide +kernel
theorem dX7_firstWhite_43 : decode cX7_firstWhite 43 = .ok (.aload_n 0, 1) := by decide +kernel
theorem dX7_firstWhite_44 : decode cX7_firstWhite 44 = .ok (.getfield 12, 3) := by decide +kernel
theorem dX7_firstWhite_47 : decode cX7_firstWhite 47 = .ok (.dup, 1) := by decide +kernel
theorem dX7_firstWhite_48 : decode cX7_firstWhite 48 = .ok (.getfield 38, 3) := by decide +kernel
theorem dX7_firstWhite_51 : decode cX7_firstWhite 51 = .ok (.iload 4, 2) := by decide +kernel
theorem dX7_firstWhite_53 : decode cX7_firstWhite 53 = .ok (.iadd, 1) := by decide +kernel
theorem dX7_firstWhite_54 : decode cX7_firstWhite 54 = .ok (.putfield 38, 3) := by decide +kernel
theorem dX7_firstWhite_57 : decode cX7_firstWhite 57 = .ok (.aload_n 0, 1) := by decide +kernel
theorem dX7_firstWhite_58 : decode cX7_firstWhite 58 = .ok (.getfield 12, 3) := by decide +kernel
theorem dX7_firstWhite_61 : decode cX7_firstWhite 61 = .ok (.aload 6, 2) := by decide +kernel
theorem dX7_firstWhite_63 : decode cX7_firstWhite 63 = .ok (.getfield 42, 3) := by decide +kernel
theorem dX7_firstWhite_66 : decode cX7_firstWhite 66 = .ok (.iload_n 2, 1) := by decide +kernel
theorem dX7_firstWhite_67 : decode cX7_firstWhite 67 = .ok (.aaload, 1) := by decide +kernel
theorem dX7_firstWhite_68 : decode cX7_firstWhite 68 = .ok (.aload 6, 2) := by decide +kernel
theorem dX7_firstWhite_70 : decode cX7_firstWhite 70 = .ok (.aload_n 1, 1) := by decide +kernel
theorem dX7_firstWhite_71 : decode cX7_firstWhite 71 = .ok (.getfield 46, 3) := by decide +kernel
theorem dX7_firstWhite_74 : decode cX7_firstWhite 74 = .ok (.iload 8, 2) := by decide +kernel
theorem dX7_firstWhite_76 : decode cX7_firstWhite 76 = .ok (.iadd, 1) := by decide +kernel
theorem dX7_firstWhite_77 : decode cX7_firstWhite 77 = .ok (.iload_n 3, 1) := by decide +kernel
theorem dX7_firstWhite_78 : decode cX7_firstWhite 78 = .ok (.invokevirtual 49, 3) := by decide +kernel
theorem dX7_firstWhite_81 : decode cX7_firstWhite 81 = .ok (.aload_n 0, 1) := by decide +kernel
theorem dX7_firstWhite_82 : decode cX7_firstWhite 82 = .ok (.getfield 12, 3) := by decide +kernel
theorem dX7_firstWhite_85 : decode cX7_firstWhite 85 = .ok (.invokevirtual 53, 3) := by decide +kernel
theorem dX7_firstWhite_88 : decode cX7_firstWhite 88 = .ok (.ifCond .eq 8, 3) := by decide +kernel
theorem dX7_firstWhite_91 : decode cX7_firstWhite 91 = .ok (.iload 8, 2) := by decide +kernel
theorem dX7_firstWhite_93 : decode cX7_firstWhite 93 = .ok (.iconst 1, 1) := by decide +kernel
theorem dX7_firstWhite_94 : decode cX7_firstWhite 94 = .ok (.iadd, 1) := by decide +kernel
theorem dX7_firstWhite_95 : decode cX7_firstWhite 95 = .ok (.ireturn, 1) := by decide +kernel
theorem dX7_firstWhite_96 : decode cX7_firstWhite 96 = .ok (.aload_n 1, 1) := by decide +kernel
theorem dX7_firstWhite_97 : decode cX7_firstWhite 97 = .ok (.getfield 46, 3) := by decide +kernel
theorem dX7_firstWhite_100 : decode cX7_firstWhite 100 = .ok (.iload 8, 2) := by decide +kernel
theorem dX7_firstWhite_102 : decode cX7_firstWhite 102 = .ok (.iadd, 1) := by decide +kernel
theorem dX7_firstWhite_103 : decode cX7_firstWhite 103 = .ok (.iconst 1, 1) := by decide +kernel
theorem dX7_firstWhite_104 : decode cX7_firstWhite 104 = .ok (.iadd, 1) := by decide +kernel
theorem dX7_firstWhite_105 : decode cX7_firstWhite 105 = .ok (.iload 7, 2) := by decide +kernel
theorem dX7_firstWhite_107 : decode cX7_firstWhite 107 = .ok (.if_icmp .lt 5, 3) := by decide +kernel
theorem dX7_firstWhite_110 : decode cX7_firstWhite 110 = .ok (.iconst (-1), 1) := by decide +kernel
theorem dX7_firstWhite_111 : decode cX7_firstWhite 111 = .ok (.ireturn, 1) := by decide +kernel
theorem dX7_firstWhite_112 : decode cX7_firstWhite 112 = .ok (.iinc 8 1, 3) := by decide +kernel
theorem dX7_firstWhite_115 : decode cX7_firstWhite 115 = .ok (.goto (-86), 3) := by decide +kernel
theorem dX7_firstWhite_118 : decode cX7_firstWhite 118 = .ok (.iconst (-1), 1) := by decide +kernel
theorem dX7_firstWhite_119 : decode cX7_firstWhite 119 = .ok (.ireturn, 1) := by decide +kernel
theorem dX7_lastInTime_0 : decode cX7_lastInTime 0 = .ok (.aload_n 0, 1) := by decide +kernel
theorem dX7_lastInTime_1 : decode cX7_lastInTime 1 = .ok (.aload_n 1, 1) := by decide +kernel
theorem dX7_lastInTime_2 : decode cX7_lastInTime 2 = .ok (.iload_n 2, 1) := by decide +kernel
theorem dX7_lastInTime_3 : decode cX7_lastInTime 3 = .ok (.iload_n 3, 1) := by decide +kernel
theorem dX7_lastInTime_4 : decode cX7_lastInTime 4 = .ok (.iconst 0, 1) := by decide +kernel
theorem dX7_lastInTime_5 : decode cX7_lastInTime 5 = .ok (.iconst 0, 1) := by decide +kernel
theorem dX7_lastInTime_6 : decode cX7_lastInTime 6 = .ok (.invokevirtual 57, 3) := by decide +kernel
theorem dX7_lastInTime_9 : decode cX7_lastInTime 9 = .ok (.istore 4, 2) := by decide +kernel
theorem dX7_lastInTime_11 : decode cX7_lastInTime 11 = .ok (.iload 4, 2) := by decide +kernel
theorem dX7_lastInTime_13 : decode cX7_lastInTime 13 = .ok (.iconst (-1), 1) := by decide +kernel
theorem dX7_lastInTime_14 : decode cX7_lastInTime 14 = .ok (.if_icmp .ne 8, 3) := by decide +kernel
theorem dX7_lastInTime_17 : decode cX7_lastInTime 17 = .ok (.bipush 72, 2) := by decide +kernel
theorem dX7_lastInTime_19 : decode cX7_lastInTime 19 = .ok (.goto 5, 3) := by decide +kernel
theorem dX7_lastInTime_22 : decode cX7_lastInTime 22 = .ok (.iload 4, 2) := by decide +kernel
theorem dX7_lastInTime_24 : decode cX7_lastInTime 24 = .ok (.iconst 1, 1) := by decide +kernel
theorem dX7_lastInTime_25 : decode cX7_lastInTime 25 = .ok (.isub, 1) := by decide +kernel
theorem dX7_lastInTime_26 : decode cX7_lastInTime 26 = .ok (.ireturn, 1) := by decide +kernel
theorem dX7_snowBehind_0 : decode cX7_snowBehind 0 = .ok (.aload_n 0, 1) := by decide +kernel
theorem dX7_snowBehind_1 : decode cX7_snowBehind 1 = .ok (.getfield 12, 3) := by decide +kernel
theorem dX7_snowBehind_4 : decode cX7_snowBehind 4 = .ok (.aload_n 1, 1) := by decide +kernel
theorem dX7_snowBehind_5 : decode cX7_snowBehind 5 = .ok (.getfield 30, 3) := by decide +kernel
theorem dX7_snowBehind_8 : decode cX7_snowBehind 8 = .ok (.iload_n 2, 1) := by decide +kernel
theorem dX7_snowBehind_9 : decode cX7_snowBehind 9 = .ok (.aaload, 1) := by decide +kernel
theorem dX7_snowBehind_10 : decode cX7_snowBehind 10 = .ok (.invokevirtual 34, 3) := by decide +kernel
theorem dX7_snowBehind_13 : decode cX7_snowBehind 13 = .ok (.iconst 0, 1) := by decide +kernel
theorem dX7_snowBehind_14 : decode cX7_snowBehind 14 = .ok (.istore 5, 2) := by decide +kernel
theorem dX7_snowBehind_16 : decode cX7_snowBehind 16 = .ok (.iload 5, 2) := by decide +kernel
theorem dX7_snowBehind_18 : decode cX7_snowBehind 18 = .ok (.iload 4, 2) := by decide +kernel
theorem dX7_snowBehind_20 : decode cX7_snowBehind 20 = .ok (.if_icmp .ge 37, 3) := by decide +kernel
theorem dX7_snowBehind_23 : decode cX7_snowBehind 23 = .ok (.aload_n 0, 1) := by decide +kernel
theorem dX7_snowBehind_24 : decode cX7_snowBehind 24 = .ok (.getfield 12, 3) := by decide +kernel
theorem dX7_snowBehind_27 : decode cX7_snowBehind 27 = .ok (.aload_n 1, 1) := by decide +kernel
theorem dX7_snowBehind_28 : decode cX7_snowBehind 28 = .ok (.getfield 18, 3) := by decide +kernel
theorem dX7_snowBehind_31 : decode cX7_snowBehind 31 = .ok (.getfield 42, 3) := by decide +kernel
theorem dX7_snowBehind_34 : decode cX7_snowBehind 34 = .ok (.iload_n 2, 1) := by decide +kernel
theorem dX7_snowBehind_35 : decode cX7_snowBehind 35 = .ok (.aaload, 1) := by decide +kernel
theorem dX7_snowBehind_36 : decode cX7_snowBehind 36 = .ok (.aload_n 1, 1) := by decide +kernel
theorem dX7_snowBehind_37 : decode cX7_snowBehind 37 = .ok (.getfield 18, 3) := by decide +kernel
theorem dX7_snowBehind_40 : decode cX7_snowBehind 40 = .ok (.aload_n 1, 1) := by decide +kernel
theorem dX7_snowBehind_41 : decode cX7_snowBehind 41 = .ok (.getfield 46, 3) := by decide +kernel
theorem dX7_snowBehind_44 : decode cX7_snowBehind 44 = .ok (.iload 5, 2) := by decide +kernel
theorem dX7_snowBehind_46 : decode cX7_snowBehind 46 = .ok (.iadd, 1) := by decide +kernel
theorem dX7_snowBehind_47 : decode cX7_snowBehind 47 = .ok (.iload_n 3, 1) := by decide +kernel
theorem dX7_snowBehind_48 : decode cX7_snowBehind 48 = .ok (.invokevirtual 49, 3) := by decide +kernel
theorem dX7_snowBehind_51 : decode cX7_snowBehind 51 = .ok (.iinc 5 1, 3) := by decide +kernel
theorem dX7_snowBehind_54 : decode cX7_snowBehind 54 = .ok (.goto (-38), 3) := by decide +kernel
theorem dX7_snowBehind_57 : decode cX7_snowBehind 57 = .ok (.aload_n 0, 1) := by decide +kernel
theorem dX7_snowBehind_58 : decode cX7_snowBehind 58 = .ok (.getfield 12, 3) := by decide +kernel
theorem dX7_snowBehind_61 : decode cX7_snowBehind 61 = .ok (.getfield 61, 3) := by decide +kernel
theorem dX7_snowBehind_64 : decode cX7_snowBehind 64 = .ok (.ireturn, 1) := by decide +kernel
theorem dX7_markBlocked_0 : decode cX7_markBlocked 0 = .ok (.aload_n 1, 1) := by decide +kernel
theorem dX7_markBlocked_1 : decode cX7_markBlocked 1 = .ok (.getfield 18, 3) := by decide +kernel
theorem dX7_markBlocked_4 : decode cX7_markBlocked 4 = .ok (.getfield 42, 3) := by decide +kernel
theorem dX7_markBlocked_7 : decode cX7_markBlocked 7 = .ok (.iload_n 2, 1) := by decide +kernel
theorem dX7_markBlocked_8 : decode cX7_markBlocked 8 = .ok (.aaload, 1) := by decide +kernel
theorem dX7_markBlocked_9 : decode cX7_markBlocked 9 = .ok (.astore 4, 2) := by decide +kernel
theorem dX7_markBlocked_11 : decode cX7_markBlocked 11 = .ok (.aload_n 0, 1) := by decide +kernel
theorem dX7_markBlocked_12 : decode cX7_markBlocked 12 = .ok (.getfield 12, 3) := by decide +kernel
theorem dX7_markBlocked_15 : decode cX7_markBlocked 15 = .ok (.aload_n 1, 1) := by decide +kernel
theorem dX7_markBlocked_16 : decode cX7_markBlocked 16 = .ok (.getfield 30, 3) := by decide +kernel
theorem dX7_markBlocked_19 : decode cX7_markBlocked 19 = .ok (.iload_n 2, 1) := by decide +kernel
theorem dX7_markBlocked_20 : decode cX7_markBlocked 20 = .ok (.aaload, 1) := by decide +kernel
theorem dX7_markBlocked_21 : decode cX7_markBlocked 21 = .ok (.invokevirtual 34, 3) := by decide +kernel
theorem dX7_markBlocked_24 : decode cX7_markBlocked 24 = .ok (.iconst 0, 1) := by decide +kernel
theorem dX7_markBlocked_25 : decode cX7_markBlocked 25 = .ok (.istore 5, 2) := by decide +kernel
theorem dX7_markBlocked_27 : decode cX7_markBlocked 27 = .ok (.iload 5, 2) := by decide +kernel
theorem dX7_markBlocked_29 : decode cX7_markBlocked 29 = .ok (.bipush 72, 2) := by decide +kernel
theorem dX7_markBlocked_31 : decode cX7_markBlocked 31 = .ok (.if_icmp .gt 59, 3) := by decide +kernel
theorem dX7_markBlocked_34 : decode cX7_markBlocked 34 = .ok (.iload 5, 2) := by decide +kernel
theorem dX7_markBlocked_36 : decode cX7_markBlocked 36 = .ok (.aload_n 3, 1) := by decide +kernel
theorem dX7_markBlocked_37 : decode cX7_markBlocked 37 = .ok (.arraylength, 1) := by decide +kernel
theorem dX7_markBlocked_38 : decode cX7_markBlocked 38 = .ok (.if_icmp .ge 52, 3) := by decide +kernel
theorem dX7_markBlocked_41 : decode cX7_markBlocked 41 = .ok (.aload_n 0, 1) := by decide +kernel
theorem dX7_markBlocked_42 : decode cX7_markBlocked 42 = .ok (.getfield 12, 3) := by decide +kernel
theorem dX7_markBlocked_45 : decode cX7_markBlocked 45 = .ok (.aload 4, 2) := by decide +kernel
theorem dX7_markBlocked_47 : decode cX7_markBlocked 47 = .ok (.invokevirtual 64, 3) := by decide +kernel
theorem dX7_markBlocked_50 : decode cX7_markBlocked 50 = .ok (.ifCond .eq 13, 3) := by decide +kernel
theorem dX7_markBlocked_53 : decode cX7_markBlocked 53 = .ok (.aload_n 3, 1) := by decide +kernel
theorem dX7_markBlocked_54 : decode cX7_markBlocked 54 = .ok (.iload 5, 2) := by decide +kernel
theorem dX7_markBlocked_56 : decode cX7_markBlocked 56 = .ok (.dup2, 1) := by decide +kernel
theorem dX7_markBlocked_57 : decode cX7_markBlocked 57 = .ok (.iaload, 1) := by decide +kernel
theorem dX7_markBlocked_58 : decode cX7_markBlocked 58 = .ok (.iconst 1, 1) := by decide +kernel
theorem dX7_markBlocked_59 : decode cX7_markBlocked 59 = .ok (.iload_n 2, 1) := by decide +kernel
theorem dX7_markBlocked_60 : decode cX7_markBlocked 60 = .ok (.ishl, 1) := by decide +kernel
theorem dX7_markBlocked_61 : decode cX7_markBlocked 61 = .ok (.ior, 1) := by decide +kernel
theorem dX7_markBlocked_62 : decode cX7_markBlocked 62 = .ok (.iastore, 1) := by decide +kernel
theorem dX7_markBlocked_63 : decode cX7_markBlocked 63 = .ok (.aload_n 0, 1) := by decide +kernel
theorem dX7_markBlocked_64 : decode cX7_markBlocked 64 = .ok (.getfield 12, 3) := by decide +kernel
theorem dX7_markBlocked_67 : decode cX7_markBlocked 67 = .ok (.aload 4, 2) := by decide +kernel
theorem dX7_markBlocked_69 : decode cX7_markBlocked 69 = .ok (.aload_n 1, 1) := by decide +kernel
theorem dX7_markBlocked_70 : decode cX7_markBlocked 70 = .ok (.getfield 18, 3) := by decide +kernel
theorem dX7_markBlocked_73 : decode cX7_markBlocked 73 = .ok (.aload_n 1, 1) := by decide +kernel
theorem dX7_markBlocked_74 : decode cX7_markBlocked 74 = .ok (.getfield 46, 3) := by decide +kernel
theorem dX7_markBlocked_77 : decode cX7_markBlocked 77 = .ok (.iload 5, 2) := by decide +kernel
theorem dX7_markBlocked_79 : decode cX7_markBlocked 79 = .ok (.iadd, 1) := by decide +kernel
theorem dX7_markBlocked_80 : decode cX7_markBlocked 80 = .ok (.iconst 0, 1) := by decide +kernel
theorem dX7_markBlocked_81 : decode cX7_markBlocked 81 = .ok (.invokevirtual 49, 3) := by decide +kernel
theorem dX7_markBlocked_84 : decode cX7_markBlocked 84 = .ok (.iinc 5 1, 3) := by decide +kernel
theorem dX7_markBlocked_87 : decode cX7_markBlocked 87 = .ok (.goto (-60), 3) := by decide +kernel
theorem dX7_markBlocked_90 : decode cX7_markBlocked 90 = .ok (.return_, 1) := by decide +kernel
theorem dX8_init_0 : decode cX8_init 0 = .ok (.aload_n 0, 1) := by decide +kernel
theorem dX8_init_1 : decode cX8_init 1 = .ok (.invokespecial 3, 3) := by decide +kernel
theorem dX8_init_4 : decode cX8_init 4 = .ok (.aload_n 0, 1) := by decide +kernel
theorem dX8_init_5 : decode cX8_init 5 = .ok (.new 9, 3) := by decide +kernel
theorem dX8_init_8 : decode cX8_init 8 = .ok (.dup, 1) := by decide +kernel
theorem dX8_init_9 : decode cX8_init 9 = .ok (.invokespecial 11, 3) := by decide +kernel
theorem dX8_init_12 : decode cX8_init 12 = .ok (.putfield 12, 3) := by decide +kernel
theorem dX8_init_15 : decode cX8_init 15 = .ok (.aload_n 0, 1) := by decide +kernel
theorem dX8_init_16 : decode cX8_init 16 = .ok (.iconst 0, 1) := by decide +kernel
theorem dX8_init_17 : decode cX8_init 17 = .ok (.putfield 18, 3) := by decide +kernel
theorem dX8_init_20 : decode cX8_init 20 = .ok (.aload_n 0, 1) := by decide +kernel
theorem dX8_init_21 : decode cX8_init 21 = .ok (.iconst (-1), 1) := by decide +kernel
theorem dX8_init_22 : decode cX8_init 22 = .ok (.putfield 22, 3) := by decide +kernel
theorem dX8_init_25 : decode cX8_init 25 = .ok (.aload_n 0, 1) := by decide +kernel
theorem dX8_init_26 : decode cX8_init 26 = .ok (.iconst 0, 1) := by decide +kernel
theorem dX8_init_27 : decode cX8_init 27 = .ok (.putfield 25, 3) := by decide +kernel
theorem dX8_init_30 : decode cX8_init 30 = .ok (.aload_n 0, 1) := by decide +kernel
theorem dX8_init_31 : decode cX8_init 31 = .ok (.aload_n 1, 1) := by decide +kernel
theorem dX8_init_32 : decode cX8_init 32 = .ok (.putfield 28, 3) := by decide +kernel
theorem dX8_init_35 : decode cX8_init 35 = .ok (.return_, 1) := by decide +kernel
theorem dX8_parse_0 : decode cX8_parse 0 = .ok (.aload_n 0, 1) := by decide +kernel
theorem dX8_parse_1 : decode cX8_parse 1 = .ok (.iconst 0, 1) := by decide +kernel
theorem dX8_parse_2 : decode cX8_parse 2 = .ok (.putfield 18, 3) := by decide +kernel
theorem dX8_parse_5 : decode cX8_parse 5 = .ok (.aload_n 0, 1) := by decide +kernel
theorem dX8_parse_6 : decode cX8_parse 6 = .ok (.iconst (-1), 1) := by decide +kernel
theorem dX8_parse_7 : decode cX8_parse 7 = .ok (.putfield 22, 3) := by decide +kernel
theorem dX8_parse_10 : decode cX8_parse 10 = .ok (.aload_n 0, 1) := by decide +kernel
theorem dX8_parse_11 : decode cX8_parse 11 = .ok (.aload_n 3, 1) := by decide +kernel
theorem dX8_parse_12 : decode cX8_parse 12 = .ok (.putfield 28, 3) := by decide +kernel
theorem dX8_parse_15 : decode cX8_parse 15 = .ok (.aload_n 0, 1) := by decide +kernel
theorem dX8_parse_16 : decode cX8_parse 16 = .ok (.getfield 28, 3) := by decide +kernel
theorem dX8_parse_19 : decode cX8_parse 19 = .ok (.invokevirtual 32, 3) := by decide +kernel
theorem dX8_parse_22 : decode cX8_parse 22 = .ok (.aload_n 0, 1) := by decide +kernel
theorem dX8_parse_23 : decode cX8_parse 23 = .ok (.getfield 12, 3) := by decide +kernel
theorem dX8_parse_26 : decode cX8_parse 26 = .ok (.aload_n 1, 1) := by decide +kernel
theorem dX8_parse_27 : decode cX8_parse 27 = .ok (.iload_n 2, 1) := by decide +kernel
theorem dX8_parse_28 : decode cX8_parse 28 = .ok (.invokevirtual 37, 3) := by decide +kernel
theorem dX8_parse_31 : decode cX8_parse 31 = .ok (.iconst 0, 1) := by decide +kernel
theorem dX8_parse_32 : decode cX8_parse 32 = .ok (.istore 4, 2) := by decide +kernel
theorem dX8_parse_34 : decode cX8_parse 34 = .ok (.iload 4, 2) := by decide +kernel
theorem dX8_parse_36 : decode cX8_parse 36 = .ok (.iload_n 2, 1) := by decide +kernel
theorem dX8_parse_37 : decode cX8_parse 37 = .ok (.if_icmp .gt 131, 3) := by decide +kernel
theorem dX8_parse_40 : decode cX8_parse 40 = .ok (.aload_n 0, 1) := by decide +kernel
theorem dX8_parse_41 : decode cX8_parse 41 = .ok (.getfield 18, 3) := by decide +kernel
theorem dX8_parse_44 : decode cX8_parse 44 = .ok (.ifCond .ne 124, 3) := by decide +kernel
theorem dX8_parse_47 : decode cX8_parse 47 = .ok (.aload_n 0, 1) := by decide +kernel
theorem dX8_parse_48 : decode cX8_parse 48 = .ok (.getfield 12, 3) := by decide +kernel
theorem dX8_parse_51 : decode cX8_parse 51 = .ok (.getfield 41, 3) := by decide +kernel
theorem dX8_parse_54 : decode cX8_parse 54 = .ok (.ifCond .eq 114, 3) := by decide +kernel
theorem dX8_parse_57 : decode cX8_parse 57 = .ok (.aload_n 0, 1) := by decide +kernel
theorem dX8_parse_58 : decode cX8_parse 58 = .ok (.getfield 12, 3) := by decide +kernel
theorem dX8_parse_61 : decode cX8_parse 61 = .ok (.getfield 44, 3) := by decide +kernel
theorem dX8_parse_64 : decode cX8_parse 64 = .ok (.tableswitch 90 0 7 #[48, 55, 62, 69, 76, 76, 76, 76], 48) := by decide +kernel
theorem dX8_parse_112 : decode cX8_parse 112 = .ok (.aload_n 0, 1) := by decide +kernel
theorem dX8_parse_113 : decode cX8_parse 113 = .ok (.invokevirtual 47, 3) := by decide +kernel
theorem dX8_parse_116 : decode cX8_parse 116 = .ok (.goto 42, 3) := by decide +kernel
theorem dX8_parse_119 : decode cX8_parse 119 = .ok (.aload_n 0, 1) := by decide +kernel
theorem dX8_parse_120 : decode cX8_parse 120 = .ok (.invokevirtual 50, 3) := by decide +kernel
theorem dX8_parse_123 : decode cX8_parse 123 = .ok (.goto 35, 3) := by decide +kernel
theorem dX8_parse_126 : decode cX8_parse 126 = .ok (.aload_n 0, 1) := by decide +kernel
theorem dX8_parse_127 : decode cX8_parse 127 = .ok (.invokevirtual 53, 3) := by decide +kernel
theorem dX8_parse_130 : decode cX8_parse 130 = .ok (.goto 28, 3) := by decide +kernel
theorem dX8_parse_133 : decode cX8_parse 133 = .ok (.aload_n 0, 1) := by decide +kernel
theorem dX8_parse_134 : decode cX8_parse 134 = .ok (.invokevirtual 56, 3) := by decide +kernel
theorem dX8_parse_137 : decode cX8_parse 137 = .ok (.goto 21, 3) := by decide +kernel
theorem dX8_parse_140 : decode cX8_parse 140 = .ok (.aload_n 0, 1) := by decide +kernel
theorem dX8_parse_141 : decode cX8_parse 141 = .ok (.aload_n 0, 1) := by decide +kernel
theorem dX8_parse_142 : decode cX8_parse 142 = .ok (.getfield 12, 3) := by decide +kernel
theorem dX8_parse_145 : decode cX8_parse 145 = .ok (.getfield 44, 3) := by decide +kernel
theorem dX8_parse_148 : decode cX8_parse 148 = .ok (.invokevirtual 59, 3) := by decide +kernel
theorem dX8_parse_151 : decode cX8_parse 151 = .ok (.goto 7, 3) := by decide +kernel
theorem dX8_parse_154 : decode cX8_parse 154 = .ok (.aload_n 0, 1) := by decide +kernel
theorem dX8_parse_155 : decode cX8_parse 155 = .ok (.invokevirtual 63, 3) := by decide +kernel
theorem dX8_parse_158 : decode cX8_parse 158 = .ok (.aload_n 0, 1) := by decide +kernel
theorem dX8_parse_159 : decode cX8_parse 159 = .ok (.invokevirtual 66, 3) := by decide +kernel
theorem dX8_parse_162 : decode cX8_parse 162 = .ok (.iinc 4 1, 3) := by decide +kernel
theorem dX8_parse_165 : decode cX8_parse 165 = .ok (.goto (-131), 3) := by decide +kernel
theorem dX8_parse_168 : decode cX8_parse 168 = .ok (.aload_n 0, 1) := by decide +kernel
theorem dX8_parse_169 : decode cX8_parse 169 = .ok (.getfield 18, 3) := by decide +kernel
theorem dX8_parse_172 : decode cX8_parse 172 = .ok (.ifCond .ne 7, 3) := by decide +kernel
theorem dX8_parse_175 : decode cX8_parse 175 = .ok (.iconst 1, 1) := by decide +kernel
theorem dX8_parse_176 : decode cX8_parse 176 = .ok (.goto 4, 3) := by decide +kernel
theorem dX8_parse_179 : decode cX8_parse 179 = .ok (.iconst 0, 1) := by decide +kernel
theorem dX8_parse_180 : decode cX8_parse 180 = .ok (.ireturn, 1) := by decide +kernel
theorem dX8_parseYard_0 : decode cX8_parseYard 0 = .ok (.aload_n 0, 1) := by decide +kernel
theorem dX8_parseYard_1 : decode cX8_parseYard 1 = .ok (.getfield 28, 3) := by decide +kernel
theorem dX8_parseYard_4 : decode cX8_parseYard 4 = .ok (.getfield 69, 3) := by decide +kernel
theorem dX8_parseYard_7 : decode cX8_parseYard 7 = .ok (.bipush 8, 2) := by decide +kernel
theorem dX8_parseYard_9 : decode cX8_parseYard 9 = .ok (.if_icmp .lt 8, 3) := by decide +kernel
theorem dX8_parseYard_12 : decode cX8_parseYard 12 = .ok (.aload_n 0, 1) := by decide +kernel
theorem dX8_parseYard_13 : decode cX8_parseYard 13 = .ok (.invokevirtual 63, 3) := by decide +kernel
theorem dX8_parseYard_16 : decode cX8_parseYard 16 = .ok (.return_, 1) := by decide +kernel
theorem dX8_parseYard_17 : decode cX8_parseYard 17 = .ok (.aload_n 0, 1) := by decide +kernel
theorem dX8_parseYard_18 : decode cX8_parseYard 18 = .ok (.getfield 28, 3) := by decide +kernel
theorem dX8_parseYard_21 : decode cX8_parseYard 21 = .ok (.getfield 72, 3) := by decide +kernel
theorem dX8_parseYard_24 : decode cX8_parseYard 24 = .ok (.aload_n 0, 1) := by decide +kernel
theorem dX8_parseYard_25 : decode cX8_parseYard 25 = .ok (.getfield 28, 3) := by decide +kernel
theorem dX8_parseYard_28 : decode cX8_parseYard 28 = .ok (.getfield 69, 3) := by decide +kernel
theorem dX8_parseYard_31 : decode cX8_parseYard 31 = .ok (.aaload, 1) := by decide +kernel
theorem dX8_parseYard_32 : decode cX8_parseYard 32 = .ok (.astore_n 1, 1) := by decide +kernel
theorem dX8_parseYard_33 : decode cX8_parseYard 33 = .ok (.aload_n 0, 1) := by decide +kernel
theorem dX8_parseYard_34 : decode cX8_parseYard 34 = .ok (.getfield 12, 3) := by decide +kernel
theorem dX8_parseYard_37 : decode cX8_parseYard 37 = .ok (.invokevirtual 76, 3) := by decide +kernel
theorem dX8_parseYard_40 : decode cX8_parseYard 40 = .ok (.aload_n 0, 1) := by decide +kernel
theorem dX8_parseYard_41 : decode cX8_parseYard 41 = .ok (.getfield 12, 3) := by decide +kernel
theorem dX8_parseYard_44 : decode cX8_parseYard 44 = .ok (.getfield 79, 3) := by decide +kernel
theorem dX8_parseYard_47 : decode cX8_parseYard 47 = .ok (.istore_n 2, 1) := by decide +kernel
theorem dX8_parseYard_48 : decode cX8_parseYard 48 = .ok (.aload_n 1, 1) := by decide +kernel
theorem dX8_parseYard_49 : decode cX8_parseYard 49 = .ok (.aload_n 0, 1) := by decide +kernel
theorem dX8_parseYard_50 : decode cX8_parseYard 50 = .ok (.invokevirtual 82, 3) := by decide +kernel
theorem dX8_parseYard_53 : decode cX8_parseYard 53 = .ok (.putfield 86, 3) := by decide +kernel
theorem dX8_parseYard_56 : decode cX8_parseYard 56 = .ok (.aload_n 0, 1) := by decide +kernel
theorem dX8_parseYard_57 : decode cX8_parseYard 57 = .ok (.getfield 28, 3) := by decide +kernel
theorem dX8_parseYard_60 : decode cX8_parseYard 60 = .ok (.aload_n 1, 1) := by decide +kernel
theorem dX8_parseYard_61 : decode cX8_parseYard 61 = .ok (.getfield 86, 3) := by decide +kernel
theorem dX8_parseYard_64 : decode cX8_parseYard 64 = .ok (.invokevirtual 92, 3) := by decide +kernel
theorem dX8_parseYard_67 : decode cX8_parseYard 67 = .ok (.iconst (-1), 1) := by decide +kernel
theorem dX8_parseYard_68 : decode cX8_parseYard 68 = .ok (.if_icmp .eq 9, 3) := by decide +kernel
theorem dX8_parseYard_71 : decode cX8_parseYard 71 = .ok (.aload_n 0, 1) := by decide +kernel
theorem dX8_parseYard_72 : decode cX8_parseYard 72 = .ok (.iconst 3, 1) := by decide +kernel
theorem dX8_parseYard_73 : decode cX8_parseYard 73 = .ok (.iload_n 2, 1) := by decide +kernel
theorem dX8_parseYard_74 : decode cX8_parseYard 74 = .ok (.invokevirtual 96, 3) := by decide +kernel
theorem dX8_parseYard_77 : decode cX8_parseYard 77 = .ok (.aload_n 1, 1) := by decide +kernel
theorem dX8_parseYard_78 : decode cX8_parseYard 78 = .ok (.aload_n 0, 1) := by decide +kernel
theorem dX8_parseYard_79 : decode cX8_parseYard 79 = .ok (.invokevirtual 100, 3) := by decide +kernel
theorem dX8_parseYard_82 : decode cX8_parseYard 82 = .ok (.putfield 104, 3) := by decide +kernel
theorem dX8_parseYard_85 : decode cX8_parseYard 85 = .ok (.aload_n 0, 1) := by decide +kernel
theorem dX8_parseYard_86 : decode cX8_parseYard 86 = .ok (.bipush 12, 2) := by decide +kernel
theorem dX8_parseYard_88 : decode cX8_parseYard 88 = .ok (.invokevirtual 107, 3) := by decide +kernel
theorem dX8_parseYard_91 : decode cX8_parseYard 91 = .ok (.aload_n 1, 1) := by decide +kernel
theorem dX8_parseYard_92 : decode cX8_parseYard 92 = .ok (.aload_n 0, 1) := by decide +kernel
theorem dX8_parseYard_93 : decode cX8_parseYard 93 = .ok (.iconst 0, 1) := by decide +kernel
theorem dX8_parseYard_94 : decode cX8_parseYard 94 = .ok (.bipush 99, 2) := by decide +kernel
theorem dX8_parseYard_96 : decode cX8_parseYard 96 = .ok (.invokevirtual 110, 3) := by decide +kernel
theorem dX8_parseYard_99 : decode cX8_parseYard 99 = .ok (.putfield 114, 3) := by decide +kernel
theorem dX8_parseYard_102 : decode cX8_parseYard 102 = .ok (.aload_n 0, 1) := by decide +kernel
theorem dX8_parseYard_103 : decode cX8_parseYard 103 = .ok (.bipush 13, 2) := by decide +kernel
theorem dX8_parseYard_105 : decode cX8_parseYard 105 = .ok (.invokevirtual 107, 3) := by decide +kernel
theorem dX8_parseYard_108 : decode cX8_parseYard 108 = .ok (.aload_n 1, 1) := by decide +kernel
theorem dX8_parseYard_109 : decode cX8_parseYard 109 = .ok (.aload_n 0, 1) := by decide +kernel
theorem dX8_parseYard_110 : decode cX8_parseYard 110 = .ok (.iconst 0, 1) := by decide +kernel
theorem dX8_parseYard_111 : decode cX8_parseYard 111 = .ok (.bipush 99, 2) := by decide +kernel
theorem dX8_parseYard_113 : decode cX8_parseYard 113 = .ok (.invokevirtual 110, 3) := by decide +kernel
theorem dX8_parseYard_116 : decode cX8_parseYard 116 = .ok (.putfield 117, 3) := by decide +kernel
theorem dX8_parseYard_119 : decode cX8_parseYard 119 = .ok (.aload_n 0, 1) := by decide +kernel
theorem dX8_parseYard_120 : decode cX8_parseYard 120 = .ok (.bipush 14, 2) := by decide +kernel
theorem dX8_parseYard_122 : decode cX8_parseYard 122 = .ok (.invokevirtual 107, 3) := by decide +kernel
theorem dX8_parseYard_125 : decode cX8_parseYard 125 = .ok (.aload_n 0, 1) := by decide +kernel
theorem dX8_parseYard_126 : decode cX8_parseYard 126 = .ok (.aload_n 1, 1) := by decide +kernel
theorem dX8_parseYard_127 : decode cX8_parseYard 127 = .ok (.invokevirtual 120, 3) := by decide +kernel
theorem dX8_parseYard_130 : decode cX8_parseYard 130 = .ok (.aload_n 0, 1) := by decide +kernel
theorem dX8_parseYard_131 : decode cX8_parseYard 131 = .ok (.getfield 28, 3) := by decide +kernel
theorem dX8_parseYard_134 : decode cX8_parseYard 134 = .ok (.dup, 1) := by decide +kernel
theorem dX8_parseYard_135 : decode cX8_parseYard 135 = .ok (.getfield 69, 3) := by decide +kernel
theorem dX8_parseYard_138 : decode cX8_parseYard 138 = .ok (.iconst 1, 1) := by decide +kernel
theorem dX8_parseYard_139 : decode cX8_parseYard 139 = .ok (.iadd, 1) := by decide +kernel
theorem dX8_parseYard_140 : decode cX8_parseYard 140 = .ok (.putfield 69, 3) := by decide +kernel
theorem dX8_parseYard_143 : decode cX8_parseYard 143 = .ok (.return_, 1) := by decide +kernel
theorem dX8_parseLayers_0 : decode cX8_parseLayers 0 = .ok (.aload_n 1, 1) := by decide +kernel
theorem dX8_parseLayers_1 : decode cX8_parseLayers 1 = .ok (.getfield 124, 3) := by decide +kernel
theorem dX8_parseLayers_4 : decode cX8_parseLayers 4 = .ok (.iconst 0, 1) := by decide +kernel
theorem dX8_parseLayers_5 : decode cX8_parseLayers 5 = .ok (.aload_n 0, 1) := by decide +kernel
theorem dX8_parseLayers_6 : decode cX8_parseLayers 6 = .ok (.sipush (-200), 3) := by decide +kernel
theorem dX8_parseLayers_9 : decode cX8_parseLayers 9 = .ok (.sipush 200, 3) := by decide +kernel
theorem dX8_parseLayers_12 : decode cX8_parseLayers 12 = .ok (.invokevirtual 128, 3) := by decide +kernel
theorem dX8_parseLayers_15 : decode cX8_parseLayers 15 = .ok (.iastore, 1) := by decide +kernel
theorem dX8_parseLayers_16 : decode cX8_parseLayers 16 = .ok (.aload_n 1, 1) := by decide +kernel
theorem dX8_parseLayers_17 : decode cX8_parseLayers 17 = .ok (.iconst 1, 1) := by decide +kernel
theorem dX8_parseLayers_18 : decode cX8_parseLayers 18 = .ok (.putfield 131, 3) := by decide +kernel
theorem dX8_parseLayers_21 : decode cX8_parseLayers 21 = .ok (.iconst 1, 1) := by decide +kernel
theorem dX8_parseLayers_22 : decode cX8_parseLayers 22 = .ok (.istore_n 2, 1) := by decide +kernel
theorem dX8_parseLayers_23 : decode cX8_parseLayers 23 = .ok (.iload_n 2, 1) := by decide +kernel
theorem dX8_parseLayers_24 : decode cX8_parseLayers 24 = .ok (.iconst 5, 1) := by decide +kernel
theorem dX8_parseLayers_25 : decode cX8_parseLayers 25 = .ok (.if_icmp .ge 42, 3) := by decide +kernel
theorem dX8_parseLayers_28 : decode cX8_parseLayers 28 = .ok (.aload_n 0, 1) := by decide +kernel
theorem dX8_parseLayers_29 : decode cX8_parseLayers 29 = .ok (.invokevirtual 134, 3) := by decide +kernel
theorem dX8_parseLayers_32 : decode cX8_parseLayers 32 = .ok (.ifCond .eq 35, 3) := by decide +kernel
theorem dX8_parseLayers_35 : decode cX8_parseLayers 35 = .ok (.aload_n 1, 1) := by decide +kernel
theorem dX8_parseLayers_36 : decode cX8_parseLayers 36 = .ok (.getfield 124, 3) := by decide +kernel
theorem dX8_parseLayers_39 : decode cX8_parseLayers 39 = .ok (.iload_n 2, 1) := by decide +kernel
theorem dX8_parseLayers_40 : decode cX8_parseLayers 40 = .ok (.aload_n 0, 1) := by decide +kernel
theorem dX8_parseLayers_41 : decode cX8_parseLayers 41 = .ok (.sipush (-200), 3) := by decide +kernel
theorem dX8_parseLayers_44 : decode cX8_parseLayers 44 = .ok (.sipush 200, 3) := by decide +kernel
theorem dX8_parseLayers_47 : decode cX8_parseLayers 47 = .ok (.invokevirtual 128, 3) := by decide +kernel
theorem dX8_parseLayers_50 : decode cX8_parseLayers 50 = .ok (.iastore, 1) := by decide +kernel
theorem dX8_parseLayers_51 : decode cX8_parseLayers 51 = .ok (.aload_n 1, 1) := by decide +kernel
theorem dX8_parseLayers_52 : decode cX8_parseLayers 52 = .ok (.dup, 1) := by decide +kernel
theorem dX8_parseLayers_53 : decode cX8_parseLayers 53 = .ok (.getfield 131, 3) := by decide +kernel
theorem dX8_parseLayers_56 : decode cX8_parseLayers 56 = .ok (.iconst 1, 1) := by decide +kernel
theorem dX8_parseLayers_57 : decode cX8_parseLayers 57 = .ok (.iadd, 1) := by decide +kernel
theorem dX8_parseLayers_58 : decode cX8_parseLayers 58 = .ok (.putfield 131, 3) := by decide +kernel
theorem dX8_parseLayers_61 : decode cX8_parseLayers 61 = .ok (.iinc 2 1, 3) := by decide +kernel
theorem dX8_parseLayers_64 : decode cX8_parseLayers 64 = .ok (.goto (-41), 3) := by decide +kernel
theorem dX8_parseLayers_67 : decode cX8_parseLayers 67 = .ok (.return_, 1) := by decide +kernel
theorem dX8_parseWay_0 : decode cX8_parseWay 0 = .ok (.aload_n 0, 1) := by decide +kernel
theorem dX8_parseWay_1 : decode cX8_parseWay 1 = .ok (.getfield 28, 3) := by decide +kernel
theorem dX8_parseWay_4 : decode cX8_parseWay 4 = .ok (.getfield 138, 3) := by decide +kernel
theorem dX8_parseWay_7 : decode cX8_parseWay 7 = .ok (.bipush 16, 2) := by decide +kernel
theorem dX8_parseWay_9 : decode cX8_parseWay 9 = .ok (.if_icmp .lt 8, 3) := by decide +kernel
theorem dX8_parseWay_12 : decode cX8_parseWay 12 = .ok (.aload_n 0, 1) := by decide +kernel
theorem dX8_parseWay_13 : decode cX8_parseWay 13 = .ok (.invokevirtual 63, 3) := by decide +kernel
theorem dX8_parseWay_16 : decode cX8_parseWay 16 = .ok (.return_, 1) := by decide +kernel
theorem dX8_parseWay_17 : decode cX8_parseWay 17 = .ok (.aload_n 0, 1) := by decide +kernel
theorem dX8_parseWay_18 : decode cX8_parseWay 18 = .ok (.getfield 12, 3) := by decide +kernel
theorem dX8_parseWay_21 : decode cX8_parseWay 21 = .ok (.invokevirtual 76, 3) := by decide +kernel
theorem dX8_parseWay_24 : decode cX8_parseWay 24 = .ok (.aload_n 0, 1) := by decide +kernel
theorem dX8_parseWay_25 : decode cX8_parseWay 25 = .ok (.invokevirtual 141, 3) := by decide +kernel
theorem dX8_parseWay_28 : decode cX8_parseWay 28 = .ok (.istore_n 1, 1) := by decide +kernel
theorem dX8_parseWay_29 : decode cX8_parseWay 29 = .ok (.aload_n 0, 1) := by decide +kernel
theorem dX8_parseWay_30 : decode cX8_parseWay 30 = .ok (.getfield 12, 3) := by decide +kernel
theorem dX8_parseWay_33 : decode cX8_parseWay 33 = .ok (.getfield 79, 3) := by decide +kernel
theorem dX8_parseWay_36 : decode cX8_parseWay 36 = .ok (.istore_n 2, 1) := by decide +kernel
theorem dX8_parseWay_37 : decode cX8_parseWay 37 = .ok (.aload_n 0, 1) := by decide +kernel
theorem dX8_parseWay_38 : decode cX8_parseWay 38 = .ok (.invokevirtual 141, 3) := by decide +kernel
theorem dX8_parseWay_41 : decode cX8_parseWay 41 = .ok (.istore_n 3, 1) := by decide +kernel
theorem dX8_parseWay_42 : decode cX8_parseWay 42 = .ok (.iload_n 1, 1) := by decide +kernel
theorem dX8_parseWay_43 : decode cX8_parseWay 43 = .ok (.iload_n 3, 1) := by decide +kernel
theorem dX8_parseWay_44 : decode cX8_parseWay 44 = .ok (.if_icmp .eq 15, 3) := by decide +kernel
theorem dX8_parseWay_47 : decode cX8_parseWay 47 = .ok (.aload_n 0, 1) := by decide +kernel
theorem dX8_parseWay_48 : decode cX8_parseWay 48 = .ok (.getfield 28, 3) := by decide +kernel
theorem dX8_parseWay_51 : decode cX8_parseWay 51 = .ok (.iload_n 1, 1) := by decide +kernel
theorem dX8_parseWay_52 : decode cX8_parseWay 52 = .ok (.iload_n 3, 1) := by decide +kernel
theorem dX8_parseWay_53 : decode cX8_parseWay 53 = .ok (.invokevirtual 144, 3) := by decide +kernel
theorem dX8_parseWay_56 : decode cX8_parseWay 56 = .ok (.ifCond .eq 9, 3) := by decide +kernel
theorem dX8_parseWay_59 : decode cX8_parseWay 59 = .ok (.aload_n 0, 1) := by decide +kernel
theorem dX8_parseWay_60 : decode cX8_parseWay 60 = .ok (.iconst 3, 1) := by decide +kernel
theorem dX8_parseWay_61 : decode cX8_parseWay 61 = .ok (.iload_n 2, 1) := by decide +kernel
theorem dX8_parseWay_62 : decode cX8_parseWay 62 = .ok (.invokevirtual 96, 3) := by decide +kernel
theorem dX8_parseWay_65 : decode cX8_parseWay 65 = .ok (.aload_n 0, 1) := by decide +kernel
theorem dX8_parseWay_66 : decode cX8_parseWay 66 = .ok (.bipush 15, 2) := by decide +kernel
theorem dX8_parseWay_68 : decode cX8_parseWay 68 = .ok (.invokevirtual 107, 3) := by decide +kernel
theorem dX8_parseWay_71 : decode cX8_parseWay 71 = .ok (.aload_n 0, 1) := by decide +kernel
theorem dX8_parseWay_72 : decode cX8_parseWay 72 = .ok (.getfield 28, 3) := by decide +kernel
theorem dX8_parseWay_75 : decode cX8_parseWay 75 = .ok (.getfield 148, 3) := by decide +kernel
theorem dX8_parseWay_78 : decode cX8_parseWay 78 = .ok (.aload_n 0, 1) := by decide +kernel
theorem dX8_parseWay_79 : decode cX8_parseWay 79 = .ok (.getfield 28, 3) := by decide +kernel
theorem dX8_parseWay_82 : decode cX8_parseWay 82 = .ok (.getfield 138, 3) := by decide +kernel
theorem dX8_parseWay_85 : decode cX8_parseWay 85 = .ok (.iload_n 1, 1) := by decide +kernel
theorem dX8_parseWay_86 : decode cX8_parseWay 86 = .ok (.iastore, 1) := by decide +kernel
theorem dX8_parseWay_87 : decode cX8_parseWay 87 = .ok (.aload_n 0, 1) := by decide +kernel
theorem dX8_parseWay_88 : decode cX8_parseWay 88 = .ok (.getfield 28, 3) := by decide +kernel
theorem dX8_parseWay_91 : decode cX8_parseWay 91 = .ok (.getfield 151, 3) := by decide +kernel
theorem dX8_parseWay_94 : decode cX8_parseWay 94 = .ok (.aload_n 0, 1) := by decide +kernel
theorem dX8_parseWay_95 : decode cX8_parseWay 95 = .ok (.getfield 28, 3) := by decide +kernel
theorem dX8_parseWay_98 : decode cX8_parseWay 98 = .ok (.getfield 138, 3) := by decide +kernel
theorem dX8_parseWay_101 : decode cX8_parseWay 101 = .ok (.iload_n 3, 1) := by decide +kernel
theorem dX8_parseWay_102 : decode cX8_parseWay 102 = .ok (.iastore, 1) := by decide +kernel
theorem dX8_parseWay_103 : decode cX8_parseWay 103 = .ok (.aload_n 0, 1) := by decide +kernel
theorem dX8_parseWay_104 : decode cX8_parseWay 104 = .ok (.getfield 28, 3) := by decide +kernel
theorem dX8_parseWay_107 : decode cX8_parseWay 107 = .ok (.getfield 154, 3) := by decide +kernel
theorem dX8_parseWay_110 : decode cX8_parseWay 110 = .ok (.aload_n 0, 1) := by decide +kernel
theorem dX8_parseWay_111 : decode cX8_parseWay 111 = .ok (.getfield 28, 3) := by decide +kernel
theorem dX8_parseWay_114 : decode cX8_parseWay 114 = .ok (.getfield 138, 3) := by decide +kernel
theorem dX8_parseWay_117 : decode cX8_parseWay 117 = .ok (.aload_n 0, 1) := by decide +kernel
theorem dX8_parseWay_118 : decode cX8_parseWay 118 = .ok (.iconst 1, 1) := by decide +kernel
theorem dX8_parseWay_119 : decode cX8_parseWay 119 = .ok (.bipush 60, 2) := by decide +kernel
theorem dX8_parseWay_121 : decode cX8_parseWay 121 = .ok (.invokevirtual 110, 3) := by decide +kernel
theorem dX8_parseWay_124 : decode cX8_parseWay 124 = .ok (.iastore, 1) := by decide +kernel
theorem dX8_parseWay_125 : decode cX8_parseWay 125 = .ok (.aload_n 0, 1) := by decide +kernel
theorem dX8_parseWay_126 : decode cX8_parseWay 126 = .ok (.getfield 28, 3) := by decide +kernel
theorem dX8_parseWay_129 : decode cX8_parseWay 129 = .ok (.dup, 1) := by decide +kernel
theorem dX8_parseWay_130 : decode cX8_parseWay 130 = .ok (.getfield 138, 3) := by decide +kernel
theorem dX8_parseWay_133 : decode cX8_parseWay 133 = .ok (.iconst 1, 1) := by decide +kernel
theorem dX8_parseWay_134 : decode cX8_parseWay 134 = .ok (.iadd, 1) := by decide +kernel
theorem dX8_parseWay_135 : decode cX8_parseWay 135 = .ok (.putfield 138, 3) := by decide +kernel
theorem dX8_parseWay_138 : decode cX8_parseWay 138 = .ok (.return_, 1) := by decide +kernel
theorem dX8_parseHour_0 : decode cX8_parseHour 0 = .ok (.aload_n 0, 1) := by decide +kernel
theorem dX8_parseHour_1 : decode cX8_parseHour 1 = .ok (.getfield 28, 3) := by decide +kernel
theorem dX8_parseHour_4 : decode cX8_parseHour 4 = .ok (.getfield 157, 3) := by decide +kernel
theorem dX8_parseHour_7 : decode cX8_parseHour 7 = .ok (.bipush 12, 2) := by decide +kernel
theorem dX8_parseHour_9 : decode cX8_parseHour 9 = .ok (.if_icmp .lt 8, 3) := by decide +kernel
theorem dX8_parseHour_12 : decode cX8_parseHour 12 = .ok (.aload_n 0, 1) := by decide +kernel
theorem dX8_parseHour_13 : decode cX8_parseHour 13 = .ok (.invokevirtual 63, 3) := by decide +kernel
theorem dX8_parseHour_16 : decode cX8_parseHour 16 = .ok (.return_, 1) := by decide +kernel
theorem dX8_parseHour_17 : decode cX8_parseHour 17 = .ok (.aload_n 0, 1) := by decide +kernel
theorem dX8_parseHour_18 : decode cX8_parseHour 18 = .ok (.getfield 12, 3) := by decide +kernel
theorem dX8_parseHour_21 : decode cX8_parseHour 21 = .ok (.invokevirtual 76, 3) := by decide +kernel
theorem dX8_parseHour_24 : decode cX8_parseHour 24 = .ok (.aload_n 0, 1) := by decide +kernel
theorem dX8_parseHour_25 : decode cX8_parseHour 25 = .ok (.bipush 16, 2) := by decide +kernel
theorem dX8_parseHour_27 : decode cX8_parseHour 27 = .ok (.invokevirtual 107, 3) := by decide +kernel
theorem dX8_parseHour_30 : decode cX8_parseHour 30 = .ok (.aload_n 0, 1) := by decide +kernel
theorem dX8_parseHour_31 : decode cX8_parseHour 31 = .ok (.getfield 28, 3) := by decide +kernel
theorem dX8_parseHour_34 : decode cX8_parseHour 34 = .ok (.getfield 160, 3) := by decide +kernel
theorem dX8_parseHour_37 : decode cX8_parseHour 37 = .ok (.aload_n 0, 1) := by decide +kernel
theorem dX8_parseHour_38 : decode cX8_parseHour 38 = .ok (.getfield 28, 3) := by decide +kernel
theorem dX8_parseHour_41 : decode cX8_parseHour 41 = .ok (.getfield 157, 3) := by decide +kernel
theorem dX8_parseHour_44 : decode cX8_parseHour 44 = .ok (.aload_n 0, 1) := by decide +kernel
theorem dX8_parseHour_45 : decode cX8_parseHour 45 = .ok (.iconst 0, 1) := by decide +kernel
theorem dX8_parseHour_46 : decode cX8_parseHour 46 = .ok (.bipush 99, 2) := by decide +kernel
theorem dX8_parseHour_48 : decode cX8_parseHour 48 = .ok (.invokevirtual 110, 3) := by decide +kernel
theorem dX8_parseHour_51 : decode cX8_parseHour 51 = .ok (.iastore, 1) := by decide +kernel
theorem dX8_parseHour_52 : decode cX8_parseHour 52 = .ok (.aload_n 0, 1) := by decide +kernel
theorem dX8_parseHour_53 : decode cX8_parseHour 53 = .ok (.bipush 17, 2) := by decide +kernel
theorem dX8_parseHour_55 : decode cX8_parseHour 55 = .ok (.invokevirtual 107, 3) := by decide +kernel
theorem dX8_parseHour_58 : decode cX8_parseHour 58 = .ok (.aload_n 0, 1) := by decide +kernel
theorem dX8_parseHour_59 : decode cX8_parseHour 59 = .ok (.getfield 28, 3) := by decide +kernel
theorem dX8_parseHour_62 : decode cX8_parseHour 62 = .ok (.getfield 163, 3) := by decide +kernel
theorem dX8_parseHour_65 : decode cX8_parseHour 65 = .ok (.aload_n 0, 1) := by decide +kernel
theorem dX8_parseHour_66 : decode cX8_parseHour 66 = .ok (.getfield 28, 3) := by decide +kernel
theorem dX8_parseHour_69 : decode cX8_parseHour 69 = .ok (.getfield 157, 3) := by decide +kernel
theorem dX8_parseHour_72 : decode cX8_parseHour 72 = .ok (.aload_n 0, 1) := by decide +kernel
theorem dX8_parseHour_73 : decode cX8_parseHour 73 = .ok (.sipush (-200), 3) := by decide +kernel
theorem dX8_parseHour_76 : decode cX8_parseHour 76 = .ok (.sipush 200, 3) := by decide +kernel
theorem dX8_parseHour_79 : decode cX8_parseHour 79 = .ok (.invokevirtual 128, 3) := by decide +kernel
theorem dX8_parseHour_82 : decode cX8_parseHour 82 = .ok (.iastore, 1) := by decide +kernel
theorem dX8_parseHour_83 : decode cX8_parseHour 83 = .ok (.aload_n 0, 1) := by decide +kernel
theorem dX8_parseHour_84 : decode cX8_parseHour 84 = .ok (.bipush 18, 2) := by decide +kernel
theorem dX8_parseHour_86 : decode cX8_parseHour 86 = .ok (.invokevirtual 107, 3) := by decide +kernel
theorem dX8_parseHour_89 : decode cX8_parseHour 89 = .ok (.aload_n 0, 1) := by decide +kernel
theorem dX8_parseHour_90 : decode cX8_parseHour 90 = .ok (.getfield 28, 3) := by decide +kernel
theorem dX8_parseHour_93 : decode cX8_parseHour 93 = .ok (.getfield 166, 3) := by decide +kernel
theorem dX8_parseHour_96 : decode cX8_parseHour 96 = .ok (.aload_n 0, 1) := by decide +kernel
theorem dX8_parseHour_97 : decode cX8_parseHour 97 = .ok (.getfield 28, 3) := by decide +kernel
theorem dX8_parseHour_100 : decode cX8_parseHour 100 = .ok (.getfield 157, 3) := by decide +kernel
theorem dX8_parseHour_103 : decode cX8_parseHour 103 = .ok (.aload_n 0, 1) := by decide +kernel
theorem dX8_parseHour_104 : decode cX8_parseHour 104 = .ok (.iconst 0, 1) := by decide +kernel
theorem dX8_parseHour_105 : decode cX8_parseHour 105 = .ok (.bipush 10, 2) := by decide +kernel
theorem dX8_parseHour_107 : decode cX8_parseHour 107 = .ok (.invokevirtual 110, 3) := by decide +kernel
theorem dX8_parseHour_110 : decode cX8_parseHour 110 = .ok (.iastore, 1) := by decide +kernel
theorem dX8_parseHour_111 : decode cX8_parseHour 111 = .ok (.aload_n 0, 1) := by decide +kernel
theorem dX8_parseHour_112 : decode cX8_parseHour 112 = .ok (.getfield 28, 3) := by decide +kernel
theorem dX8_parseHour_115 : decode cX8_parseHour 115 = .ok (.dup, 1) := by decide +kernel
theorem dX8_parseHour_116 : decode cX8_parseHour 116 = .ok (.getfield 157, 3) := by decide +kernel
theorem dX8_parseHour_119 : decode cX8_parseHour 119 = .ok (.iconst 1, 1) := by decide +kernel
theorem dX8_parseHour_120 : decode cX8_parseHour 120 = .ok (.iadd, 1) := by decide +kernel
theorem dX8_parseHour_121 : decode cX8_parseHour 121 = .ok (.putfield 157, 3) := by decide +kernel
theorem dX8_parseHour_124 : decode cX8_parseHour 124 = .ok (.return_, 1) := by decide +kernel
theorem dX8_parseSlip_0 : decode cX8_parseSlip 0 = .ok (.aload_n 0, 1) := by decide +kernel
theorem dX8_parseSlip_1 : decode cX8_parseSlip 1 = .ok (.getfield 28, 3) := by decide +kernel
theorem dX8_parseSlip_4 : decode cX8_parseSlip 4 = .ok (.getfield 169, 3) := by decide +kernel
theorem dX8_parseSlip_7 : decode cX8_parseSlip 7 = .ok (.bipush 7, 2) := by decide +kernel
theorem dX8_parseSlip_9 : decode cX8_parseSlip 9 = .ok (.if_icmp .lt 8, 3) := by decide +kernel
theorem dX8_parseSlip_12 : decode cX8_parseSlip 12 = .ok (.aload_n 0, 1) := by decide +kernel
theorem dX8_parseSlip_13 : decode cX8_parseSlip 13 = .ok (.invokevirtual 63, 3) := by decide +kernel
theorem dX8_parseSlip_16 : decode cX8_parseSlip 16 = .ok (.return_, 1) := by decide +kernel
theorem dX8_parseSlip_17 : decode cX8_parseSlip 17 = .ok (.aload_n 0, 1) := by decide +kernel
theorem dX8_parseSlip_18 : decode cX8_parseSlip 18 = .ok (.getfield 12, 3) := by decide +kernel
theorem dX8_parseSlip_21 : decode cX8_parseSlip 21 = .ok (.invokevirtual 76, 3) := by decide +kernel
theorem dX8_parseSlip_24 : decode cX8_parseSlip 24 = .ok (.aload_n 0, 1) := by decide +kernel
theorem dX8_parseSlip_25 : decode cX8_parseSlip 25 = .ok (.bipush (-50), 2) := by decide +kernel
theorem dX8_parseSlip_27 : decode cX8_parseSlip 27 = .ok (.bipush 50, 2) := by decide +kernel
theorem dX8_parseSlip_29 : decode cX8_parseSlip 29 = .ok (.invokevirtual 128, 3) := by decide +kernel
theorem dX8_parseSlip_32 : decode cX8_parseSlip 32 = .ok (.istore_n 1, 1) := by decide +kernel
theorem dX8_parseSlip_33 : decode cX8_parseSlip 33 = .ok (.aload_n 0, 1) := by decide +kernel
theorem dX8_parseSlip_34 : decode cX8_parseSlip 34 = .ok (.getfield 28, 3) := by decide +kernel
theorem dX8_parseSlip_37 : decode cX8_parseSlip 37 = .ok (.iload_n 1, 1) := by decide +kernel
theorem dX8_parseSlip_38 : decode cX8_parseSlip 38 = .ok (.invokevirtual 172, 3) := by decide +kernel
theorem dX8_parseSlip_41 : decode cX8_parseSlip 41 = .ok (.ifCond .eq 12, 3) := by decide +kernel
theorem dX8_parseSlip_44 : decode cX8_parseSlip 44 = .ok (.aload_n 0, 1) := by decide +kernel
theorem dX8_parseSlip_45 : decode cX8_parseSlip 45 = .ok (.iconst 3, 1) := by decide +kernel
theorem dX8_parseSlip_46 : decode cX8_parseSlip 46 = .ok (.aload_n 0, 1) := by decide +kernel
theorem dX8_parseSlip_47 : decode cX8_parseSlip 47 = .ok (.getfield 25, 3) := by decide +kernel
theorem dX8_parseSlip_50 : decode cX8_parseSlip 50 = .ok (.invokevirtual 96, 3) := by decide +kernel
theorem dX8_parseSlip_53 : decode cX8_parseSlip 53 = .ok (.aload_n 0, 1) := by decide +kernel
theorem dX8_parseSlip_54 : decode cX8_parseSlip 54 = .ok (.bipush 19, 2) := by decide +kernel
theorem dX8_parseSlip_56 : decode cX8_parseSlip 56 = .ok (.invokevirtual 107, 3) := by decide +kernel
theorem dX8_parseSlip_59 : decode cX8_parseSlip 59 = .ok (.aload_n 0, 1) := by decide +kernel
theorem dX8_parseSlip_60 : decode cX8_parseSlip 60 = .ok (.getfield 28, 3) := by decide +kernel
theorem dX8_parseSlip_63 : decode cX8_parseSlip 63 = .ok (.getfield 176, 3) := by decide +kernel
theorem dX8_parseSlip_66 : decode cX8_parseSlip 66 = .ok (.aload_n 0, 1) := by decide +kernel
theorem dX8_parseSlip_67 : decode cX8_parseSlip 67 = .ok (.getfield 28, 3) := by decide +kernel
theorem dX8_parseSlip_70 : decode cX8_parseSlip 70 = .ok (.getfield 169, 3) := by decide +kernel
theorem dX8_parseSlip_73 : decode cX8_parseSlip 73 = .ok (.iload_n 1, 1) := by decide +kernel
theorem dX8_parseSlip_74 : decode cX8_parseSlip 74 = .ok (.iastore, 1) := by decide +kernel
theorem dX8_parseSlip_75 : decode cX8_parseSlip 75 = .ok (.aload_n 0, 1) := by decide +kernel
theorem dX8_parseSlip_76 : decode cX8_parseSlip 76 = .ok (.getfield 28, 3) := by decide +kernel
theorem dX8_parseSlip_79 : decode cX8_parseSlip 79 = .ok (.getfield 179, 3) := by decide +kernel
theorem dX8_parseSlip_82 : decode cX8_parseSlip 82 = .ok (.aload_n 0, 1) := by decide +kernel
theorem dX8_parseSlip_83 : decode cX8_parseSlip 83 = .ok (.getfield 28, 3) := by decide +kernel
theorem dX8_parseSlip_86 : decode cX8_parseSlip 86 = .ok (.getfield 169, 3) := by decide +kernel
theorem dX8_parseSlip_89 : decode cX8_parseSlip 89 = .ok (.aload_n 0, 1) := by decide +kernel
theorem dX8_parseSlip_90 : decode cX8_parseSlip 90 = .ok (.iconst 1, 1) := by decide +kernel
theorem dX8_parseSlip_91 : decode cX8_parseSlip 91 = .ok (.bipush 99, 2) := by decide +kernel
theorem dX8_parseSlip_93 : decode cX8_parseSlip 93 = .ok (.invokevirtual 110, 3) := by decide +kernel
theorem dX8_parseSlip_96 : decode cX8_parseSlip 96 = .ok (.iastore, 1) := by decide +kernel
theorem dX8_parseSlip_97 : decode cX8_parseSlip 97 = .ok (.aload_n 0, 1) := by decide +kernel
theorem dX8_parseSlip_98 : decode cX8_parseSlip 98 = .ok (.getfield 28, 3) := by decide +kernel
theorem dX8_parseSlip_101 : decode cX8_parseSlip 101 = .ok (.dup, 1) := by decide +kernel
theorem dX8_parseSlip_102 : decode cX8_parseSlip 102 = .ok (.getfield 169, 3) := by decide +kernel
theorem dX8_parseSlip_105 : decode cX8_parseSlip 105 = .ok (.iconst 1, 1) := by decide +kernel
theorem dX8_parseSlip_106 : decode cX8_parseSlip 106 = .ok (.iadd, 1) := by decide +kernel
theorem dX8_parseSlip_107 : decode cX8_parseSlip 107 = .ok (.putfield 169, 3) := by decide +kernel
theorem dX8_parseSlip_110 : decode cX8_parseSlip 110 = .ok (.return_, 1) := by decide +kernel
theorem dX8_parseOnce_0 : decode cX8_parseOnce 0 = .ok (.aload_n 0, 1) := by decide +kernel
theorem dX8_parseOnce_1 : decode cX8_parseOnce 1 = .ok (.getfield 28, 3) := by decide +kernel
theorem dX8_parseOnce_4 : decode cX8_parseOnce 4 = .ok (.getfield 182, 3) := by decide +kernel
theorem dX8_parseOnce_7 : decode cX8_parseOnce 7 = .ok (.iload_n 1, 1) := by decide +kernel
theorem dX8_parseOnce_8 : decode cX8_parseOnce 8 = .ok (.ishr, 1) := by decide +kernel
theorem dX8_parseOnce_9 : decode cX8_parseOnce 9 = .ok (.iconst 1, 1) := by decide +kernel
theorem dX8_parseOnce_10 : decode cX8_parseOnce 10 = .ok (.iand, 1) := by decide +kernel
theorem dX8_parseOnce_11 : decode cX8_parseOnce 11 = .ok (.ifCond .eq 8, 3) := by decide +kernel
theorem dX8_parseOnce_14 : decode cX8_parseOnce 14 = .ok (.aload_n 0, 1) := by decide +kernel
theorem dX8_parseOnce_15 : decode cX8_parseOnce 15 = .ok (.invokevirtual 63, 3) := by decide +kernel
theorem dX8_parseOnce_18 : decode cX8_parseOnce 18 = .ok (.return_, 1) := by decide +kernel
theorem dX8_parseOnce_19 : decode cX8_parseOnce 19 = .ok (.aload_n 0, 1) := by decide +kernel
theorem dX8_parseOnce_20 : decode cX8_parseOnce 20 = .ok (.getfield 28, 3) := by decide +kernel
theorem dX8_parseOnce_23 : decode cX8_parseOnce 23 = .ok (.dup, 1) := by decide +kernel
theorem dX8_parseOnce_24 : decode cX8_parseOnce 24 = .ok (.getfield 182, 3) := by decide +kernel
theorem dX8_parseOnce_27 : decode cX8_parseOnce 27 = .ok (.iconst 1, 1) := by decide +kernel
theorem dX8_parseOnce_28 : decode cX8_parseOnce 28 = .ok (.iload_n 1, 1) := by decide +kernel
theorem dX8_parseOnce_29 : decode cX8_parseOnce 29 = .ok (.ishl, 1) := by decide +kernel
theorem dX8_parseOnce_30 : decode cX8_parseOnce 30 = .ok (.ior, 1) := by decide +kernel
theorem dX8_parseOnce_31 : decode cX8_parseOnce 31 = .ok (.putfield 182, 3) := by decide +kernel
theorem dX8_parseOnce_34 : decode cX8_parseOnce 34 = .ok (.aload_n 0, 1) := by decide +kernel
theorem dX8_parseOnce_35 : decode cX8_parseOnce 35 = .ok (.getfield 12, 3) := by decide +kernel
theorem dX8_parseOnce_38 : decode cX8_parseOnce 38 = .ok (.invokevirtual 76, 3) := by decide +kernel
theorem dX8_parseOnce_41 : decode cX8_parseOnce 41 = .ok (.iload_n 1, 1) := by decide +kernel
theorem dX8_parseOnce_42 : decode cX8_parseOnce 42 = .ok (.bipush 6, 2) := by decide +kernel
theorem dX8_parseOnce_44 : decode cX8_parseOnce 44 = .ok (.if_icmp .ne 15, 3) := by decide +kernel
theorem dX8_parseOnce_47 : decode cX8_parseOnce 47 = .ok (.aload_n 0, 1) := by decide +kernel
theorem dX8_parseOnce_48 : decode cX8_parseOnce 48 = .ok (.getfield 28, 3) := by decide +kernel
theorem dX8_parseOnce_51 : decode cX8_parseOnce 51 = .ok (.aload_n 0, 1) := by decide +kernel
theorem dX8_parseOnce_52 : decode cX8_parseOnce 52 = .ok (.invokevirtual 141, 3) := by decide +kernel
theorem dX8_parseOnce_55 : decode cX8_parseOnce 55 = .ok (.putfield 185, 3) := by decide +kernel
theorem dX8_parseOnce_58 : decode cX8_parseOnce 58 = .ok (.return_, 1) := by decide +kernel
theorem dX8_parseOnce_59 : decode cX8_parseOnce 59 = .ok (.aload_n 0, 1) := by decide +kernel
theorem dX8_parseOnce_60 : decode cX8_parseOnce 60 = .ok (.iconst 0, 1) := by decide +kernel
theorem dX8_parseOnce_61 : decode cX8_parseOnce 61 = .ok (.sipush 9999, 3) := by decide +kernel
theorem dX8_parseOnce_64 : decode cX8_parseOnce 64 = .ok (.invokevirtual 110, 3) := by decide +kernel
theorem dX8_parseOnce_67 : decode cX8_parseOnce 67 = .ok (.istore_n 2, 1) := by decide +kernel
theorem dX8_parseOnce_68 : decode cX8_parseOnce 68 = .ok (.iload_n 1, 1) := by decide +kernel
theorem dX8_parseOnce_69 : decode cX8_parseOnce 69 = .ok (.iconst 4, 1) := by decide +kernel
theorem dX8_parseOnce_70 : decode cX8_parseOnce 70 = .ok (.if_icmp .ne 14, 3) := by decide +kernel
theorem dX8_parseOnce_73 : decode cX8_parseOnce 73 = .ok (.aload_n 0, 1) := by decide +kernel
theorem dX8_parseOnce_74 : decode cX8_parseOnce 74 = .ok (.getfield 28, 3) := by decide +kernel
theorem dX8_parseOnce_77 : decode cX8_parseOnce 77 = .ok (.iload_n 2, 1) := by decide +kernel
theorem dX8_parseOnce_78 : decode cX8_parseOnce 78 = .ok (.putfield 188, 3) := by decide +kernel
theorem dX8_parseOnce_81 : decode cX8_parseOnce 81 = .ok (.goto 27, 3) := by decide +kernel
theorem dX8_parseOnce_84 : decode cX8_parseOnce 84 = .ok (.iload_n 1, 1) := by decide +kernel
theorem dX8_parseOnce_85 : decode cX8_parseOnce 85 = .ok (.iconst 5, 1) := by decide +kernel
theorem dX8_parseOnce_86 : decode cX8_parseOnce 86 = .ok (.if_icmp .ne 14, 3) := by decide +kernel
theorem dX8_parseOnce_89 : decode cX8_parseOnce 89 = .ok (.aload_n 0, 1) := by decide +kernel
theorem dX8_parseOnce_90 : decode cX8_parseOnce 90 = .ok (.getfield 28, 3) := by decide +kernel
theorem dX8_parseOnce_93 : decode cX8_parseOnce 93 = .ok (.iload_n 2, 1) := by decide +kernel
theorem dX8_parseOnce_94 : decode cX8_parseOnce 94 = .ok (.putfield 191, 3) := by decide +kernel
theorem dX8_parseOnce_97 : decode cX8_parseOnce 97 = .ok (.goto 11, 3) := by decide +kernel
theorem dX8_parseOnce_100 : decode cX8_parseOnce 100 = .ok (.aload_n 0, 1) := by decide +kernel
theorem dX8_parseOnce_101 : decode cX8_parseOnce 101 = .ok (.getfield 28, 3) := by decide +kernel
theorem dX8_parseOnce_104 : decode cX8_parseOnce 104 = .ok (.iload_n 2, 1) := by decide +kernel
theorem dX8_parseOnce_105 : decode cX8_parseOnce 105 = .ok (.putfield 194, 3) := by decide +kernel
theorem dX8_parseOnce_108 : decode cX8_parseOnce 108 = .ok (.return_, 1) := by decide +kernel
theorem dX8_takeSemicolon_0 : decode cX8_takeSemicolon 0 = .ok (.aload_n 0, 1) := by decide +kernel
theorem dX8_takeSemicolon_1 : decode cX8_takeSemicolon 1 = .ok (.getfield 18, 3) := by decide +kernel
theorem dX8_takeSemicolon_4 : decode cX8_takeSemicolon 4 = .ok (.ifCond .eq 4, 3) := by decide +kernel
theorem dX8_takeSemicolon_7 : decode cX8_takeSemicolon 7 = .ok (.return_, 1) := by decide +kernel
theorem dX8_takeSemicolon_8 : decode cX8_takeSemicolon 8 = .ok (.aload_n 0, 1) := by decide +kernel
theorem dX8_takeSemicolon_9 : decode cX8_takeSemicolon 9 = .ok (.getfield 12, 3) := by decide +kernel
theorem dX8_takeSemicolon_12 : decode cX8_takeSemicolon 12 = .ok (.getfield 41, 3) := by decide +kernel
theorem dX8_takeSemicolon_15 : decode cX8_takeSemicolon 15 = .ok (.iconst 4, 1) := by decide +kernel
theorem dX8_takeSemicolon_16 : decode cX8_takeSemicolon 16 = .ok (.if_icmp .ne 13, 3) := by decide +kernel
theorem dX8_takeSemicolon_19 : decode cX8_takeSemicolon 19 = .ok (.aload_n 0, 1) := by decide +kernel
theorem dX8_takeSemicolon_20 : decode cX8_takeSemicolon 20 = .ok (.getfield 12, 3) := by decide +kernel
theorem dX8_takeSemicolon_23 : decode cX8_takeSemicolon 23 = .ok (.invokevirtual 76, 3) := by decide +kernel
theorem dX8_takeSemicolon_26 : decode cX8_takeSemicolon 26 = .ok (.goto 7, 3) := by decide +kernel
theorem dX8_takeSemicolon_29 : decode cX8_takeSemicolon 29 = .ok (.aload_n 0, 1) := by decide +kernel
theorem dX8_takeSemicolon_30 : decode cX8_takeSemicolon 30 = .ok (.invokevirtual 63, 3) := by decide +kernel
theorem dX8_takeSemicolon_33 : decode cX8_takeSemicolon 33 = .ok (.return_, 1) := by decide +kernel
theorem dX8_takeKeyword_0 : decode cX8_takeKeyword 0 = .ok (.aload_n 0, 1) := by decide +kernel
theorem dX8_takeKeyword_1 : decode cX8_takeKeyword 1 = .ok (.getfield 18, 3) := by decide +kernel
theorem dX8_takeKeyword_4 : decode cX8_takeKeyword 4 = .ok (.ifCond .eq 4, 3) := by decide +kernel
theorem dX8_takeKeyword_7 : decode cX8_takeKeyword 7 = .ok (.return_, 1) := by decide +kernel
theorem dX8_takeKeyword_8 : decode cX8_takeKeyword 8 = .ok (.aload_n 0, 1) := by decide +kernel
theorem dX8_takeKeyword_9 : decode cX8_takeKeyword 9 = .ok (.getfield 12, 3) := by decide +kernel
theorem dX8_takeKeyword_12 : decode cX8_takeKeyword 12 = .ok (.getfield 44, 3) := by decide +kernel
theorem dX8_takeKeyword_15 : decode cX8_takeKeyword 15 = .ok (.iload_n 1, 1) := by decide +kernel
theorem dX8_takeKeyword_16 : decode cX8_takeKeyword 16 = .ok (.if_icmp .ne 13, 3) := by decide +kernel
theorem dX8_takeKeyword_19 : decode cX8_takeKeyword 19 = .ok (.aload_n 0, 1) := by decide +kernel
theorem dX8_takeKeyword_20 : decode cX8_takeKeyword 20 = .ok (.getfield 12, 3) := by decide +kernel
theorem dX8_takeKeyword_23 : decode cX8_takeKeyword 23 = .ok (.invokevirtual 76, 3) := by decide +kernel
theorem dX8_takeKeyword_26 : decode cX8_takeKeyword 26 = .ok (.goto 7, 3) := by decide +kernel
theorem dX8_takeKeyword_29 : decode cX8_takeKeyword 29 = .ok (.aload_n 0, 1) := by decide +kernel
theorem dX8_takeKeyword_30 : decode cX8_takeKeyword 30 = .ok (.invokevirtual 63, 3) := by decide +kernel
theorem dX8_takeKeyword_33 : decode cX8_takeKeyword 33 = .ok (.return_, 1) := by decide +kernel
theorem dX8_takeSort_0 : decode cX8_takeSort 0 = .ok (.aload_n 0, 1) := by decide +kernel
theorem dX8_takeSort_1 : decode cX8_takeSort 1 = .ok (.getfield 12, 3) := by decide +kernel
theorem dX8_takeSort_4 : decode cX8_takeSort 4 = .ok (.getfield 44, 3) := by decide +kernel
theorem dX8_takeSort_7 : decode cX8_takeSort 7 = .ok (.bipush 8, 2) := by decide +kernel
theorem dX8_takeSort_9 : decode cX8_takeSort 9 = .ok (.isub, 1) := by decide +kernel
theorem dX8_takeSort_10 : decode cX8_takeSort 10 = .ok (.istore_n 1, 1) := by decide +kernel
theorem dX8_takeSort_11 : decode cX8_takeSort 11 = .ok (.aload_n 0, 1) := by decide +kernel
theorem dX8_takeSort_12 : decode cX8_takeSort 12 = .ok (.getfield 18, 3) := by decide +kernel
theorem dX8_takeSort_15 : decode cX8_takeSort 15 = .ok (.ifCond .ne 12, 3) := by decide +kernel
theorem dX8_takeSort_18 : decode cX8_takeSort 18 = .ok (.iload_n 1, 1) := by decide +kernel
theorem dX8_takeSort_19 : decode cX8_takeSort 19 = .ok (.ifCond .lt 8, 3) := by decide +kernel
theorem dX8_takeSort_22 : decode cX8_takeSort 22 = .ok (.iload_n 1, 1) := by decide +kernel
theorem dX8_takeSort_23 : decode cX8_takeSort 23 = .ok (.iconst 3, 1) := by decide +kernel
theorem dX8_takeSort_24 : decode cX8_takeSort 24 = .ok (.if_icmp .le 9, 3) := by decide +kernel
theorem dX8_takeSort_27 : decode cX8_takeSort 27 = .ok (.aload_n 0, 1) := by decide +kernel
theorem dX8_takeSort_28 : decode cX8_takeSort 28 = .ok (.invokevirtual 63, 3) := by decide +kernel
theorem dX8_takeSort_31 : decode cX8_takeSort 31 = .ok (.iconst 0, 1) := by decide +kernel
theorem dX8_takeSort_32 : decode cX8_takeSort 32 = .ok (.ireturn, 1) := by decide +kernel
theorem dX8_takeSort_33 : decode cX8_takeSort 33 = .ok (.aload_n 0, 1) := by decide +kernel
theorem dX8_takeSort_34 : decode cX8_takeSort 34 = .ok (.getfield 12, 3) := by decide +kernel
theorem dX8_takeSort_37 : decode cX8_takeSort 37 = .ok (.invokevirtual 76, 3) := by decide +kernel
theorem dX8_takeSort_40 : decode cX8_takeSort 40 = .ok (.iload_n 1, 1) := by decide +kernel
theorem dX8_takeSort_41 : decode cX8_takeSort 41 = .ok (.ireturn, 1) := by decide +kernel
theorem dX8_takeName_0 : decode cX8_takeName 0 = .ok (.aload_n 0, 1) := by decide +kernel
theorem dX8_takeName_1 : decode cX8_takeName 1 = .ok (.getfield 18, 3) := by decide +kernel
theorem dX8_takeName_4 : decode cX8_takeName 4 = .ok (.ifCond .ne 25, 3) := by decide +kernel
theorem dX8_takeName_7 : decode cX8_takeName 7 = .ok (.aload_n 0, 1) := by decide +kernel
theorem dX8_takeName_8 : decode cX8_takeName 8 = .ok (.getfield 12, 3) := by decide +kernel
theorem dX8_takeName_11 : decode cX8_takeName 11 = .ok (.getfield 41, 3) := by decide +kernel
theorem dX8_takeName_14 : decode cX8_takeName 14 = .ok (.iconst 2, 1) := by decide +kernel
theorem dX8_takeName_15 : decode cX8_takeName 15 = .ok (.if_icmp .ne 14, 3) := by decide +kernel
theorem dX8_takeName_18 : decode cX8_takeName 18 = .ok (.aload_n 0, 1) := by decide +kernel
theorem dX8_takeName_19 : decode cX8_takeName 19 = .ok (.getfield 12, 3) := by decide +kernel
theorem dX8_takeName_22 : decode cX8_takeName 22 = .ok (.getfield 44, 3) := by decide +kernel
theorem dX8_takeName_25 : decode cX8_takeName 25 = .ok (.iconst (-1), 1) := by decide +kernel
theorem dX8_takeName_26 : decode cX8_takeName 26 = .ok (.if_icmp .eq 9, 3) := by decide +kernel
theorem dX8_takeName_29 : decode cX8_takeName 29 = .ok (.aload_n 0, 1) := by decide +kernel
theorem dX8_takeName_30 : decode cX8_takeName 30 = .ok (.invokevirtual 63, 3) := by decide +kernel
theorem dX8_takeName_33 : decode cX8_takeName 33 = .ok (.lconst 0, 1) := by decide +kernel
theorem dX8_takeName_34 : decode cX8_takeName 34 = .ok (.lreturn, 1) := by decide +kernel
theorem dX8_takeName_35 : decode cX8_takeName 35 = .ok (.aload_n 0, 1) := by decide +kernel
theorem dX8_takeName_36 : decode cX8_takeName 36 = .ok (.getfield 12, 3) := by decide +kernel
theorem dX8_takeName_39 : decode cX8_takeName 39 = .ok (.getfield 197, 3) := by decide +kernel
theorem dX8_takeName_42 : decode cX8_takeName 42 = .ok (.lstore_n 1, 1) := by decide +kernel
theorem dX8_takeName_43 : decode cX8_takeName 43 = .ok (.aload_n 0, 1) := by decide +kernel
theorem dX8_takeName_44 : decode cX8_takeName 44 = .ok (.getfield 12, 3) := by decide +kernel
theorem dX8_takeName_47 : decode cX8_takeName 47 = .ok (.invokevirtual 76, 3) := by decide +kernel
theorem dX8_takeName_50 : decode cX8_takeName 50 = .ok (.lload_n 1, 1) := by decide +kernel
theorem dX8_takeName_51 : decode cX8_takeName 51 = .ok (.lreturn, 1) := by decide +kernel
theorem dX8_takeYard_0 : decode cX8_takeYard 0 = .ok (.aload_n 0, 1) := by decide +kernel
theorem dX8_takeYard_1 : decode cX8_takeYard 1 = .ok (.getfield 12, 3) := by decide +kernel
theorem dX8_takeYard_4 : decode cX8_takeYard 4 = .ok (.getfield 79, 3) := by decide +kernel
theorem dX8_takeYard_7 : decode cX8_takeYard 7 = .ok (.istore_n 1, 1) := by decide +kernel
theorem dX8_takeYard_8 : decode cX8_takeYard 8 = .ok (.aload_n 0, 1) := by decide +kernel
theorem dX8_takeYard_9 : decode cX8_takeYard 9 = .ok (.invokevirtual 82, 3) := by decide +kernel
theorem dX8_takeYard_12 : decode cX8_takeYard 12 = .ok (.lstore_n 2, 1) := by decide +kernel
theorem dX8_takeYard_13 : decode cX8_takeYard 13 = .ok (.aload_n 0, 1) := by decide +kernel
theorem dX8_takeYard_14 : decode cX8_takeYard 14 = .ok (.getfield 28, 3) := by decide +kernel
theorem dX8_takeYard_17 : decode cX8_takeYard 17 = .ok (.lload_n 2, 1) := by decide +kernel
theorem dX8_takeYard_18 : decode cX8_takeYard 18 = .ok (.invokevirtual 92, 3) := by decide +kernel
theorem dX8_takeYard_21 : decode cX8_takeYard 21 = .ok (.istore 4, 2) := by decide +kernel
theorem dX8_takeYard_23 : decode cX8_takeYard 23 = .ok (.iload 4, 2) := by decide +kernel
theorem dX8_takeYard_25 : decode cX8_takeYard 25 = .ok (.iconst (-1), 1) := by decide +kernel
theorem dX8_takeYard_26 : decode cX8_takeYard 26 = .ok (.if_icmp .ne 9, 3) := by decide +kernel
theorem dX8_takeYard_29 : decode cX8_takeYard 29 = .ok (.aload_n 0, 1) := by decide +kernel
theorem dX8_takeYard_30 : decode cX8_takeYard 30 = .ok (.iconst 5, 1) := by decide +kernel
theorem dX8_takeYard_31 : decode cX8_takeYard 31 = .ok (.iload_n 1, 1) := by decide +kernel
theorem dX8_takeYard_32 : decode cX8_takeYard 32 = .ok (.invokevirtual 96, 3) := by decide +kernel
theorem dX8_takeYard_35 : decode cX8_takeYard 35 = .ok (.iload 4, 2) := by decide +kernel
theorem dX8_takeYard_37 : decode cX8_takeYard 37 = .ok (.ireturn, 1) := by decide +kernel
theorem dX8_takeNumber_0 : decode cX8_takeNumber 0 = .ok (.aload_n 0, 1) := by decide +kernel
theorem dX8_takeNumber_1 : decode cX8_takeNumber 1 = .ok (.getfield 18, 3) := by decide +kernel
theorem dX8_takeNumber_4 : decode cX8_takeNumber 4 = .ok (.ifCond .ne 14, 3) := by decide +kernel
theorem dX8_takeNumber_7 : decode cX8_takeNumber 7 = .ok (.aload_n 0, 1) := by decide +kernel
theorem dX8_takeNumber_8 : decode cX8_takeNumber 8 = .ok (.getfield 12, 3) := by decide +kernel
theorem dX8_takeNumber_11 : decode cX8_takeNumber 11 = .ok (.getfield 41, 3) := by decide +kernel
theorem dX8_takeNumber_14 : decode cX8_takeNumber 14 = .ok (.iconst 3, 1) := by decide +kernel
theorem dX8_takeNumber_15 : decode cX8_takeNumber 15 = .ok (.if_icmp .eq 9, 3) := by decide +kernel
theorem dX8_takeNumber_18 : decode cX8_takeNumber 18 = .ok (.aload_n 0, 1) := by decide +kernel
theorem dX8_takeNumber_19 : decode cX8_takeNumber 19 = .ok (.invokevirtual 63, 3) := by decide +kernel
theorem dX8_takeNumber_22 : decode cX8_takeNumber 22 = .ok (.iload_n 1, 1) := by decide +kernel
theorem dX8_takeNumber_23 : decode cX8_takeNumber 23 = .ok (.ireturn, 1) := by decide +kernel
theorem dX8_takeNumber_24 : decode cX8_takeNumber 24 = .ok (.aload_n 0, 1) := by decide +kernel
theorem dX8_takeNumber_25 : decode cX8_takeNumber 25 = .ok (.getfield 12, 3) := by decide +kernel
theorem dX8_takeNumber_28 : decode cX8_takeNumber 28 = .ok (.getfield 200, 3) := by decide +kernel
theorem dX8_takeNumber_31 : decode cX8_takeNumber 31 = .ok (.istore_n 3, 1) := by decide +kernel
theorem dX8_takeNumber_32 : decode cX8_takeNumber 32 = .ok (.iload_n 3, 1) := by decide +kernel
theorem dX8_takeNumber_33 : decode cX8_takeNumber 33 = .ok (.iload_n 1, 1) := by decide +kernel
theorem dX8_takeNumber_34 : decode cX8_takeNumber 34 = .ok (.if_icmp .lt 8, 3) := by decide +kernel
theorem dX8_takeNumber_37 : decode cX8_takeNumber 37 = .ok (.iload_n 3, 1) := by decide +kernel
theorem dX8_takeNumber_38 : decode cX8_takeNumber 38 = .ok (.iload_n 2, 1) := by decide +kernel
theorem dX8_takeNumber_39 : decode cX8_takeNumber 39 = .ok (.if_icmp .le 15, 3) := by decide +kernel
theorem dX8_takeNumber_42 : decode cX8_takeNumber 42 = .ok (.aload_n 0, 1) := by decide +kernel
theorem dX8_takeNumber_43 : decode cX8_takeNumber 43 = .ok (.iconst 4, 1) := by decide +kernel
theorem dX8_takeNumber_44 : decode cX8_takeNumber 44 = .ok (.aload_n 0, 1) := by decide +kernel
theorem dX8_takeNumber_45 : decode cX8_takeNumber 45 = .ok (.getfield 12, 3) := by decide +kernel
theorem dX8_takeNumber_48 : decode cX8_takeNumber 48 = .ok (.getfield 79, 3) := by decide +kernel
theorem dX8_takeNumber_51 : decode cX8_takeNumber 51 = .ok (.invokevirtual 96, 3) := by decide +kernel
theorem dX8_takeNumber_54 : decode cX8_takeNumber 54 = .ok (.aload_n 0, 1) := by decide +kernel
theorem dX8_takeNumber_55 : decode cX8_takeNumber 55 = .ok (.getfield 12, 3) := by decide +kernel
theorem dX8_takeNumber_58 : decode cX8_takeNumber 58 = .ok (.invokevirtual 76, 3) := by decide +kernel
theorem dX8_takeNumber_61 : decode cX8_takeNumber 61 = .ok (.iload_n 3, 1) := by decide +kernel
theorem dX8_takeNumber_62 : decode cX8_takeNumber 62 = .ok (.ireturn, 1) := by decide +kernel
theorem dX8_isValueNext_0 : decode cX8_isValueNext 0 = .ok (.aload_n 0, 1) := by decide +kernel
theorem dX8_isValueNext_1 : decode cX8_isValueNext 1 = .ok (.getfield 18, 3) := by decide +kernel
theorem dX8_isValueNext_4 : decode cX8_isValueNext 4 = .ok (.ifCond .ne 29, 3) := by decide +kernel
theorem dX8_isValueNext_7 : decode cX8_isValueNext 7 = .ok (.aload_n 0, 1) := by decide +kernel
theorem dX8_isValueNext_8 : decode cX8_isValueNext 8 = .ok (.getfield 12, 3) := by decide +kernel
theorem dX8_isValueNext_11 : decode cX8_isValueNext 11 = .ok (.getfield 41, 3) := by decide +kernel
theorem dX8_isValueNext_14 : decode cX8_isValueNext 14 = .ok (.iconst 3, 1) := by decide +kernel
theorem dX8_isValueNext_15 : decode cX8_isValueNext 15 = .ok (.if_icmp .eq 14, 3) := by decide +kernel
theorem dX8_isValueNext_18 : decode cX8_isValueNext 18 = .ok (.aload_n 0, 1) := by decide +kernel
theorem dX8_isValueNext_19 : decode cX8_isValueNext 19 = .ok (.getfield 12, 3) := by decide +kernel
theorem dX8_isValueNext_22 : decode cX8_isValueNext 22 = .ok (.getfield 41, 3) := by decide +kernel
theorem dX8_isValueNext_25 : decode cX8_isValueNext 25 = .ok (.iconst 5, 1) := by decide +kernel
theorem dX8_isValueNext_26 : decode cX8_isValueNext 26 = .ok (.if_icmp .ne 7, 3) := by decide +kernel
theorem dX8_isValueNext_29 : decode cX8_isValueNext 29 = .ok (.iconst 1, 1) := by decide +kernel
theorem dX8_isValueNext_30 : decode cX8_isValueNext 30 = .ok (.goto 4, 3) := by decide +kernel
theorem dX8_isValueNext_33 : decode cX8_isValueNext 33 = .ok (.iconst 0, 1) := by decide +kernel
theorem dX8_isValueNext_34 : decode cX8_isValueNext 34 = .ok (.ireturn, 1) := by decide +kernel
theorem dX8_takeValue_0 : decode cX8_takeValue 0 = .ok (.aload_n 0, 1) := by decide +kernel
theorem dX8_takeValue_1 : decode cX8_takeValue 1 = .ok (.aload_n 0, 1) := by decide +kernel
theorem dX8_takeValue_2 : decode cX8_takeValue 2 = .ok (.getfield 12, 3) := by decide +kernel
theorem dX8_takeValue_5 : decode cX8_takeValue 5 = .ok (.getfield 79, 3) := by decide +kernel
theorem dX8_takeValue_8 : decode cX8_takeValue 8 = .ok (.putfield 25, 3) := by decide +kernel
theorem dX8_takeValue_11 : decode cX8_takeValue 11 = .ok (.aload_n 0, 1) := by decide +kernel
theorem dX8_takeValue_12 : decode cX8_takeValue 12 = .ok (.getfield 12, 3) := by decide +kernel
theorem dX8_takeValue_15 : decode cX8_takeValue 15 = .ok (.getfield 41, 3) := by decide +kernel
theorem dX8_takeValue_18 : decode cX8_takeValue 18 = .ok (.iconst 5, 1) := by decide +kernel
theorem dX8_takeValue_19 : decode cX8_takeValue 19 = .ok (.if_icmp .ne 7, 3) := by decide +kernel
theorem dX8_takeValue_22 : decode cX8_takeValue 22 = .ok (.iconst 1, 1) := by decide +kernel
theorem dX8_takeValue_23 : decode cX8_takeValue 23 = .ok (.goto 4, 3) := by decide +kernel
theorem dX8_takeValue_26 : decode cX8_takeValue 26 = .ok (.iconst 0, 1) := by decide +kernel
theorem dX8_takeValue_27 : decode cX8_takeValue 27 = .ok (.istore_n 3, 1) := by decide +kernel
theorem dX8_takeValue_28 : decode cX8_takeValue 28 = .ok (.iload_n 3, 1) := by decide +kernel
theorem dX8_takeValue_29 : decode cX8_takeValue 29 = .ok (.ifCond .eq 10, 3) := by decide +kernel
theorem dX8_takeValue_32 : decode cX8_takeValue 32 = .ok (.aload_n 0, 1) := by decide +kernel
theorem dX8_takeValue_33 : decode cX8_takeValue 33 = .ok (.getfield 12, 3) := by decide +kernel
theorem dX8_takeValue_36 : decode cX8_takeValue 36 = .ok (.invokevirtual 76, 3) := by decide +kernel
theorem dX8_takeValue_39 : decode cX8_takeValue 39 = .ok (.aload_n 0, 1) := by decide +kernel
theorem dX8_takeValue_40 : decode cX8_takeValue 40 = .ok (.getfield 18, 3) := by decide +kernel
theorem dX8_takeValue_43 : decode cX8_takeValue 43 = .ok (.ifCond .ne 14, 3) := by decide +kernel
theorem dX8_takeValue_46 : decode cX8_takeValue 46 = .ok (.aload_n 0, 1) := by decide +kernel
theorem dX8_takeValue_47 : decode cX8_takeValue 47 = .ok (.getfield 12, 3) := by decide +kernel
theorem dX8_takeValue_50 : decode cX8_takeValue 50 = .ok (.getfield 41, 3) := by decide +kernel
theorem dX8_takeValue_53 : decode cX8_takeValue 53 = .ok (.iconst 3, 1) := by decide +kernel
theorem dX8_takeValue_54 : decode cX8_takeValue 54 = .ok (.if_icmp .eq 9, 3) := by decide +kernel
theorem dX8_takeValue_57 : decode cX8_takeValue 57 = .ok (.aload_n 0, 1) := by decide +kernel
theorem dX8_takeValue_58 : decode cX8_takeValue 58 = .ok (.invokevirtual 63, 3) := by decide +kernel
theorem dX8_takeValue_61 : decode cX8_takeValue 61 = .ok (.iload_n 1, 1) := by decide +kernel
theorem dX8_takeValue_62 : decode cX8_takeValue 62 = .ok (.ireturn, 1) := by decide +kernel
theorem dX8_takeValue_63 : decode cX8_takeValue 63 = .ok (.iload_n 3, 1) := by decide +kernel
theorem dX8_takeValue_64 : decode cX8_takeValue 64 = .ok (.ifCond .eq 14, 3) := by decide +kernel
theorem dX8_takeValue_67 : decode cX8_takeValue 67 = .ok (.aload_n 0, 1) := by decide +kernel
theorem dX8_takeValue_68 : decode cX8_takeValue 68 = .ok (.getfield 12, 3) := by decide +kernel
theorem dX8_takeValue_71 : decode cX8_takeValue 71 = .ok (.getfield 200, 3) := by decide +kernel
theorem dX8_takeValue_74 : decode cX8_takeValue 74 = .ok (.ineg, 1) := by decide +kernel
theorem dX8_takeValue_75 : decode cX8_takeValue 75 = .ok (.goto 10, 3) := by decide +kernel
theorem dX8_takeValue_78 : decode cX8_takeValue 78 = .ok (.aload_n 0, 1) := by decide +kernel
theorem dX8_takeValue_79 : decode cX8_takeValue 79 = .ok (.getfield 12, 3) := by decide +kernel
theorem dX8_takeValue_82 : decode cX8_takeValue 82 = .ok (.getfield 200, 3) := by decide +kernel
theorem dX8_takeValue_85 : decode cX8_takeValue 85 = .ok (.istore 4, 2) := by decide +kernel
theorem dX8_takeValue_87 : decode cX8_takeValue 87 = .ok (.iload 4, 2) := by decide +kernel
theorem dX8_takeValue_89 : decode cX8_takeValue 89 = .ok (.iload_n 1, 1) := by decide +kernel
theorem dX8_takeValue_90 : decode cX8_takeValue 90 = .ok (.if_icmp .lt 9, 3) := by decide +kernel
theorem dX8_takeValue_93 : decode cX8_takeValue 93 = .ok (.iload 4, 2) := by decide +kernel
theorem dX8_takeValue_95 : decode cX8_takeValue 95 = .ok (.iload_n 2, 1) := by decide +kernel
theorem dX8_takeValue_96 : decode cX8_takeValue 96 = .ok (.if_icmp .le 12, 3) := by decide +kernel
theorem dX8_takeValue_99 : decode cX8_takeValue 99 = .ok (.aload_n 0, 1) := by decide +kernel
theorem dX8_takeValue_100 : decode cX8_takeValue 100 = .ok (.iconst 4, 1) := by decide +kernel
theorem dX8_takeValue_101 : decode cX8_takeValue 101 = .ok (.aload_n 0, 1) := by decide +kernel
theorem dX8_takeValue_102 : decode cX8_takeValue 102 = .ok (.getfield 25, 3) := by decide +kernel
theorem dX8_takeValue_105 : decode cX8_takeValue 105 = .ok (.invokevirtual 96, 3) := by decide +kernel
theorem dX8_takeValue_108 : decode cX8_takeValue 108 = .ok (.aload_n 0, 1) := by decide +kernel
theorem dX8_takeValue_109 : decode cX8_takeValue 109 = .ok (.getfield 12, 3) := by decide +kernel
theorem dX8_takeValue_112 : decode cX8_takeValue 112 = .ok (.invokevirtual 76, 3) := by decide +kernel
theorem dX8_takeValue_115 : decode cX8_takeValue 115 = .ok (.iload 4, 2) := by decide +kernel
theorem dX8_takeValue_117 : decode cX8_takeValue 117 = .ok (.ireturn, 1) := by decide +kernel
theorem dX8_refuseToken_0 : decode cX8_refuseToken 0 = .ok (.aload_n 0, 1) := by decide +kernel
theorem dX8_refuseToken_1 : decode cX8_refuseToken 1 = .ok (.aload_n 0, 1) := by decide +kernel
theorem dX8_refuseToken_2 : decode cX8_refuseToken 2 = .ok (.getfield 12, 3) := by decide +kernel
theorem dX8_refuseToken_5 : decode cX8_refuseToken 5 = .ok (.getfield 41, 3) := by decide +kernel
theorem dX8_refuseToken_8 : decode cX8_refuseToken 8 = .ok (.iconst 1, 1) := by decide +kernel
theorem dX8_refuseToken_9 : decode cX8_refuseToken 9 = .ok (.if_icmp .ne 7, 3) := by decide +kernel
theorem dX8_refuseToken_12 : decode cX8_refuseToken 12 = .ok (.iconst 1, 1) := by decide +kernel
theorem dX8_refuseToken_13 : decode cX8_refuseToken 13 = .ok (.goto 4, 3) := by decide +kernel
theorem dX8_refuseToken_16 : decode cX8_refuseToken 16 = .ok (.iconst 2, 1) := by decide +kernel
theorem dX8_refuseToken_17 : decode cX8_refuseToken 17 = .ok (.aload_n 0, 1) := by decide +kernel
theorem dX8_refuseToken_18 : decode cX8_refuseToken 18 = .ok (.getfield 12, 3) := by decide +kernel
theorem dX8_refuseToken_21 : decode cX8_refuseToken 21 = .ok (.getfield 79, 3) := by decide +kernel
theorem dX8_refuseToken_24 : decode cX8_refuseToken 24 = .ok (.invokevirtual 96, 3) := by decide +kernel
theorem dX8_refuseToken_27 : decode cX8_refuseToken 27 = .ok (.return_, 1) := by decide +kernel
theorem dX8_refuse_0 : decode cX8_refuse 0 = .ok (.aload_n 0, 1) := by decide +kernel
theorem dX8_refuse_1 : decode cX8_refuse 1 = .ok (.getfield 18, 3) := by decide +kernel
theorem dX8_refuse_4 : decode cX8_refuse 4 = .ok (.ifCond .ne 13, 3) := by decide +kernel
theorem dX8_refuse_7 : decode cX8_refuse 7 = .ok (.aload_n 0, 1) := by decide +kernel
theorem dX8_refuse_8 : decode cX8_refuse 8 = .ok (.iload_n 1, 1) := by decide +kernel
theorem dX8_refuse_9 : decode cX8_refuse 9 = .ok (.putfield 18, 3) := by decide +kernel
theorem dX8_refuse_12 : decode cX8_refuse 12 = .ok (.aload_n 0, 1) := by decide +kernel
theorem dX8_refuse_13 : decode cX8_refuse 13 = .ok (.iload_n 2, 1) := by decide +kernel
theorem dX8_refuse_14 : decode cX8_refuse 14 = .ok (.putfield 22, 3) := by decide +kernel
theorem dX8_refuse_17 : decode cX8_refuse 17 = .ok (.return_, 1) := by decide +kernel
theorem dX9_init_0 : decode cX9_init 0 = .ok (.aload_n 0, 1) := by decide +kernel
theorem dX9_init_1 : decode cX9_init 1 = .ok (.invokespecial 3, 3) := by decide +kernel
theorem dX9_init_4 : decode cX9_init 4 = .ok (.aload_n 0, 1) := by decide +kernel
theorem dX9_init_5 : decode cX9_init 5 = .ok (.iconst 0, 1) := by decide +kernel
theorem dX9_init_6 : decode cX9_init 6 = .ok (.putfield 9, 3) := by decide +kernel
theorem dX9_init_9 : decode cX9_init 9 = .ok (.aload_n 0, 1) := by decide +kernel
theorem dX9_init_10 : decode cX9_init 10 = .ok (.iconst 0, 1) := by decide +kernel
theorem dX9_init_11 : decode cX9_init 11 = .ok (.putfield 15, 3) := by decide +kernel
theorem dX9_init_14 : decode cX9_init 14 = .ok (.aload_n 0, 1) := by decide +kernel
theorem dX9_init_15 : decode cX9_init 15 = .ok (.iconst (-1), 1) := by decide +kernel
theorem dX9_init_16 : decode cX9_init 16 = .ok (.putfield 18, 3) := by decide +kernel
theorem dX9_init_19 : decode cX9_init 19 = .ok (.aload_n 0, 1) := by decide +kernel
theorem dX9_init_20 : decode cX9_init 20 = .ok (.iconst 0, 1) := by decide +kernel
theorem dX9_init_21 : decode cX9_init 21 = .ok (.putfield 21, 3) := by decide +kernel
theorem dX9_init_24 : decode cX9_init 24 = .ok (.return_, 1) := by decide +kernel
theorem dX9_weigh_0 : decode cX9_weigh 0 = .ok (.aload_n 0, 1) := by decide +kernel
theorem dX9_weigh_1 : decode cX9_weigh 1 = .ok (.iload_n 3, 1) := by decide +kernel
theorem dX9_weigh_2 : decode cX9_weigh 2 = .ok (.putfield 9, 3) := by decide +kernel
theorem dX9_weigh_5 : decode cX9_weigh 5 = .ok (.aload_n 0, 1) := by decide +kernel
theorem dX9_weigh_6 : decode cX9_weigh 6 = .ok (.iload 5, 2) := by decide +kernel
theorem dX9_weigh_8 : decode cX9_weigh 8 = .ok (.putfield 15, 3) := by decide +kernel
theorem dX9_weigh_11 : decode cX9_weigh 11 = .ok (.aload_n 1, 1) := by decide +kernel
theorem dX9_weigh_12 : decode cX9_weigh 12 = .ok (.getfield 24, 3) := by decide +kernel
theorem dX9_weigh_15 : decode cX9_weigh 15 = .ok (.getfield 30, 3) := by decide +kernel
theorem dX9_weigh_18 : decode cX9_weigh 18 = .ok (.aload_n 1, 1) := by decide +kernel
theorem dX9_weigh_19 : decode cX9_weigh 19 = .ok (.getfield 24, 3) := by decide +kernel
theorem dX9_weigh_22 : decode cX9_weigh 22 = .ok (.iload 5, 2) := by decide +kernel
theorem dX9_weigh_24 : decode cX9_weigh 24 = .ok (.invokevirtual 35, 3) := by decide +kernel
theorem dX9_weigh_27 : decode cX9_weigh 27 = .ok (.imul, 1) := by decide +kernel
theorem dX9_weigh_28 : decode cX9_weigh 28 = .ok (.istore 6, 2) := by decide +kernel
theorem dX9_weigh_30 : decode cX9_weigh 30 = .ok (.aload_n 0, 1) := by decide +kernel
theorem dX9_weigh_31 : decode cX9_weigh 31 = .ok (.iconst (-1), 1) := by decide +kernel
theorem dX9_weigh_32 : decode cX9_weigh 32 = .ok (.putfield 18, 3) := by decide +kernel
theorem dX9_weigh_35 : decode cX9_weigh 35 = .ok (.aload_n 0, 1) := by decide +kernel
theorem dX9_weigh_36 : decode cX9_weigh 36 = .ok (.aload_n 0, 1) := by decide +kernel
theorem dX9_weigh_37 : decode cX9_weigh 37 = .ok (.aload_n 1, 1) := by decide +kernel
theorem dX9_weigh_38 : decode cX9_weigh 38 = .ok (.aload_n 2, 1) := by decide +kernel
theorem dX9_weigh_39 : decode cX9_weigh 39 = .ok (.iconst 0, 1) := by decide +kernel
theorem dX9_weigh_40 : decode cX9_weigh 40 = .ok (.iconst 0, 1) := by decide +kernel
theorem dX9_weigh_41 : decode cX9_weigh 41 = .ok (.ldc 39, 2) := by decide +kernel
theorem dX9_weigh_43 : decode cX9_weigh 43 = .ok (.invokevirtual 40, 3) := by decide +kernel
theorem dX9_weigh_46 : decode cX9_weigh 46 = .ok (.putfield 21, 3) := by decide +kernel
theorem dX9_weigh_49 : decode cX9_weigh 49 = .ok (.iconst 0, 1) := by decide +kernel
theorem dX9_weigh_50 : decode cX9_weigh 50 = .ok (.istore 7, 2) := by decide +kernel
theorem dX9_weigh_52 : decode cX9_weigh 52 = .ok (.iload 7, 2) := by decide +kernel
theorem dX9_weigh_54 : decode cX9_weigh 54 = .ok (.bipush 24, 2) := by decide +kernel
theorem dX9_weigh_56 : decode cX9_weigh 56 = .ok (.if_icmp .gt 71, 3) := by decide +kernel
theorem dX9_weigh_59 : decode cX9_weigh 59 = .ok (.aload_n 0, 1) := by decide +kernel
theorem dX9_weigh_60 : decode cX9_weigh 60 = .ok (.getfield 18, 3) := by decide +kernel
theorem dX9_weigh_63 : decode cX9_weigh 63 = .ok (.iconst (-1), 1) := by decide +kernel
theorem dX9_weigh_64 : decode cX9_weigh 64 = .ok (.if_icmp .ne 10, 3) := by decide +kernel
theorem dX9_weigh_67 : decode cX9_weigh 67 = .ok (.aload_n 0, 1) := by decide +kernel
theorem dX9_weigh_68 : decode cX9_weigh 68 = .ok (.getfield 21, 3) := by decide +kernel
theorem dX9_weigh_71 : decode cX9_weigh 71 = .ok (.goto 9, 3) := by decide +kernel
theorem dX9_weigh_74 : decode cX9_weigh 74 = .ok (.aload_n 0, 1) := by decide +kernel
theorem dX9_weigh_75 : decode cX9_weigh 75 = .ok (.getfield 21, 3) := by decide +kernel
theorem dX9_weigh_78 : decode cX9_weigh 78 = .ok (.iconst 1, 1) := by decide +kernel
theorem dX9_weigh_79 : decode cX9_weigh 79 = .ok (.isub, 1) := by decide +kernel
theorem dX9_weigh_80 : decode cX9_weigh 80 = .ok (.istore 8, 2) := by decide +kernel
theorem dX9_weigh_82 : decode cX9_weigh 82 = .ok (.iload 6, 2) := by decide +kernel
theorem dX9_weigh_84 : decode cX9_weigh 84 = .ok (.aload_n 0, 1) := by decide +kernel
theorem dX9_weigh_85 : decode cX9_weigh 85 = .ok (.aload_n 1, 1) := by decide +kernel
theorem dX9_weigh_86 : decode cX9_weigh 86 = .ok (.aload_n 2, 1) := by decide +kernel
theorem dX9_weigh_87 : decode cX9_weigh 87 = .ok (.iload 4, 2) := by decide +kernel
theorem dX9_weigh_89 : decode cX9_weigh 89 = .ok (.iload 7, 2) := by decide +kernel
theorem dX9_weigh_91 : decode cX9_weigh 91 = .ok (.iload 8, 2) := by decide +kernel
theorem dX9_weigh_93 : decode cX9_weigh 93 = .ok (.iload 6, 2) := by decide +kernel
theorem dX9_weigh_95 : decode cX9_weigh 95 = .ok (.isub, 1) := by decide +kernel
theorem dX9_weigh_96 : decode cX9_weigh 96 = .ok (.invokevirtual 40, 3) := by decide +kernel
theorem dX9_weigh_99 : decode cX9_weigh 99 = .ok (.iadd, 1) := by decide +kernel
theorem dX9_weigh_100 : decode cX9_weigh 100 = .ok (.istore 9, 2) := by decide +kernel
theorem dX9_weigh_102 : decode cX9_weigh 102 = .ok (.iload 9, 2) := by decide +kernel
theorem dX9_weigh_104 : decode cX9_weigh 104 = .ok (.iload 8, 2) := by decide +kernel
theorem dX9_weigh_106 : decode cX9_weigh 106 = .ok (.if_icmp .gt 15, 3) := by decide +kernel
theorem dX9_weigh_109 : decode cX9_weigh 109 = .ok (.aload_n 0, 1) := by decide +kernel
theorem dX9_weigh_110 : decode cX9_weigh 110 = .ok (.iload 7, 2) := by decide +kernel
theorem dX9_weigh_112 : decode cX9_weigh 112 = .ok (.putfield 18, 3) := by decide +kernel
theorem dX9_weigh_115 : decode cX9_weigh 115 = .ok (.aload_n 0, 1) := by decide +kernel
theorem dX9_weigh_116 : decode cX9_weigh 116 = .ok (.iload 9, 2) := by decide +kernel
theorem dX9_weigh_118 : decode cX9_weigh 118 = .ok (.putfield 21, 3) := by decide +kernel
theorem dX9_weigh_121 : decode cX9_weigh 121 = .ok (.iinc 7 1, 3) := by decide +kernel
theorem dX9_weigh_124 : decode cX9_weigh 124 = .ok (.goto (-72), 3) := by decide +kernel
theorem dX9_weigh_127 : decode cX9_weigh 127 = .ok (.return_, 1) := by decide +kernel
theorem dX9_sumHarm_0 : decode cX9_sumHarm 0 = .ok (.aload_n 1, 1) := by decide +kernel
theorem dX9_sumHarm_1 : decode cX9_sumHarm 1 = .ok (.getfield 24, 3) := by decide +kernel
theorem dX9_sumHarm_4 : decode cX9_sumHarm 4 = .ok (.astore 6, 2) := by decide +kernel
theorem dX9_sumHarm_6 : decode cX9_sumHarm 6 = .ok (.iconst 0, 1) := by decide +kernel
theorem dX9_sumHarm_7 : decode cX9_sumHarm 7 = .ok (.istore 7, 2) := by decide +kernel
theorem dX9_sumHarm_9 : decode cX9_sumHarm 9 = .ok (.iconst 0, 1) := by decide +kernel
theorem dX9_sumHarm_10 : decode cX9_sumHarm 10 = .ok (.istore 8, 2) := by decide +kernel
theorem dX9_sumHarm_12 : decode cX9_sumHarm 12 = .ok (.iload 8, 2) := by decide +kernel
theorem dX9_sumHarm_14 : decode cX9_sumHarm 14 = .ok (.aload 6, 2) := by decide +kernel
theorem dX9_sumHarm_16 : decode cX9_sumHarm 16 = .ok (.getfield 44, 3) := by decide +kernel
theorem dX9_sumHarm_19 : decode cX9_sumHarm 19 = .ok (.if_icmp .ge 112, 3) := by decide +kernel
theorem dX9_sumHarm_22 : decode cX9_sumHarm 22 = .ok (.iconst 0, 1) := by decide +kernel
theorem dX9_sumHarm_23 : decode cX9_sumHarm 23 = .ok (.istore 9, 2) := by decide +kernel
theorem dX9_sumHarm_25 : decode cX9_sumHarm 25 = .ok (.iload 9, 2) := by decide +kernel
theorem dX9_sumHarm_27 : decode cX9_sumHarm 27 = .ok (.aload 6, 2) := by decide +kernel
theorem dX9_sumHarm_29 : decode cX9_sumHarm 29 = .ok (.getfield 47, 3) := by decide +kernel
theorem dX9_sumHarm_32 : decode cX9_sumHarm 32 = .ok (.if_icmp .ge 93, 3) := by decide +kernel
theorem dX9_sumHarm_35 : decode cX9_sumHarm 35 = .ok (.iload 7, 2) := by decide +kernel
theorem dX9_sumHarm_37 : decode cX9_sumHarm 37 = .ok (.iload 5, 2) := by decide +kernel
theorem dX9_sumHarm_39 : decode cX9_sumHarm 39 = .ok (.if_icmp .gt 86, 3) := by decide +kernel
theorem dX9_sumHarm_42 : decode cX9_sumHarm 42 = .ok (.aload_n 0, 1) := by decide +kernel
theorem dX9_sumHarm_43 : decode cX9_sumHarm 43 = .ok (.getfield 15, 3) := by decide +kernel
theorem dX9_sumHarm_46 : decode cX9_sumHarm 46 = .ok (.iload 8, 2) := by decide +kernel
theorem dX9_sumHarm_48 : decode cX9_sumHarm 48 = .ok (.ishr, 1) := by decide +kernel
theorem dX9_sumHarm_49 : decode cX9_sumHarm 49 = .ok (.iconst 1, 1) := by decide +kernel
theorem dX9_sumHarm_50 : decode cX9_sumHarm 50 = .ok (.iand, 1) := by decide +kernel
theorem dX9_sumHarm_51 : decode cX9_sumHarm 51 = .ok (.ifCond .eq 19, 3) := by decide +kernel
theorem dX9_sumHarm_54 : decode cX9_sumHarm 54 = .ok (.aload_n 0, 1) := by decide +kernel
theorem dX9_sumHarm_55 : decode cX9_sumHarm 55 = .ok (.getfield 9, 3) := by decide +kernel
theorem dX9_sumHarm_58 : decode cX9_sumHarm 58 = .ok (.iload 9, 2) := by decide +kernel
theorem dX9_sumHarm_60 : decode cX9_sumHarm 60 = .ok (.ishr, 1) := by decide +kernel
theorem dX9_sumHarm_61 : decode cX9_sumHarm 61 = .ok (.iconst 1, 1) := by decide +kernel
theorem dX9_sumHarm_62 : decode cX9_sumHarm 62 = .ok (.iand, 1) := by decide +kernel
theorem dX9_sumHarm_63 : decode cX9_sumHarm 63 = .ok (.ifCond .eq 7, 3) := by decide +kernel
theorem dX9_sumHarm_66 : decode cX9_sumHarm 66 = .ok (.iconst 1, 1) := by decide +kernel
theorem dX9_sumHarm_67 : decode cX9_sumHarm 67 = .ok (.goto 4, 3) := by decide +kernel
theorem dX9_sumHarm_70 : decode cX9_sumHarm 70 = .ok (.iconst 0, 1) := by decide +kernel
theorem dX9_sumHarm_71 : decode cX9_sumHarm 71 = .ok (.istore 10, 2) := by decide +kernel
theorem dX9_sumHarm_73 : decode cX9_sumHarm 73 = .ok (.iload 10, 2) := by decide +kernel
theorem dX9_sumHarm_75 : decode cX9_sumHarm 75 = .ok (.ifCond .eq 44, 3) := by decide +kernel
theorem dX9_sumHarm_78 : decode cX9_sumHarm 78 = .ok (.aload_n 2, 1) := by decide +kernel
theorem dX9_sumHarm_79 : decode cX9_sumHarm 79 = .ok (.aload_n 1, 1) := by decide +kernel
theorem dX9_sumHarm_80 : decode cX9_sumHarm 80 = .ok (.iload 9, 2) := by decide +kernel
theorem dX9_sumHarm_82 : decode cX9_sumHarm 82 = .ok (.aload 6, 2) := by decide +kernel
theorem dX9_sumHarm_84 : decode cX9_sumHarm 84 = .ok (.getfield 50, 3) := by decide +kernel
theorem dX9_sumHarm_87 : decode cX9_sumHarm 87 = .ok (.iload 8, 2) := by decide +kernel
theorem dX9_sumHarm_89 : decode cX9_sumHarm 89 = .ok (.iaload, 1) := by decide +kernel
theorem dX9_sumHarm_90 : decode cX9_sumHarm 90 = .ok (.iload_n 3, 1) := by decide +kernel
theorem dX9_sumHarm_91 : decode cX9_sumHarm 91 = .ok (.iload 4, 2) := by decide +kernel
theorem dX9_sumHarm_93 : decode cX9_sumHarm 93 = .ok (.invokevirtual 54, 3) := by decide +kernel
theorem dX9_sumHarm_96 : decode cX9_sumHarm 96 = .ok (.iconst (-1), 1) := by decide +kernel
theorem dX9_sumHarm_97 : decode cX9_sumHarm 97 = .ok (.if_icmp .eq 22, 3) := by decide +kernel
theorem dX9_sumHarm_100 : decode cX9_sumHarm 100 = .ok (.iload 7, 2) := by decide +kernel
theorem dX9_sumHarm_102 : decode cX9_sumHarm 102 = .ok (.aload 6, 2) := by decide +kernel
theorem dX9_sumHarm_104 : decode cX9_sumHarm 104 = .ok (.getfield 60, 3) := by decide +kernel
theorem dX9_sumHarm_107 : decode cX9_sumHarm 107 = .ok (.aload 6, 2) := by decide +kernel
theorem dX9_sumHarm_109 : decode cX9_sumHarm 109 = .ok (.getfield 63, 3) := by decide +kernel
theorem dX9_sumHarm_112 : decode cX9_sumHarm 112 = .ok (.iload 8, 2) := by decide +kernel
theorem dX9_sumHarm_114 : decode cX9_sumHarm 114 = .ok (.iaload, 1) := by decide +kernel
theorem dX9_sumHarm_115 : decode cX9_sumHarm 115 = .ok (.imul, 1) := by decide +kernel
theorem dX9_sumHarm_116 : decode cX9_sumHarm 116 = .ok (.iadd, 1) := by decide +kernel
theorem dX9_sumHarm_117 : decode cX9_sumHarm 117 = .ok (.istore 7, 2) := by decide +kernel
theorem dX9_sumHarm_119 : decode cX9_sumHarm 119 = .ok (.iinc 9 1, 3) := by decide +kernel
theorem dX9_sumHarm_122 : decode cX9_sumHarm 122 = .ok (.goto (-97), 3) := by decide +kernel
theorem dX9_sumHarm_125 : decode cX9_sumHarm 125 = .ok (.iinc 8 1, 3) := by decide +kernel
theorem dX9_sumHarm_128 : decode cX9_sumHarm 128 = .ok (.goto (-116), 3) := by decide +kernel
theorem dX9_sumHarm_131 : decode cX9_sumHarm 131 = .ok (.iload 7, 2) := by decide +kernel
theorem dX9_sumHarm_133 : decode cX9_sumHarm 133 = .ok (.ireturn, 1) := by decide +kernel
theorem dX10_init_0 : decode cX10_init 0 = .ok (.aload_n 0, 1) := by decide +kernel
theorem dX10_init_1 : decode cX10_init 1 = .ok (.invokespecial 3, 3) := by decide +kernel
theorem dX10_init_4 : decode cX10_init 4 = .ok (.aload_n 0, 1) := by decide +kernel
theorem dX10_init_5 : decode cX10_init 5 = .ok (.iconst 5, 1) := by decide +kernel
theorem dX10_init_6 : decode cX10_init 6 = .ok (.newarray .int, 2) := by decide +kernel
theorem dX10_init_8 : decode cX10_init 8 = .ok (.putfield 9, 3) := by decide +kernel
theorem dX10_init_11 : decode cX10_init 11 = .ok (.return_, 1) := by decide +kernel
theorem dX11_init_0 : decode cX11_init 0 = .ok (.aload_n 0, 1) := by decide +kernel
theorem dX11_init_1 : decode cX11_init 1 = .ok (.invokespecial 1, 3) := by decide +kernel
theorem dX11_init_4 : decode cX11_init 4 = .ok (.aload_n 0, 1) := by decide +kernel
theorem dX11_init_5 : decode cX11_init 5 = .ok (.sipush 1700, 3) := by decide +kernel
theorem dX11_init_8 : decode cX11_init 8 = .ok (.newarray .byte, 2) := by decide +kernel
theorem dX11_init_10 : decode cX11_init 10 = .ok (.putfield 9, 3) := by decide +kernel
theorem dX11_init_13 : decode cX11_init 13 = .ok (.aload_n 0, 1) := by decide +kernel
theorem dX11_init_14 : decode cX11_init 14 = .ok (.iconst 0, 1) := by decide +kernel
theorem dX11_init_15 : decode cX11_init 15 = .ok (.putfield 13, 3) := by decide +kernel
theorem dX11_init_18 : decode cX11_init 18 = .ok (.aload_n 0, 1) := by decide +kernel
theorem dX11_init_19 : decode cX11_init 19 = .ok (.new 17, 3) := by decide +kernel
theorem dX11_init_22 : decode cX11_init 22 = .ok (.dup, 1) := by decide +kernel
theorem dX11_init_23 : decode cX11_init 23 = .ok (.invokespecial 19, 3) := by decide +kernel
theorem dX11_init_26 : decode cX11_init 26 = .ok (.putfield 20, 3) := by decide +kernel
theorem dX11_init_29 : decode cX11_init 29 = .ok (.aload_n 0, 1) := by decide +kernel
theorem dX11_init_30 : decode cX11_init 30 = .ok (.new 17, 3) := by decide +kernel
theorem dX11_init_33 : decode cX11_init 33 = .ok (.dup, 1) := by decide +kernel
theorem dX11_init_34 : decode cX11_init 34 = .ok (.invokespecial 19, 3) := by decide +kernel
theorem dX11_init_37 : decode cX11_init 37 = .ok (.putfield 24, 3) := by decide +kernel
theorem dX11_init_40 : decode cX11_init 40 = .ok (.aload_n 0, 1) := by decide +kernel
theorem dX11_init_41 : decode cX11_init 41 = .ok (.new 27, 3) := by decide +kernel
theorem dX11_init_44 : decode cX11_init 44 = .ok (.dup, 1) := by decide +kernel
theorem dX11_init_45 : decode cX11_init 45 = .ok (.aload_n 0, 1) := by decide +kernel
theorem dX11_init_46 : decode cX11_init 46 = .ok (.getfield 24, 3) := by decide +kernel
theorem dX11_init_49 : decode cX11_init 49 = .ok (.invokespecial 29, 3) := by decide +kernel
theorem dX11_init_52 : decode cX11_init 52 = .ok (.putfield 32, 3) := by decide +kernel
theorem dX11_init_55 : decode cX11_init 55 = .ok (.aload_n 0, 1) := by decide +kernel
theorem dX11_init_56 : decode cX11_init 56 = .ok (.new 36, 3) := by decide +kernel
theorem dX11_init_59 : decode cX11_init 59 = .ok (.dup, 1) := by decide +kernel
theorem dX11_init_60 : decode cX11_init 60 = .ok (.aload_n 0, 1) := by decide +kernel
theorem dX11_init_61 : decode cX11_init 61 = .ok (.getfield 20, 3) := by decide +kernel
theorem dX11_init_64 : decode cX11_init 64 = .ok (.invokespecial 38, 3) := by decide +kernel
theorem dX11_init_67 : decode cX11_init 67 = .ok (.putfield 39, 3) := by decide +kernel
theorem dX11_init_70 : decode cX11_init 70 = .ok (.aload_n 0, 1) := by decide +kernel
theorem dX11_init_71 : decode cX11_init 71 = .ok (.new 43, 3) := by decide +kernel
theorem dX11_init_74 : decode cX11_init 74 = .ok (.dup, 1) := by decide +kernel
theorem dX11_init_75 : decode cX11_init 75 = .ok (.invokespecial 45, 3) := by decide +kernel
theorem dX11_init_78 : decode cX11_init 78 = .ok (.putfield 46, 3) := by decide +kernel
theorem dX11_init_81 : decode cX11_init 81 = .ok (.aload_n 0, 1) := by decide +kernel
theorem dX11_init_82 : decode cX11_init 82 = .ok (.new 50, 3) := by decide +kernel
theorem dX11_init_85 : decode cX11_init 85 = .ok (.dup, 1) := by decide +kernel
theorem dX11_init_86 : decode cX11_init 86 = .ok (.invokespecial 52, 3) := by decide +kernel
theorem dX11_init_89 : decode cX11_init 89 = .ok (.putfield 53, 3) := by decide +kernel
theorem dX11_init_92 : decode cX11_init 92 = .ok (.aload_n 0, 1) := by decide +kernel
theorem dX11_init_93 : decode cX11_init 93 = .ok (.new 57, 3) := by decide +kernel
theorem dX11_init_96 : decode cX11_init 96 = .ok (.dup, 1) := by decide +kernel
theorem dX11_init_97 : decode cX11_init 97 = .ok (.invokespecial 59, 3) := by decide +kernel
theorem dX11_init_100 : decode cX11_init 100 = .ok (.putfield 60, 3) := by decide +kernel
theorem dX11_init_103 : decode cX11_init 103 = .ok (.aload_n 0, 1) := by decide +kernel
theorem dX11_init_104 : decode cX11_init 104 = .ok (.new 64, 3) := by decide +kernel
theorem dX11_init_107 : decode cX11_init 107 = .ok (.dup, 1) := by decide +kernel
theorem dX11_init_108 : decode cX11_init 108 = .ok (.invokespecial 66, 3) := by decide +kernel
theorem dX11_init_111 : decode cX11_init 111 = .ok (.putfield 67, 3) := by decide +kernel
theorem dX11_init_114 : decode cX11_init 114 = .ok (.aload_n 0, 1) := by decide +kernel
theorem dX11_init_115 : decode cX11_init 115 = .ok (.new 71, 3) := by decide +kernel
theorem dX11_init_118 : decode cX11_init 118 = .ok (.dup, 1) := by decide +kernel
theorem dX11_init_119 : decode cX11_init 119 = .ok (.invokespecial 73, 3) := by decide +kernel
theorem dX11_init_122 : decode cX11_init 122 = .ok (.putfield 74, 3) := by decide +kernel
theorem dX11_init_125 : decode cX11_init 125 = .ok (.aload_n 0, 1) := by decide +kernel
theorem dX11_init_126 : decode cX11_init 126 = .ok (.iconst 0, 1) := by decide +kernel
theorem dX11_init_127 : decode cX11_init 127 = .ok (.putfield 78, 3) := by decide +kernel
theorem dX11_init_130 : decode cX11_init 130 = .ok (.aload_n 0, 1) := by decide +kernel
theorem dX11_init_131 : decode cX11_init 131 = .ok (.iconst 3, 1) := by decide +kernel
theorem dX11_init_132 : decode cX11_init 132 = .ok (.bipush 75, 2) := by decide +kernel
theorem dX11_init_134 : decode cX11_init 134 = .ok (.multianewarray 81 2, 4) := by decide +kernel
theorem dX11_init_138 : decode cX11_init 138 = .ok (.putfield 83, 3) := by decide +kernel
theorem dX11_init_141 : decode cX11_init 141 = .ok (.aload_n 0, 1) := by decide +kernel
theorem dX11_init_142 : decode cX11_init 142 = .ok (.iconst 3, 1) := by decide +kernel
theorem dX11_init_143 : decode cX11_init 143 = .ok (.newarray .boolean, 2) := by decide +kernel
theorem dX11_init_145 : decode cX11_init 145 = .ok (.putfield 86, 3) := by decide +kernel
theorem dX11_init_148 : decode cX11_init 148 = .ok (.return_, 1) := by decide +kernel
