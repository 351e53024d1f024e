theorem dX0_init_0 : decode cX0_init 0 = .ok (.aload_n 0, 1) := by decide +kernel
theorem dX0_init_1 : decode cX0_init 1 = .ok (.invokespecial 3, 3) := by decide +kernel
theorem dX0_init_4 : decode cX0_init 4 = .ok (.aload_n 0, 1) := by decide +kernel
theorem dX0_init_5 : decode cX0_init 5 = .ok (.sipush 961, 3) := by decide +kernel
theorem dX0_init_8 : decode cX0_init 8 = .ok (.newarray .int, 2) := by decide +kernel
theorem dX0_init_10 : decode cX0_init 10 = .ok (.putfield 9, 3) := by decide +kernel
theorem dX0_init_13 : decode cX0_init 13 = .ok (.aload_n 0, 1) := by decide +kernel
theorem dX0_init_14 : decode cX0_init 14 = .ok (.bipush 30, 2) := by decide +kernel
theorem dX0_init_16 : decode cX0_init 16 = .ok (.newarray .int, 2) := by decide +kernel
theorem dX0_init_18 : decode cX0_init 18 = .ok (.putfield 15, 3) := by decide +kernel
theorem dX0_init_21 : decode cX0_init 21 = .ok (.return_, 1) := by decide +kernel
theorem dX0_run_0 : decode cX0_run 0 = .ok (.aload_n 0, 1) := by decide +kernel
theorem dX0_run_1 : decode cX0_run 1 = .ok (.aload_n 1, 1) := by decide +kernel
theorem dX0_run_2 : decode cX0_run 2 = .ok (.aload_n 2, 1) := by decide +kernel
theorem dX0_run_3 : decode cX0_run 3 = .ok (.iload_n 3, 1) := by decide +kernel
theorem dX0_run_4 : decode cX0_run 4 = .ok (.invokevirtual 18, 3) := by decide +kernel
theorem dX0_run_7 : decode cX0_run 7 = .ok (.aload_n 0, 1) := by decide +kernel
theorem dX0_run_8 : decode cX0_run 8 = .ok (.iconst 0, 1) := by decide +kernel
theorem dX0_run_9 : decode cX0_run 9 = .ok (.putfield 22, 3) := by decide +kernel
theorem dX0_run_12 : decode cX0_run 12 = .ok (.aload_n 0, 1) := by decide +kernel
theorem dX0_run_13 : decode cX0_run 13 = .ok (.iconst 0, 1) := by decide +kernel
theorem dX0_run_14 : decode cX0_run 14 = .ok (.putfield 26, 3) := by decide +kernel
theorem dX0_run_17 : decode cX0_run 17 = .ok (.iconst 0, 1) := by decide +kernel
theorem dX0_run_18 : decode cX0_run 18 = .ok (.istore 4, 2) := by decide +kernel
theorem dX0_run_20 : decode cX0_run 20 = .ok (.iconst 0, 1) := by decide +kernel
theorem dX0_run_21 : decode cX0_run 21 = .ok (.istore 5, 2) := by decide +kernel
theorem dX0_run_23 : decode cX0_run 23 = .ok (.iload 5, 2) := by decide +kernel
theorem dX0_run_25 : decode cX0_run 25 = .ok (.aload_n 1, 1) := by decide +kernel
theorem dX0_run_26 : decode cX0_run 26 = .ok (.getfield 29, 3) := by decide +kernel
theorem dX0_run_29 : decode cX0_run 29 = .ok (.if_icmp .ge 77, 3) := by decide +kernel
theorem dX0_run_32 : decode cX0_run 32 = .ok (.iload 5, 2) := by decide +kernel
theorem dX0_run_34 : decode cX0_run 34 = .ok (.bipush 30, 2) := by decide +kernel
theorem dX0_run_36 : decode cX0_run 36 = .ok (.if_icmp .ge 70, 3) := by decide +kernel
theorem dX0_run_39 : decode cX0_run 39 = .ok (.aload_n 0, 1) := by decide +kernel
theorem dX0_run_40 : decode cX0_run 40 = .ok (.aload_n 1, 1) := by decide +kernel
theorem dX0_run_41 : decode cX0_run 41 = .ok (.iload 5, 2) := by decide +kernel
theorem dX0_run_43 : decode cX0_run 43 = .ok (.aload_n 2, 1) := by decide +kernel
theorem dX0_run_44 : decode cX0_run 44 = .ok (.iload 4, 2) := by decide +kernel
theorem dX0_run_46 : decode cX0_run 46 = .ok (.iload_n 3, 1) := by decide +kernel
theorem dX0_run_47 : decode cX0_run 47 = .ok (.invokevirtual 34, 3) := by decide +kernel
theorem dX0_run_50 : decode cX0_run 50 = .ok (.istore 6, 2) := by decide +kernel
theorem dX0_run_52 : decode cX0_run 52 = .ok (.aload_n 0, 1) := by decide +kernel
theorem dX0_run_53 : decode cX0_run 53 = .ok (.getfield 15, 3) := by decide +kernel
theorem dX0_run_56 : decode cX0_run 56 = .ok (.iload 5, 2) := by decide +kernel
theorem dX0_run_58 : decode cX0_run 58 = .ok (.iload 6, 2) := by decide +kernel
theorem dX0_run_60 : decode cX0_run 60 = .ok (.iastore, 1) := by decide +kernel
theorem dX0_run_61 : decode cX0_run 61 = .ok (.iload 6, 2) := by decide +kernel
theorem dX0_run_63 : decode cX0_run 63 = .ok (.ifCond .lt 37, 3) := by decide +kernel
theorem dX0_run_66 : decode cX0_run 66 = .ok (.aload_n 0, 1) := by decide +kernel
theorem dX0_run_67 : decode cX0_run 67 = .ok (.dup, 1) := by decide +kernel
theorem dX0_run_68 : decode cX0_run 68 = .ok (.getfield 22, 3) := by decide +kernel
theorem dX0_run_71 : decode cX0_run 71 = .ok (.iconst 1, 1) := by decide +kernel
theorem dX0_run_72 : decode cX0_run 72 = .ok (.iadd, 1) := by decide +kernel
theorem dX0_run_73 : decode cX0_run 73 = .ok (.putfield 22, 3) := by decide +kernel
theorem dX0_run_76 : decode cX0_run 76 = .ok (.aload_n 0, 1) := by decide +kernel
theorem dX0_run_77 : decode cX0_run 77 = .ok (.dup, 1) := by decide +kernel
theorem dX0_run_78 : decode cX0_run 78 = .ok (.getfield 26, 3) := by decide +kernel
theorem dX0_run_81 : decode cX0_run 81 = .ok (.aload_n 1, 1) := by decide +kernel
theorem dX0_run_82 : decode cX0_run 82 = .ok (.iload 5, 2) := by decide +kernel
theorem dX0_run_84 : decode cX0_run 84 = .ok (.aload_n 2, 1) := by decide +kernel
theorem dX0_run_85 : decode cX0_run 85 = .ok (.iload 6, 2) := by decide +kernel
theorem dX0_run_87 : decode cX0_run 87 = .ok (.invokestatic 38, 3) := by decide +kernel
theorem dX0_run_90 : decode cX0_run 90 = .ok (.iadd, 1) := by decide +kernel
theorem dX0_run_91 : decode cX0_run 91 = .ok (.putfield 26, 3) := by decide +kernel
theorem dX0_run_94 : decode cX0_run 94 = .ok (.iload 6, 2) := by decide +kernel
theorem dX0_run_96 : decode cX0_run 96 = .ok (.iconst 1, 1) := by decide +kernel
theorem dX0_run_97 : decode cX0_run 97 = .ok (.iadd, 1) := by decide +kernel
theorem dX0_run_98 : decode cX0_run 98 = .ok (.istore 4, 2) := by decide +kernel
theorem dX0_run_100 : decode cX0_run 100 = .ok (.iinc 5 1, 3) := by decide +kernel
theorem dX0_run_103 : decode cX0_run 103 = .ok (.goto (-80), 3) := by decide +kernel
theorem dX0_run_106 : decode cX0_run 106 = .ok (.return_, 1) := by decide +kernel
theorem dX0_partnerOf_0 : decode cX0_partnerOf 0 = .ok (.iload_n 1, 1) := by decide +kernel
theorem dX0_partnerOf_1 : decode cX0_partnerOf 1 = .ok (.ifCond .lt 18, 3) := by decide +kernel
theorem dX0_partnerOf_4 : decode cX0_partnerOf 4 = .ok (.iload_n 1, 1) := by decide +kernel
theorem dX0_partnerOf_5 : decode cX0_partnerOf 5 = .ok (.bipush 30, 2) := by decide +kernel
theorem dX0_partnerOf_7 : decode cX0_partnerOf 7 = .ok (.if_icmp .ge 12, 3) := by decide +kernel
theorem dX0_partnerOf_10 : decode cX0_partnerOf 10 = .ok (.aload_n 0, 1) := by decide +kernel
theorem dX0_partnerOf_11 : decode cX0_partnerOf 11 = .ok (.getfield 15, 3) := by decide +kernel
theorem dX0_partnerOf_14 : decode cX0_partnerOf 14 = .ok (.iload_n 1, 1) := by decide +kernel
theorem dX0_partnerOf_15 : decode cX0_partnerOf 15 = .ok (.iaload, 1) := by decide +kernel
theorem dX0_partnerOf_16 : decode cX0_partnerOf 16 = .ok (.goto 4, 3) := by decide +kernel
theorem dX0_partnerOf_19 : decode cX0_partnerOf 19 = .ok (.iconst (-1), 1) := by decide +kernel
theorem dX0_partnerOf_20 : decode cX0_partnerOf 20 = .ok (.ireturn, 1) := by decide +kernel
theorem dX0_distance_0 : decode cX0_distance 0 = .ok (.aload_n 0, 1) := by decide +kernel
theorem dX0_distance_1 : decode cX0_distance 1 = .ok (.iload_n 1, 1) := by decide +kernel
theorem dX0_distance_2 : decode cX0_distance 2 = .ok (.invokevirtual 42, 3) := by decide +kernel
theorem dX0_distance_5 : decode cX0_distance 5 = .ok (.aload_n 2, 1) := by decide +kernel
theorem dX0_distance_6 : decode cX0_distance 6 = .ok (.iload_n 3, 1) := by decide +kernel
theorem dX0_distance_7 : decode cX0_distance 7 = .ok (.invokevirtual 42, 3) := by decide +kernel
theorem dX0_distance_10 : decode cX0_distance 10 = .ok (.isub, 1) := by decide +kernel
theorem dX0_distance_11 : decode cX0_distance 11 = .ok (.invokestatic 46, 3) := by decide +kernel
theorem dX0_distance_14 : decode cX0_distance 14 = .ok (.aload_n 0, 1) := by decide +kernel
theorem dX0_distance_15 : decode cX0_distance 15 = .ok (.iload_n 1, 1) := by decide +kernel
theorem dX0_distance_16 : decode cX0_distance 16 = .ok (.invokevirtual 51, 3) := by decide +kernel
theorem dX0_distance_19 : decode cX0_distance 19 = .ok (.aload_n 2, 1) := by decide +kernel
theorem dX0_distance_20 : decode cX0_distance 20 = .ok (.iload_n 3, 1) := by decide +kernel
theorem dX0_distance_21 : decode cX0_distance 21 = .ok (.invokevirtual 51, 3) := by decide +kernel
theorem dX0_distance_24 : decode cX0_distance 24 = .ok (.isub, 1) := by decide +kernel
theorem dX0_distance_25 : decode cX0_distance 25 = .ok (.invokestatic 46, 3) := by decide +kernel
theorem dX0_distance_28 : decode cX0_distance 28 = .ok (.iadd, 1) := by decide +kernel
theorem dX0_distance_29 : decode cX0_distance 29 = .ok (.ireturn, 1) := by decide +kernel
theorem dX0_worth_0 : decode cX0_worth 0 = .ok (.aload_n 0, 1) := by decide +kernel
theorem dX0_worth_1 : decode cX0_worth 1 = .ok (.iload_n 1, 1) := by decide +kernel
theorem dX0_worth_2 : decode cX0_worth 2 = .ok (.aload_n 2, 1) := by decide +kernel
theorem dX0_worth_3 : decode cX0_worth 3 = .ok (.iload_n 3, 1) := by decide +kernel
theorem dX0_worth_4 : decode cX0_worth 4 = .ok (.invokestatic 38, 3) := by decide +kernel
theorem dX0_worth_7 : decode cX0_worth 7 = .ok (.istore 5, 2) := by decide +kernel
theorem dX0_worth_9 : decode cX0_worth 9 = .ok (.iload 5, 2) := by decide +kernel
theorem dX0_worth_11 : decode cX0_worth 11 = .ok (.iload 4, 2) := by decide +kernel
theorem dX0_worth_13 : decode cX0_worth 13 = .ok (.if_icmp .gt 12, 3) := by decide +kernel
theorem dX0_worth_16 : decode cX0_worth 16 = .ok (.sipush 10000, 3) := by decide +kernel
theorem dX0_worth_19 : decode cX0_worth 19 = .ok (.iload 5, 2) := by decide +kernel
theorem dX0_worth_21 : decode cX0_worth 21 = .ok (.isub, 1) := by decide +kernel
theorem dX0_worth_22 : decode cX0_worth 22 = .ok (.goto 4, 3) := by decide +kernel
theorem dX0_worth_25 : decode cX0_worth 25 = .ok (.iconst 0, 1) := by decide +kernel
theorem dX0_worth_26 : decode cX0_worth 26 = .ok (.ireturn, 1) := by decide +kernel
theorem dX0_bestFrom_0 : decode cX0_bestFrom 0 = .ok (.iload_n 1, 1) := by decide +kernel
theorem dX0_bestFrom_1 : decode cX0_bestFrom 1 = .ok (.bipush 31, 2) := by decide +kernel
theorem dX0_bestFrom_3 : decode cX0_bestFrom 3 = .ok (.imul, 1) := by decide +kernel
theorem dX0_bestFrom_4 : decode cX0_bestFrom 4 = .ok (.iload_n 2, 1) := by decide +kernel
theorem dX0_bestFrom_5 : decode cX0_bestFrom 5 = .ok (.iadd, 1) := by decide +kernel
theorem dX0_bestFrom_6 : decode cX0_bestFrom 6 = .ok (.istore_n 3, 1) := by decide +kernel
theorem dX0_bestFrom_7 : decode cX0_bestFrom 7 = .ok (.iload_n 3, 1) := by decide +kernel
theorem dX0_bestFrom_8 : decode cX0_bestFrom 8 = .ok (.ifCond .lt 21, 3) := by decide +kernel
theorem dX0_bestFrom_11 : decode cX0_bestFrom 11 = .ok (.iload_n 3, 1) := by decide +kernel
theorem dX0_bestFrom_12 : decode cX0_bestFrom 12 = .ok (.aload_n 0, 1) := by decide +kernel
theorem dX0_bestFrom_13 : decode cX0_bestFrom 13 = .ok (.getfield 9, 3) := by decide +kernel
theorem dX0_bestFrom_16 : decode cX0_bestFrom 16 = .ok (.arraylength, 1) := by decide +kernel
theorem dX0_bestFrom_17 : decode cX0_bestFrom 17 = .ok (.if_icmp .ge 12, 3) := by decide +kernel
theorem dX0_bestFrom_20 : decode cX0_bestFrom 20 = .ok (.aload_n 0, 1) := by decide +kernel
theorem dX0_bestFrom_21 : decode cX0_bestFrom 21 = .ok (.getfield 9, 3) := by decide +kernel
theorem dX0_bestFrom_24 : decode cX0_bestFrom 24 = .ok (.iload_n 3, 1) := by decide +kernel
theorem dX0_bestFrom_25 : decode cX0_bestFrom 25 = .ok (.iaload, 1) := by decide +kernel
theorem dX0_bestFrom_26 : decode cX0_bestFrom 26 = .ok (.goto 4, 3) := by decide +kernel
theorem dX0_bestFrom_29 : decode cX0_bestFrom 29 = .ok (.iconst 0, 1) := by decide +kernel
theorem dX0_bestFrom_30 : decode cX0_bestFrom 30 = .ok (.ireturn, 1) := by decide +kernel
theorem dX0_fillBest_0 : decode cX0_fillBest 0 = .ok (.aload_n 1, 1) := by decide +kernel
theorem dX0_fillBest_1 : decode cX0_fillBest 1 = .ok (.getfield 29, 3) := by decide +kernel
theorem dX0_fillBest_4 : decode cX0_fillBest 4 = .ok (.bipush 30, 2) := by decide +kernel
theorem dX0_fillBest_6 : decode cX0_fillBest 6 = .ok (.invokestatic 54, 3) := by decide +kernel
theorem dX0_fillBest_9 : decode cX0_fillBest 9 = .ok (.istore 4, 2) := by decide +kernel
theorem dX0_fillBest_11 : decode cX0_fillBest 11 = .ok (.iload 4, 2) := by decide +kernel
theorem dX0_fillBest_13 : decode cX0_fillBest 13 = .ok (.ifCond .lt 155, 3) := by decide +kernel
theorem dX0_fillBest_16 : decode cX0_fillBest 16 = .ok (.aload_n 2, 1) := by decide +kernel
theorem dX0_fillBest_17 : decode cX0_fillBest 17 = .ok (.getfield 29, 3) := by decide +kernel
theorem dX0_fillBest_20 : decode cX0_fillBest 20 = .ok (.bipush 30, 2) := by decide +kernel
theorem dX0_fillBest_22 : decode cX0_fillBest 22 = .ok (.invokestatic 54, 3) := by decide +kernel
theorem dX0_fillBest_25 : decode cX0_fillBest 25 = .ok (.istore 5, 2) := by decide +kernel
theorem dX0_fillBest_27 : decode cX0_fillBest 27 = .ok (.iload 5, 2) := by decide +kernel
theorem dX0_fillBest_29 : decode cX0_fillBest 29 = .ok (.ifCond .lt 133, 3) := by decide +kernel
theorem dX0_fillBest_32 : decode cX0_fillBest 32 = .ok (.iconst 0, 1) := by decide +kernel
theorem dX0_fillBest_33 : decode cX0_fillBest 33 = .ok (.istore 6, 2) := by decide +kernel
theorem dX0_fillBest_35 : decode cX0_fillBest 35 = .ok (.iload 4, 2) := by decide +kernel
theorem dX0_fillBest_37 : decode cX0_fillBest 37 = .ok (.aload_n 1, 1) := by decide +kernel
theorem dX0_fillBest_38 : decode cX0_fillBest 38 = .ok (.getfield 29, 3) := by decide +kernel
theorem dX0_fillBest_41 : decode cX0_fillBest 41 = .ok (.if_icmp .ge 81, 3) := by decide +kernel
theorem dX0_fillBest_44 : decode cX0_fillBest 44 = .ok (.iload 5, 2) := by decide +kernel
theorem dX0_fillBest_46 : decode cX0_fillBest 46 = .ok (.aload_n 2, 1) := by decide +kernel
theorem dX0_fillBest_47 : decode cX0_fillBest 47 = .ok (.getfield 29, 3) := by decide +kernel
theorem dX0_fillBest_50 : decode cX0_fillBest 50 = .ok (.if_icmp .ge 72, 3) := by decide +kernel
theorem dX0_fillBest_53 : decode cX0_fillBest 53 = .ok (.aload_n 1, 1) := by decide +kernel
theorem dX0_fillBest_54 : decode cX0_fillBest 54 = .ok (.iload 4, 2) := by decide +kernel
theorem dX0_fillBest_56 : decode cX0_fillBest 56 = .ok (.aload_n 2, 1) := by decide +kernel
theorem dX0_fillBest_57 : decode cX0_fillBest 57 = .ok (.iload 5, 2) := by decide +kernel
theorem dX0_fillBest_59 : decode cX0_fillBest 59 = .ok (.iload_n 3, 1) := by decide +kernel
theorem dX0_fillBest_60 : decode cX0_fillBest 60 = .ok (.invokestatic 58, 3) := by decide +kernel
theorem dX0_fillBest_63 : decode cX0_fillBest 63 = .ok (.istore 7, 2) := by decide +kernel
theorem dX0_fillBest_65 : decode cX0_fillBest 65 = .ok (.aload_n 0, 1) := by decide +kernel
theorem dX0_fillBest_66 : decode cX0_fillBest 66 = .ok (.iload 4, 2) := by decide +kernel
theorem dX0_fillBest_68 : decode cX0_fillBest 68 = .ok (.iconst 1, 1) := by decide +kernel
theorem dX0_fillBest_69 : decode cX0_fillBest 69 = .ok (.iadd, 1) := by decide +kernel
theorem dX0_fillBest_70 : decode cX0_fillBest 70 = .ok (.iload 5, 2) := by decide +kernel
theorem dX0_fillBest_72 : decode cX0_fillBest 72 = .ok (.invokevirtual 61, 3) := by decide +kernel
theorem dX0_fillBest_75 : decode cX0_fillBest 75 = .ok (.aload_n 0, 1) := by decide +kernel
theorem dX0_fillBest_76 : decode cX0_fillBest 76 = .ok (.iload 4, 2) := by decide +kernel
theorem dX0_fillBest_78 : decode cX0_fillBest 78 = .ok (.iload 5, 2) := by decide +kernel
theorem dX0_fillBest_80 : decode cX0_fillBest 80 = .ok (.iconst 1, 1) := by decide +kernel
theorem dX0_fillBest_81 : decode cX0_fillBest 81 = .ok (.iadd, 1) := by decide +kernel
theorem dX0_fillBest_82 : decode cX0_fillBest 82 = .ok (.invokevirtual 61, 3) := by decide +kernel
theorem dX0_fillBest_85 : decode cX0_fillBest 85 = .ok (.invokestatic 64, 3) := by decide +kernel
theorem dX0_fillBest_88 : decode cX0_fillBest 88 = .ok (.istore 6, 2) := by decide +kernel
theorem dX0_fillBest_90 : decode cX0_fillBest 90 = .ok (.iload 7, 2) := by decide +kernel
theorem dX0_fillBest_92 : decode cX0_fillBest 92 = .ok (.ifCond .le 26, 3) := by decide +kernel
theorem dX0_fillBest_95 : decode cX0_fillBest 95 = .ok (.iload 6, 2) := by decide +kernel
theorem dX0_fillBest_97 : decode cX0_fillBest 97 = .ok (.iload 7, 2) := by decide +kernel
theorem dX0_fillBest_99 : decode cX0_fillBest 99 = .ok (.aload_n 0, 1) := by decide +kernel
theorem dX0_fillBest_100 : decode cX0_fillBest 100 = .ok (.iload 4, 2) := by decide +kernel
theorem dX0_fillBest_102 : decode cX0_fillBest 102 = .ok (.iconst 1, 1) := by decide +kernel
theorem dX0_fillBest_103 : decode cX0_fillBest 103 = .ok (.iadd, 1) := by decide +kernel
theorem dX0_fillBest_104 : decode cX0_fillBest 104 = .ok (.iload 5, 2) := by decide +kernel
theorem dX0_fillBest_106 : decode cX0_fillBest 106 = .ok (.iconst 1, 1) := by decide +kernel
theorem dX0_fillBest_107 : decode cX0_fillBest 107 = .ok (.iadd, 1) := by decide +kernel
theorem dX0_fillBest_108 : decode cX0_fillBest 108 = .ok (.invokevirtual 61, 3) := by decide +kernel
theorem dX0_fillBest_111 : decode cX0_fillBest 111 = .ok (.iadd, 1) := by decide +kernel
theorem dX0_fillBest_112 : decode cX0_fillBest 112 = .ok (.invokestatic 64, 3) := by decide +kernel
theorem dX0_fillBest_115 : decode cX0_fillBest 115 = .ok (.goto 5, 3) := by decide +kernel
theorem dX0_fillBest_118 : decode cX0_fillBest 118 = .ok (.iload 6, 2) := by decide +kernel
theorem dX0_fillBest_120 : decode cX0_fillBest 120 = .ok (.istore 6, 2) := by decide +kernel
theorem dX0_fillBest_122 : decode cX0_fillBest 122 = .ok (.iload 4, 2) := by decide +kernel
theorem dX0_fillBest_124 : decode cX0_fillBest 124 = .ok (.bipush 31, 2) := by decide +kernel
theorem dX0_fillBest_126 : decode cX0_fillBest 126 = .ok (.imul, 1) := by decide +kernel
theorem dX0_fillBest_127 : decode cX0_fillBest 127 = .ok (.iload 5, 2) := by decide +kernel
theorem dX0_fillBest_129 : decode cX0_fillBest 129 = .ok (.iadd, 1) := by decide +kernel
theorem dX0_fillBest_130 : decode cX0_fillBest 130 = .ok (.istore 7, 2) := by decide +kernel
theorem dX0_fillBest_132 : decode cX0_fillBest 132 = .ok (.iload 7, 2) := by decide +kernel
theorem dX0_fillBest_134 : decode cX0_fillBest 134 = .ok (.ifCond .lt 22, 3) := by decide +kernel
theorem dX0_fillBest_137 : decode cX0_fillBest 137 = .ok (.iload 7, 2) := by decide +kernel
theorem dX0_fillBest_139 : decode cX0_fillBest 139 = .ok (.aload_n 0, 1) := by decide +kernel
theorem dX0_fillBest_140 : decode cX0_fillBest 140 = .ok (.getfield 9, 3) := by decide +kernel
theorem dX0_fillBest_143 : decode cX0_fillBest 143 = .ok (.arraylength, 1) := by decide +kernel
theorem dX0_fillBest_144 : decode cX0_fillBest 144 = .ok (.if_icmp .ge 12, 3) := by decide +kernel
theorem dX0_fillBest_147 : decode cX0_fillBest 147 = .ok (.aload_n 0, 1) := by decide +kernel
theorem dX0_fillBest_148 : decode cX0_fillBest 148 = .ok (.getfield 9, 3) := by decide +kernel
theorem dX0_fillBest_151 : decode cX0_fillBest 151 = .ok (.iload 7, 2) := by decide +kernel
theorem dX0_fillBest_153 : decode cX0_fillBest 153 = .ok (.iload 6, 2) := by decide +kernel
theorem dX0_fillBest_155 : decode cX0_fillBest 155 = .ok (.iastore, 1) := by decide +kernel
theorem dX0_fillBest_156 : decode cX0_fillBest 156 = .ok (.iinc 5 (-1), 3) := by decide +kernel
theorem dX0_fillBest_159 : decode cX0_fillBest 159 = .ok (.goto (-132), 3) := by decide +kernel
theorem dX0_fillBest_162 : decode cX0_fillBest 162 = .ok (.iinc 4 (-1), 3) := by decide +kernel
theorem dX0_fillBest_165 : decode cX0_fillBest 165 = .ok (.goto (-154), 3) := by decide +kernel
theorem dX0_fillBest_168 : decode cX0_fillBest 168 = .ok (.return_, 1) := by decide +kernel
theorem dX0_choose_0 : decode cX0_choose 0 = .ok (.aload_n 0, 1) := by decide +kernel
theorem dX0_choose_1 : decode cX0_choose 1 = .ok (.iload_n 2, 1) := by decide +kernel
theorem dX0_choose_2 : decode cX0_choose 2 = .ok (.iload 4, 2) := by decide +kernel
theorem dX0_choose_4 : decode cX0_choose 4 = .ok (.invokevirtual 61, 3) := by decide +kernel
theorem dX0_choose_7 : decode cX0_choose 7 = .ok (.istore 6, 2) := by decide +kernel
theorem dX0_choose_9 : decode cX0_choose 9 = .ok (.iload 4, 2) := by decide +kernel
theorem dX0_choose_11 : decode cX0_choose 11 = .ok (.istore 7, 2) := by decide +kernel
theorem dX0_choose_13 : decode cX0_choose 13 = .ok (.iload 7, 2) := by decide +kernel
theorem dX0_choose_15 : decode cX0_choose 15 = .ok (.aload_n 3, 1) := by decide +kernel
theorem dX0_choose_16 : decode cX0_choose 16 = .ok (.getfield 29, 3) := by decide +kernel
theorem dX0_choose_19 : decode cX0_choose 19 = .ok (.if_icmp .ge 48, 3) := by decide +kernel
theorem dX0_choose_22 : decode cX0_choose 22 = .ok (.aload_n 1, 1) := by decide +kernel
theorem dX0_choose_23 : decode cX0_choose 23 = .ok (.iload_n 2, 1) := by decide +kernel
theorem dX0_choose_24 : decode cX0_choose 24 = .ok (.aload_n 3, 1) := by decide +kernel
theorem dX0_choose_25 : decode cX0_choose 25 = .ok (.iload 7, 2) := by decide +kernel
theorem dX0_choose_27 : decode cX0_choose 27 = .ok (.iload 5, 2) := by decide +kernel
theorem dX0_choose_29 : decode cX0_choose 29 = .ok (.invokestatic 58, 3) := by decide +kernel
theorem dX0_choose_32 : decode cX0_choose 32 = .ok (.istore 8, 2) := by decide +kernel
theorem dX0_choose_34 : decode cX0_choose 34 = .ok (.iload 8, 2) := by decide +kernel
theorem dX0_choose_36 : decode cX0_choose 36 = .ok (.ifCond .le 25, 3) := by decide +kernel
theorem dX0_choose_39 : decode cX0_choose 39 = .ok (.iload 8, 2) := by decide +kernel
theorem dX0_choose_41 : decode cX0_choose 41 = .ok (.aload_n 0, 1) := by decide +kernel
theorem dX0_choose_42 : decode cX0_choose 42 = .ok (.iload_n 2, 1) := by decide +kernel
theorem dX0_choose_43 : decode cX0_choose 43 = .ok (.iconst 1, 1) := by decide +kernel
theorem dX0_choose_44 : decode cX0_choose 44 = .ok (.iadd, 1) := by decide +kernel
theorem dX0_choose_45 : decode cX0_choose 45 = .ok (.iload 7, 2) := by decide +kernel
theorem dX0_choose_47 : decode cX0_choose 47 = .ok (.iconst 1, 1) := by decide +kernel
theorem dX0_choose_48 : decode cX0_choose 48 = .ok (.iadd, 1) := by decide +kernel
theorem dX0_choose_49 : decode cX0_choose 49 = .ok (.invokevirtual 61, 3) := by decide +kernel
theorem dX0_choose_52 : decode cX0_choose 52 = .ok (.iadd, 1) := by decide +kernel
theorem dX0_choose_53 : decode cX0_choose 53 = .ok (.iload 6, 2) := by decide +kernel
theorem dX0_choose_55 : decode cX0_choose 55 = .ok (.if_icmp .ne 6, 3) := by decide +kernel
theorem dX0_choose_58 : decode cX0_choose 58 = .ok (.iload 7, 2) := by decide +kernel
theorem dX0_choose_60 : decode cX0_choose 60 = .ok (.ireturn, 1) := by decide +kernel
theorem dX0_choose_61 : decode cX0_choose 61 = .ok (.iinc 7 1, 3) := by decide +kernel
theorem dX0_choose_64 : decode cX0_choose 64 = .ok (.goto (-51), 3) := by decide +kernel
theorem dX0_choose_67 : decode cX0_choose 67 = .ok (.iconst (-1), 1) := by decide +kernel
theorem dX0_choose_68 : decode cX0_choose 68 = .ok (.ireturn, 1) := by decide +kernel
theorem dX1_init_0 : decode cX1_init 0 = .ok (.aload_n 0, 1) := by decide +kernel
theorem dX1_init_1 : decode cX1_init 1 = .ok (.invokespecial 3, 3) := by decide +kernel
theorem dX1_init_4 : decode cX1_init 4 = .ok (.aload_n 0, 1) := by decide +kernel
theorem dX1_init_5 : decode cX1_init 5 = .ok (.bipush 6, 2) := by decide +kernel
theorem dX1_init_7 : decode cX1_init 7 = .ok (.newarray .int, 2) := by decide +kernel
theorem dX1_init_9 : decode cX1_init 9 = .ok (.putfield 9, 3) := by decide +kernel
theorem dX1_init_12 : decode cX1_init 12 = .ok (.aload_n 0, 1) := by decide +kernel
theorem dX1_init_13 : decode cX1_init 13 = .ok (.bipush 6, 2) := by decide +kernel
theorem dX1_init_15 : decode cX1_init 15 = .ok (.newarray .int, 2) := by decide +kernel
theorem dX1_init_17 : decode cX1_init 17 = .ok (.putfield 15, 3) := by decide +kernel
theorem dX1_init_20 : decode cX1_init 20 = .ok (.aload_n 0, 1) := by decide +kernel
theorem dX1_init_21 : decode cX1_init 21 = .ok (.bipush 6, 2) := by decide +kernel
theorem dX1_init_23 : decode cX1_init 23 = .ok (.newarray .int, 2) := by decide +kernel
theorem dX1_init_25 : decode cX1_init 25 = .ok (.putfield 18, 3) := by decide +kernel
theorem dX1_init_28 : decode cX1_init 28 = .ok (.aload_n 0, 1) := by decide +kernel
theorem dX1_init_29 : decode cX1_init 29 = .ok (.bipush 12, 2) := by decide +kernel
theorem dX1_init_31 : decode cX1_init 31 = .ok (.anewarray 21, 3) := by decide +kernel
theorem dX1_init_34 : decode cX1_init 34 = .ok (.putfield 23, 3) := by decide +kernel
theorem dX1_init_37 : decode cX1_init 37 = .ok (.aload_n 0, 1) := by decide +kernel
theorem dX1_init_38 : decode cX1_init 38 = .ok (.new 21, 3) := by decide +kernel
theorem dX1_init_41 : decode cX1_init 41 = .ok (.dup, 1) := by decide +kernel
theorem dX1_init_42 : decode cX1_init 42 = .ok (.invokespecial 27, 3) := by decide +kernel
theorem dX1_init_45 : decode cX1_init 45 = .ok (.putfield 28, 3) := by decide +kernel
theorem dX1_init_48 : decode cX1_init 48 = .ok (.aload_n 0, 1) := by decide +kernel
theorem dX1_init_49 : decode cX1_init 49 = .ok (.bipush 50, 2) := by decide +kernel
theorem dX1_init_51 : decode cX1_init 51 = .ok (.putfield 32, 3) := by decide +kernel
theorem dX1_init_54 : decode cX1_init 54 = .ok (.aload_n 0, 1) := by decide +kernel
theorem dX1_init_55 : decode cX1_init 55 = .ok (.bipush 20, 2) := by decide +kernel
theorem dX1_init_57 : decode cX1_init 57 = .ok (.putfield 36, 3) := by decide +kernel
theorem dX1_init_60 : decode cX1_init 60 = .ok (.iconst 0, 1) := by decide +kernel
theorem dX1_init_61 : decode cX1_init 61 = .ok (.istore_n 1, 1) := by decide +kernel
theorem dX1_init_62 : decode cX1_init 62 = .ok (.iload_n 1, 1) := by decide +kernel
theorem dX1_init_63 : decode cX1_init 63 = .ok (.aload_n 0, 1) := by decide +kernel
theorem dX1_init_64 : decode cX1_init 64 = .ok (.getfield 23, 3) := by decide +kernel
theorem dX1_init_67 : decode cX1_init 67 = .ok (.arraylength, 1) := by decide +kernel
theorem dX1_init_68 : decode cX1_init 68 = .ok (.if_icmp .ge 22, 3) := by decide +kernel
theorem dX1_init_71 : decode cX1_init 71 = .ok (.aload_n 0, 1) := by decide +kernel
theorem dX1_init_72 : decode cX1_init 72 = .ok (.getfield 23, 3) := by decide +kernel
theorem dX1_init_75 : decode cX1_init 75 = .ok (.iload_n 1, 1) := by decide +kernel
theorem dX1_init_76 : decode cX1_init 76 = .ok (.new 21, 3) := by decide +kernel
theorem dX1_init_79 : decode cX1_init 79 = .ok (.dup, 1) := by decide +kernel
theorem dX1_init_80 : decode cX1_init 80 = .ok (.invokespecial 27, 3) := by decide +kernel
theorem dX1_init_83 : decode cX1_init 83 = .ok (.aastore, 1) := by decide +kernel
theorem dX1_init_84 : decode cX1_init 84 = .ok (.iinc 1 1, 3) := by decide +kernel
theorem dX1_init_87 : decode cX1_init 87 = .ok (.goto (-25), 3) := by decide +kernel
theorem dX1_init_90 : decode cX1_init 90 = .ok (.return_, 1) := by decide +kernel
theorem dX1_reset_0 : decode cX1_reset 0 = .ok (.aload_n 0, 1) := by decide +kernel
theorem dX1_reset_1 : decode cX1_reset 1 = .ok (.iconst 0, 1) := by decide +kernel
theorem dX1_reset_2 : decode cX1_reset 2 = .ok (.putfield 39, 3) := by decide +kernel
theorem dX1_reset_5 : decode cX1_reset 5 = .ok (.aload_n 0, 1) := by decide +kernel
theorem dX1_reset_6 : decode cX1_reset 6 = .ok (.iconst 0, 1) := by decide +kernel
theorem dX1_reset_7 : decode cX1_reset 7 = .ok (.putfield 42, 3) := by decide +kernel
theorem dX1_reset_10 : decode cX1_reset 10 = .ok (.aload_n 0, 1) := by decide +kernel
theorem dX1_reset_11 : decode cX1_reset 11 = .ok (.bipush 50, 2) := by decide +kernel
theorem dX1_reset_13 : decode cX1_reset 13 = .ok (.putfield 32, 3) := by decide +kernel
theorem dX1_reset_16 : decode cX1_reset 16 = .ok (.aload_n 0, 1) := by decide +kernel
theorem dX1_reset_17 : decode cX1_reset 17 = .ok (.bipush 20, 2) := by decide +kernel
theorem dX1_reset_19 : decode cX1_reset 19 = .ok (.putfield 36, 3) := by decide +kernel
theorem dX1_reset_22 : decode cX1_reset 22 = .ok (.return_, 1) := by decide +kernel
theorem dX1_copyFrom_0 : decode cX1_copyFrom 0 = .ok (.aload_n 0, 1) := by decide +kernel
theorem dX1_copyFrom_1 : decode cX1_copyFrom 1 = .ok (.aload_n 1, 1) := by decide +kernel
theorem dX1_copyFrom_2 : decode cX1_copyFrom 2 = .ok (.getfield 39, 3) := by decide +kernel
theorem dX1_copyFrom_5 : decode cX1_copyFrom 5 = .ok (.putfield 39, 3) := by decide +kernel
theorem dX1_copyFrom_8 : decode cX1_copyFrom 8 = .ok (.aload_n 0, 1) := by decide +kernel
theorem dX1_copyFrom_9 : decode cX1_copyFrom 9 = .ok (.aload_n 1, 1) := by decide +kernel
theorem dX1_copyFrom_10 : decode cX1_copyFrom 10 = .ok (.getfield 42, 3) := by decide +kernel
theorem dX1_copyFrom_13 : decode cX1_copyFrom 13 = .ok (.putfield 42, 3) := by decide +kernel
theorem dX1_copyFrom_16 : decode cX1_copyFrom 16 = .ok (.aload_n 0, 1) := by decide +kernel
theorem dX1_copyFrom_17 : decode cX1_copyFrom 17 = .ok (.aload_n 1, 1) := by decide +kernel
theorem dX1_copyFrom_18 : decode cX1_copyFrom 18 = .ok (.getfield 32, 3) := by decide +kernel
theorem dX1_copyFrom_21 : decode cX1_copyFrom 21 = .ok (.putfield 32, 3) := by decide +kernel
theorem dX1_copyFrom_24 : decode cX1_copyFrom 24 = .ok (.aload_n 0, 1) := by decide +kernel
theorem dX1_copyFrom_25 : decode cX1_copyFrom 25 = .ok (.aload_n 1, 1) := by decide +kernel
theorem dX1_copyFrom_26 : decode cX1_copyFrom 26 = .ok (.getfield 36, 3) := by decide +kernel
theorem dX1_copyFrom_29 : decode cX1_copyFrom 29 = .ok (.putfield 36, 3) := by decide +kernel
theorem dX1_copyFrom_32 : decode cX1_copyFrom 32 = .ok (.iconst 0, 1) := by decide +kernel
theorem dX1_copyFrom_33 : decode cX1_copyFrom 33 = .ok (.istore_n 2, 1) := by decide +kernel
theorem dX1_copyFrom_34 : decode cX1_copyFrom 34 = .ok (.iload_n 2, 1) := by decide +kernel
theorem dX1_copyFrom_35 : decode cX1_copyFrom 35 = .ok (.aload_n 0, 1) := by decide +kernel
theorem dX1_copyFrom_36 : decode cX1_copyFrom 36 = .ok (.getfield 39, 3) := by decide +kernel
theorem dX1_copyFrom_39 : decode cX1_copyFrom 39 = .ok (.if_icmp .ge 59, 3) := by decide +kernel
theorem dX1_copyFrom_42 : decode cX1_copyFrom 42 = .ok (.aload_n 0, 1) := by decide +kernel
theorem dX1_copyFrom_43 : decode cX1_copyFrom 43 = .ok (.iload_n 2, 1) := by decide +kernel
theorem dX1_copyFrom_44 : decode cX1_copyFrom 44 = .ok (.aload_n 1, 1) := by decide +kernel
theorem dX1_copyFrom_45 : decode cX1_copyFrom 45 = .ok (.iload_n 2, 1) := by decide +kernel
theorem dX1_copyFrom_46 : decode cX1_copyFrom 46 = .ok (.invokevirtual 45, 3) := by decide +kernel
theorem dX1_copyFrom_49 : decode cX1_copyFrom 49 = .ok (.aload_n 1, 1) := by decide +kernel
theorem dX1_copyFrom_50 : decode cX1_copyFrom 50 = .ok (.iload_n 2, 1) := by decide +kernel
theorem dX1_copyFrom_51 : decode cX1_copyFrom 51 = .ok (.invokevirtual 49, 3) := by decide +kernel
theorem dX1_copyFrom_54 : decode cX1_copyFrom 54 = .ok (.aload_n 1, 1) := by decide +kernel
theorem dX1_copyFrom_55 : decode cX1_copyFrom 55 = .ok (.iload_n 2, 1) := by decide +kernel
theorem dX1_copyFrom_56 : decode cX1_copyFrom 56 = .ok (.invokevirtual 52, 3) := by decide +kernel
theorem dX1_copyFrom_59 : decode cX1_copyFrom 59 = .ok (.invokevirtual 55, 3) := by decide +kernel
theorem dX1_copyFrom_62 : decode cX1_copyFrom 62 = .ok (.aload_n 0, 1) := by decide +kernel
theorem dX1_copyFrom_63 : decode cX1_copyFrom 63 = .ok (.iconst 0, 1) := by decide +kernel
theorem dX1_copyFrom_64 : decode cX1_copyFrom 64 = .ok (.iload_n 2, 1) := by decide +kernel
theorem dX1_copyFrom_65 : decode cX1_copyFrom 65 = .ok (.invokevirtual 59, 3) := by decide +kernel
theorem dX1_copyFrom_68 : decode cX1_copyFrom 68 = .ok (.aload_n 1, 1) := by decide +kernel
theorem dX1_copyFrom_69 : decode cX1_copyFrom 69 = .ok (.iconst 0, 1) := by decide +kernel
theorem dX1_copyFrom_70 : decode cX1_copyFrom 70 = .ok (.iload_n 2, 1) := by decide +kernel
theorem dX1_copyFrom_71 : decode cX1_copyFrom 71 = .ok (.invokevirtual 59, 3) := by decide +kernel
theorem dX1_copyFrom_74 : decode cX1_copyFrom 74 = .ok (.invokevirtual 63, 3) := by decide +kernel
theorem dX1_copyFrom_77 : decode cX1_copyFrom 77 = .ok (.aload_n 0, 1) := by decide +kernel
theorem dX1_copyFrom_78 : decode cX1_copyFrom 78 = .ok (.iconst 1, 1) := by decide +kernel
theorem dX1_copyFrom_79 : decode cX1_copyFrom 79 = .ok (.iload_n 2, 1) := by decide +kernel
theorem dX1_copyFrom_80 : decode cX1_copyFrom 80 = .ok (.invokevirtual 59, 3) := by decide +kernel
theorem dX1_copyFrom_83 : decode cX1_copyFrom 83 = .ok (.aload_n 1, 1) := by decide +kernel
theorem dX1_copyFrom_84 : decode cX1_copyFrom 84 = .ok (.iconst 1, 1) := by decide +kernel
theorem dX1_copyFrom_85 : decode cX1_copyFrom 85 = .ok (.iload_n 2, 1) := by decide +kernel
theorem dX1_copyFrom_86 : decode cX1_copyFrom 86 = .ok (.invokevirtual 59, 3) := by decide +kernel
theorem dX1_copyFrom_89 : decode cX1_copyFrom 89 = .ok (.invokevirtual 63, 3) := by decide +kernel
theorem dX1_copyFrom_92 : decode cX1_copyFrom 92 = .ok (.iinc 2 1, 3) := by decide +kernel
theorem dX1_copyFrom_95 : decode cX1_copyFrom 95 = .ok (.goto (-61), 3) := by decide +kernel
theorem dX1_copyFrom_98 : decode cX1_copyFrom 98 = .ok (.return_, 1) := by decide +kernel
theorem dX1_hasTier_0 : decode cX1_hasTier 0 = .ok (.iload_n 1, 1) := by decide +kernel
theorem dX1_hasTier_1 : decode cX1_hasTier 1 = .ok (.ifCond .lt 15, 3) := by decide +kernel
theorem dX1_hasTier_4 : decode cX1_hasTier 4 = .ok (.iload_n 1, 1) := by decide +kernel
theorem dX1_hasTier_5 : decode cX1_hasTier 5 = .ok (.aload_n 0, 1) := by decide +kernel
theorem dX1_hasTier_6 : decode cX1_hasTier 6 = .ok (.getfield 39, 3) := by decide +kernel
theorem dX1_hasTier_9 : decode cX1_hasTier 9 = .ok (.if_icmp .ge 7, 3) := by decide +kernel
theorem dX1_hasTier_12 : decode cX1_hasTier 12 = .ok (.iconst 1, 1) := by decide +kernel
theorem dX1_hasTier_13 : decode cX1_hasTier 13 = .ok (.goto 4, 3) := by decide +kernel
theorem dX1_hasTier_16 : decode cX1_hasTier 16 = .ok (.iconst 0, 1) := by decide +kernel
theorem dX1_hasTier_17 : decode cX1_hasTier 17 = .ok (.ireturn, 1) := by decide +kernel
theorem dX1_hasSpan_0 : decode cX1_hasSpan 0 = .ok (.aload_n 0, 1) := by decide +kernel
theorem dX1_hasSpan_1 : decode cX1_hasSpan 1 = .ok (.iload_n 1, 1) := by decide +kernel
theorem dX1_hasSpan_2 : decode cX1_hasSpan 2 = .ok (.invokevirtual 67, 3) := by decide +kernel
theorem dX1_hasSpan_5 : decode cX1_hasSpan 5 = .ok (.ifCond .eq 23, 3) := by decide +kernel
theorem dX1_hasSpan_8 : decode cX1_hasSpan 8 = .ok (.iload_n 2, 1) := by decide +kernel
theorem dX1_hasSpan_9 : decode cX1_hasSpan 9 = .ok (.ifCond .lt 19, 3) := by decide +kernel
theorem dX1_hasSpan_12 : decode cX1_hasSpan 12 = .ok (.iload_n 2, 1) := by decide +kernel
theorem dX1_hasSpan_13 : decode cX1_hasSpan 13 = .ok (.aload_n 0, 1) := by decide +kernel
theorem dX1_hasSpan_14 : decode cX1_hasSpan 14 = .ok (.iload_n 1, 1) := by decide +kernel
theorem dX1_hasSpan_15 : decode cX1_hasSpan 15 = .ok (.invokevirtual 71, 3) := by decide +kernel
theorem dX1_hasSpan_18 : decode cX1_hasSpan 18 = .ok (.getfield 75, 3) := by decide +kernel
theorem dX1_hasSpan_21 : decode cX1_hasSpan 21 = .ok (.if_icmp .ge 7, 3) := by decide +kernel
theorem dX1_hasSpan_24 : decode cX1_hasSpan 24 = .ok (.iconst 1, 1) := by decide +kernel
theorem dX1_hasSpan_25 : decode cX1_hasSpan 25 = .ok (.goto 4, 3) := by decide +kernel
theorem dX1_hasSpan_28 : decode cX1_hasSpan 28 = .ok (.iconst 0, 1) := by decide +kernel
theorem dX1_hasSpan_29 : decode cX1_hasSpan 29 = .ok (.ireturn, 1) := by decide +kernel
theorem dX1_kindOf_0 : decode cX1_kindOf 0 = .ok (.iload_n 1, 1) := by decide +kernel
theorem dX1_kindOf_1 : decode cX1_kindOf 1 = .ok (.ifCond .lt 18, 3) := by decide +kernel
theorem dX1_kindOf_4 : decode cX1_kindOf 4 = .ok (.iload_n 1, 1) := by decide +kernel
theorem dX1_kindOf_5 : decode cX1_kindOf 5 = .ok (.bipush 6, 2) := by decide +kernel
theorem dX1_kindOf_7 : decode cX1_kindOf 7 = .ok (.if_icmp .ge 12, 3) := by decide +kernel
theorem dX1_kindOf_10 : decode cX1_kindOf 10 = .ok (.aload_n 0, 1) := by decide +kernel
theorem dX1_kindOf_11 : decode cX1_kindOf 11 = .ok (.getfield 9, 3) := by decide +kernel
theorem dX1_kindOf_14 : decode cX1_kindOf 14 = .ok (.iload_n 1, 1) := by decide +kernel
theorem dX1_kindOf_15 : decode cX1_kindOf 15 = .ok (.iaload, 1) := by decide +kernel
theorem dX1_kindOf_16 : decode cX1_kindOf 16 = .ok (.goto 4, 3) := by decide +kernel
theorem dX1_kindOf_19 : decode cX1_kindOf 19 = .ok (.iconst 0, 1) := by decide +kernel
theorem dX1_kindOf_20 : decode cX1_kindOf 20 = .ok (.ireturn, 1) := by decide +kernel
theorem dX1_ruleOf_0 : decode cX1_ruleOf 0 = .ok (.iload_n 1, 1) := by decide +kernel
theorem dX1_ruleOf_1 : decode cX1_ruleOf 1 = .ok (.ifCond .lt 18, 3) := by decide +kernel
theorem dX1_ruleOf_4 : decode cX1_ruleOf 4 = .ok (.iload_n 1, 1) := by decide +kernel
theorem dX1_ruleOf_5 : decode cX1_ruleOf 5 = .ok (.bipush 6, 2) := by decide +kernel
theorem dX1_ruleOf_7 : decode cX1_ruleOf 7 = .ok (.if_icmp .ge 12, 3) := by decide +kernel
theorem dX1_ruleOf_10 : decode cX1_ruleOf 10 = .ok (.aload_n 0, 1) := by decide +kernel
theorem dX1_ruleOf_11 : decode cX1_ruleOf 11 = .ok (.getfield 15, 3) := by decide +kernel
theorem dX1_ruleOf_14 : decode cX1_ruleOf 14 = .ok (.iload_n 1, 1) := by decide +kernel
theorem dX1_ruleOf_15 : decode cX1_ruleOf 15 = .ok (.iaload, 1) := by decide +kernel
theorem dX1_ruleOf_16 : decode cX1_ruleOf 16 = .ok (.goto 4, 3) := by decide +kernel
theorem dX1_ruleOf_19 : decode cX1_ruleOf 19 = .ok (.iconst 0, 1) := by decide +kernel
theorem dX1_ruleOf_20 : decode cX1_ruleOf 20 = .ok (.ireturn, 1) := by decide +kernel
theorem dX1_parentOf_0 : decode cX1_parentOf 0 = .ok (.iload_n 1, 1) := by decide +kernel
theorem dX1_parentOf_1 : decode cX1_parentOf 1 = .ok (.ifCond .lt 18, 3) := by decide +kernel
theorem dX1_parentOf_4 : decode cX1_parentOf 4 = .ok (.iload_n 1, 1) := by decide +kernel
theorem dX1_parentOf_5 : decode cX1_parentOf 5 = .ok (.bipush 6, 2) := by decide +kernel
theorem dX1_parentOf_7 : decode cX1_parentOf 7 = .ok (.if_icmp .ge 12, 3) := by decide +kernel
theorem dX1_parentOf_10 : decode cX1_parentOf 10 = .ok (.aload_n 0, 1) := by decide +kernel
theorem dX1_parentOf_11 : decode cX1_parentOf 11 = .ok (.getfield 18, 3) := by decide +kernel
theorem dX1_parentOf_14 : decode cX1_parentOf 14 = .ok (.iload_n 1, 1) := by decide +kernel
theorem dX1_parentOf_15 : decode cX1_parentOf 15 = .ok (.iaload, 1) := by decide +kernel
theorem dX1_parentOf_16 : decode cX1_parentOf 16 = .ok (.goto 4, 3) := by decide +kernel
theorem dX1_parentOf_19 : decode cX1_parentOf 19 = .ok (.iconst (-1), 1) := by decide +kernel
theorem dX1_parentOf_20 : decode cX1_parentOf 20 = .ok (.ireturn, 1) := by decide +kernel
theorem dX1_row_0 : decode cX1_row 0 = .ok (.iload_n 1, 1) := by decide +kernel
theorem dX1_row_1 : decode cX1_row 1 = .ok (.bipush 6, 2) := by decide +kernel
theorem dX1_row_3 : decode cX1_row 3 = .ok (.imul, 1) := by decide +kernel
theorem dX1_row_4 : decode cX1_row 4 = .ok (.iload_n 2, 1) := by decide +kernel
theorem dX1_row_5 : decode cX1_row 5 = .ok (.iadd, 1) := by decide +kernel
theorem dX1_row_6 : decode cX1_row 6 = .ok (.istore_n 3, 1) := by decide +kernel
theorem dX1_row_7 : decode cX1_row 7 = .ok (.iload_n 3, 1) := by decide +kernel
theorem dX1_row_8 : decode cX1_row 8 = .ok (.ifCond .lt 21, 3) := by decide +kernel
theorem dX1_row_11 : decode cX1_row 11 = .ok (.iload_n 3, 1) := by decide +kernel
theorem dX1_row_12 : decode cX1_row 12 = .ok (.aload_n 0, 1) := by decide +kernel
theorem dX1_row_13 : decode cX1_row 13 = .ok (.getfield 23, 3) := by decide +kernel
theorem dX1_row_16 : decode cX1_row 16 = .ok (.arraylength, 1) := by decide +kernel
theorem dX1_row_17 : decode cX1_row 17 = .ok (.if_icmp .ge 12, 3) := by decide +kernel
theorem dX1_row_20 : decode cX1_row 20 = .ok (.aload_n 0, 1) := by decide +kernel
theorem dX1_row_21 : decode cX1_row 21 = .ok (.getfield 23, 3) := by decide +kernel
theorem dX1_row_24 : decode cX1_row 24 = .ok (.iload_n 3, 1) := by decide +kernel
theorem dX1_row_25 : decode cX1_row 25 = .ok (.aaload, 1) := by decide +kernel
theorem dX1_row_26 : decode cX1_row 26 = .ok (.goto 4, 3) := by decide +kernel
theorem dX1_row_29 : decode cX1_row 29 = .ok (.aconst_null, 1) := by decide +kernel
theorem dX1_row_30 : decode cX1_row 30 = .ok (.astore 4, 2) := by decide +kernel
theorem dX1_row_32 : decode cX1_row 32 = .ok (.aload 4, 2) := by decide +kernel
theorem dX1_row_34 : decode cX1_row 34 = .ok (.ifnull 8, 3) := by decide +kernel
theorem dX1_row_37 : decode cX1_row 37 = .ok (.aload 4, 2) := by decide +kernel
theorem dX1_row_39 : decode cX1_row 39 = .ok (.goto 7, 3) := by decide +kernel
theorem dX1_row_42 : decode cX1_row 42 = .ok (.aload_n 0, 1) := by decide +kernel
theorem dX1_row_43 : decode cX1_row 43 = .ok (.getfield 28, 3) := by decide +kernel
theorem dX1_row_46 : decode cX1_row 46 = .ok (.areturn, 1) := by decide +kernel
theorem dX1_present_0 : decode cX1_present 0 = .ok (.aload_n 0, 1) := by decide +kernel
theorem dX1_present_1 : decode cX1_present 1 = .ok (.aload_n 0, 1) := by decide +kernel
theorem dX1_present_2 : decode cX1_present 2 = .ok (.getfield 42, 3) := by decide +kernel
theorem dX1_present_5 : decode cX1_present 5 = .ok (.iload_n 1, 1) := by decide +kernel
theorem dX1_present_6 : decode cX1_present 6 = .ok (.invokevirtual 59, 3) := by decide +kernel
theorem dX1_present_9 : decode cX1_present 9 = .ok (.areturn, 1) := by decide +kernel
theorem dX1_setTier_0 : decode cX1_setTier 0 = .ok (.iload_n 1, 1) := by decide +kernel
theorem dX1_setTier_1 : decode cX1_setTier 1 = .ok (.ifCond .lt 31, 3) := by decide +kernel
theorem dX1_setTier_4 : decode cX1_setTier 4 = .ok (.iload_n 1, 1) := by decide +kernel
theorem dX1_setTier_5 : decode cX1_setTier 5 = .ok (.bipush 6, 2) := by decide +kernel
theorem dX1_setTier_7 : decode cX1_setTier 7 = .ok (.if_icmp .ge 25, 3) := by decide +kernel
theorem dX1_setTier_10 : decode cX1_setTier 10 = .ok (.aload_n 0, 1) := by decide +kernel
theorem dX1_setTier_11 : decode cX1_setTier 11 = .ok (.getfield 9, 3) := by decide +kernel
theorem dX1_setTier_14 : decode cX1_setTier 14 = .ok (.iload_n 1, 1) := by decide +kernel
theorem dX1_setTier_15 : decode cX1_setTier 15 = .ok (.iload_n 2, 1) := by decide +kernel
theorem dX1_setTier_16 : decode cX1_setTier 16 = .ok (.iastore, 1) := by decide +kernel
theorem dX1_setTier_17 : decode cX1_setTier 17 = .ok (.aload_n 0, 1) := by decide +kernel
theorem dX1_setTier_18 : decode cX1_setTier 18 = .ok (.getfield 15, 3) := by decide +kernel
theorem dX1_setTier_21 : decode cX1_setTier 21 = .ok (.iload_n 1, 1) := by decide +kernel
theorem dX1_setTier_22 : decode cX1_setTier 22 = .ok (.iload_n 3, 1) := by decide +kernel
theorem dX1_setTier_23 : decode cX1_setTier 23 = .ok (.iastore, 1) := by decide +kernel
theorem dX1_setTier_24 : decode cX1_setTier 24 = .ok (.aload_n 0, 1) := by decide +kernel
theorem dX1_setTier_25 : decode cX1_setTier 25 = .ok (.getfield 18, 3) := by decide +kernel
theorem dX1_setTier_28 : decode cX1_setTier 28 = .ok (.iload_n 1, 1) := by decide +kernel
theorem dX1_setTier_29 : decode cX1_setTier 29 = .ok (.iload 4, 2) := by decide +kernel
theorem dX1_setTier_31 : decode cX1_setTier 31 = .ok (.iastore, 1) := by decide +kernel
theorem dX1_setTier_32 : decode cX1_setTier 32 = .ok (.return_, 1) := by decide +kernel
theorem dX1_putTier_0 : decode cX1_putTier 0 = .ok (.aload_n 0, 1) := by decide +kernel
theorem dX1_putTier_1 : decode cX1_putTier 1 = .ok (.getfield 39, 3) := by decide +kernel
theorem dX1_putTier_4 : decode cX1_putTier 4 = .ok (.istore 4, 2) := by decide +kernel
theorem dX1_putTier_6 : decode cX1_putTier 6 = .ok (.aload_n 0, 1) := by decide +kernel
theorem dX1_putTier_7 : decode cX1_putTier 7 = .ok (.iload 4, 2) := by decide +kernel
theorem dX1_putTier_9 : decode cX1_putTier 9 = .ok (.iload_n 1, 1) := by decide +kernel
theorem dX1_putTier_10 : decode cX1_putTier 10 = .ok (.iload_n 2, 1) := by decide +kernel
theorem dX1_putTier_11 : decode cX1_putTier 11 = .ok (.iload_n 2, 1) := by decide +kernel
theorem dX1_putTier_12 : decode cX1_putTier 12 = .ok (.ifCond .ne 7, 3) := by decide +kernel
theorem dX1_putTier_15 : decode cX1_putTier 15 = .ok (.iconst (-1), 1) := by decide +kernel
theorem dX1_putTier_16 : decode cX1_putTier 16 = .ok (.goto 4, 3) := by decide +kernel
theorem dX1_putTier_19 : decode cX1_putTier 19 = .ok (.iload_n 3, 1) := by decide +kernel
theorem dX1_putTier_20 : decode cX1_putTier 20 = .ok (.invokevirtual 55, 3) := by decide +kernel
theorem dX1_putTier_23 : decode cX1_putTier 23 = .ok (.aload_n 0, 1) := by decide +kernel
theorem dX1_putTier_24 : decode cX1_putTier 24 = .ok (.iconst 0, 1) := by decide +kernel
theorem dX1_putTier_25 : decode cX1_putTier 25 = .ok (.iload 4, 2) := by decide +kernel
theorem dX1_putTier_27 : decode cX1_putTier 27 = .ok (.invokevirtual 59, 3) := by decide +kernel
theorem dX1_putTier_30 : decode cX1_putTier 30 = .ok (.iconst 0, 1) := by decide +kernel
theorem dX1_putTier_31 : decode cX1_putTier 31 = .ok (.putfield 75, 3) := by decide +kernel
theorem dX1_putTier_34 : decode cX1_putTier 34 = .ok (.aload_n 0, 1) := by decide +kernel
theorem dX1_putTier_35 : decode cX1_putTier 35 = .ok (.iconst 1, 1) := by decide +kernel
theorem dX1_putTier_36 : decode cX1_putTier 36 = .ok (.iload 4, 2) := by decide +kernel
theorem dX1_putTier_38 : decode cX1_putTier 38 = .ok (.invokevirtual 59, 3) := by decide +kernel
theorem dX1_putTier_41 : decode cX1_putTier 41 = .ok (.iconst 0, 1) := by decide +kernel
theorem dX1_putTier_42 : decode cX1_putTier 42 = .ok (.putfield 75, 3) := by decide +kernel
theorem dX1_putTier_45 : decode cX1_putTier 45 = .ok (.aload_n 0, 1) := by decide +kernel
theorem dX1_putTier_46 : decode cX1_putTier 46 = .ok (.dup, 1) := by decide +kernel
theorem dX1_putTier_47 : decode cX1_putTier 47 = .ok (.getfield 39, 3) := by decide +kernel
theorem dX1_putTier_50 : decode cX1_putTier 50 = .ok (.iconst 1, 1) := by decide +kernel
theorem dX1_putTier_51 : decode cX1_putTier 51 = .ok (.iadd, 1) := by decide +kernel
theorem dX1_putTier_52 : decode cX1_putTier 52 = .ok (.putfield 39, 3) := by decide +kernel
theorem dX1_putTier_55 : decode cX1_putTier 55 = .ok (.iload 4, 2) := by decide +kernel
theorem dX1_putTier_57 : decode cX1_putTier 57 = .ok (.ireturn, 1) := by decide +kernel
theorem dX1_childMask_0 : decode cX1_childMask 0 = .ok (.iconst 0, 1) := by decide +kernel
theorem dX1_childMask_1 : decode cX1_childMask 1 = .ok (.istore_n 2, 1) := by decide +kernel
theorem dX1_childMask_2 : decode cX1_childMask 2 = .ok (.iload_n 1, 1) := by decide +kernel
theorem dX1_childMask_3 : decode cX1_childMask 3 = .ok (.iconst 1, 1) := by decide +kernel
theorem dX1_childMask_4 : decode cX1_childMask 4 = .ok (.iadd, 1) := by decide +kernel
theorem dX1_childMask_5 : decode cX1_childMask 5 = .ok (.istore_n 3, 1) := by decide +kernel
theorem dX1_childMask_6 : decode cX1_childMask 6 = .ok (.iload_n 3, 1) := by decide +kernel
theorem dX1_childMask_7 : decode cX1_childMask 7 = .ok (.aload_n 0, 1) := by decide +kernel
theorem dX1_childMask_8 : decode cX1_childMask 8 = .ok (.getfield 39, 3) := by decide +kernel
theorem dX1_childMask_11 : decode cX1_childMask 11 = .ok (.if_icmp .ge 28, 3) := by decide +kernel
theorem dX1_childMask_14 : decode cX1_childMask 14 = .ok (.iload_n 2, 1) := by decide +kernel
theorem dX1_childMask_15 : decode cX1_childMask 15 = .ok (.aload_n 0, 1) := by decide +kernel
theorem dX1_childMask_16 : decode cX1_childMask 16 = .ok (.iload_n 3, 1) := by decide +kernel
theorem dX1_childMask_17 : decode cX1_childMask 17 = .ok (.invokevirtual 52, 3) := by decide +kernel
theorem dX1_childMask_20 : decode cX1_childMask 20 = .ok (.iload_n 1, 1) := by decide +kernel
theorem dX1_childMask_21 : decode cX1_childMask 21 = .ok (.if_icmp .ne 9, 3) := by decide +kernel
theorem dX1_childMask_24 : decode cX1_childMask 24 = .ok (.iconst 1, 1) := by decide +kernel
theorem dX1_childMask_25 : decode cX1_childMask 25 = .ok (.iload_n 3, 1) := by decide +kernel
theorem dX1_childMask_26 : decode cX1_childMask 26 = .ok (.ishl, 1) := by decide +kernel
theorem dX1_childMask_27 : decode cX1_childMask 27 = .ok (.goto 4, 3) := by decide +kernel
theorem dX1_childMask_30 : decode cX1_childMask 30 = .ok (.iconst 0, 1) := by decide +kernel
theorem dX1_childMask_31 : decode cX1_childMask 31 = .ok (.ior, 1) := by decide +kernel
theorem dX1_childMask_32 : decode cX1_childMask 32 = .ok (.istore_n 2, 1) := by decide +kernel
theorem dX1_childMask_33 : decode cX1_childMask 33 = .ok (.iinc 3 1, 3) := by decide +kernel
theorem dX1_childMask_36 : decode cX1_childMask 36 = .ok (.goto (-30), 3) := by decide +kernel
theorem dX1_childMask_39 : decode cX1_childMask 39 = .ok (.iload_n 2, 1) := by decide +kernel
theorem dX1_childMask_40 : decode cX1_childMask 40 = .ok (.ireturn, 1) := by decide +kernel
theorem dX1_spanCount_0 : decode cX1_spanCount 0 = .ok (.iconst 0, 1) := by decide +kernel
theorem dX1_spanCount_1 : decode cX1_spanCount 1 = .ok (.istore_n 1, 1) := by decide +kernel
theorem dX1_spanCount_2 : decode cX1_spanCount 2 = .ok (.iconst 0, 1) := by decide +kernel
theorem dX1_spanCount_3 : decode cX1_spanCount 3 = .ok (.istore_n 2, 1) := by decide +kernel
theorem dX1_spanCount_4 : decode cX1_spanCount 4 = .ok (.iload_n 2, 1) := by decide +kernel
theorem dX1_spanCount_5 : decode cX1_spanCount 5 = .ok (.aload_n 0, 1) := by decide +kernel
theorem dX1_spanCount_6 : decode cX1_spanCount 6 = .ok (.getfield 39, 3) := by decide +kernel
theorem dX1_spanCount_9 : decode cX1_spanCount 9 = .ok (.if_icmp .ge 31, 3) := by decide +kernel
theorem dX1_spanCount_12 : decode cX1_spanCount 12 = .ok (.iload_n 1, 1) := by decide +kernel
theorem dX1_spanCount_13 : decode cX1_spanCount 13 = .ok (.aload_n 0, 1) := by decide +kernel
theorem dX1_spanCount_14 : decode cX1_spanCount 14 = .ok (.iconst 0, 1) := by decide +kernel
theorem dX1_spanCount_15 : decode cX1_spanCount 15 = .ok (.iload_n 2, 1) := by decide +kernel
theorem dX1_spanCount_16 : decode cX1_spanCount 16 = .ok (.invokevirtual 59, 3) := by decide +kernel
theorem dX1_spanCount_19 : decode cX1_spanCount 19 = .ok (.getfield 75, 3) := by decide +kernel
theorem dX1_spanCount_22 : decode cX1_spanCount 22 = .ok (.aload_n 0, 1) := by decide +kernel
theorem dX1_spanCount_23 : decode cX1_spanCount 23 = .ok (.iconst 1, 1) := by decide +kernel
theorem dX1_spanCount_24 : decode cX1_spanCount 24 = .ok (.iload_n 2, 1) := by decide +kernel
theorem dX1_spanCount_25 : decode cX1_spanCount 25 = .ok (.invokevirtual 59, 3) := by decide +kernel
theorem dX1_spanCount_28 : decode cX1_spanCount 28 = .ok (.getfield 75, 3) := by decide +kernel
theorem dX1_spanCount_31 : decode cX1_spanCount 31 = .ok (.iadd, 1) := by decide +kernel
theorem dX1_spanCount_32 : decode cX1_spanCount 32 = .ok (.iadd, 1) := by decide +kernel
theorem dX1_spanCount_33 : decode cX1_spanCount 33 = .ok (.istore_n 1, 1) := by decide +kernel
theorem dX1_spanCount_34 : decode cX1_spanCount 34 = .ok (.iinc 2 1, 3) := by decide +kernel
theorem dX1_spanCount_37 : decode cX1_spanCount 37 = .ok (.goto (-33), 3) := by decide +kernel
theorem dX1_spanCount_40 : decode cX1_spanCount 40 = .ok (.iload_n 1, 1) := by decide +kernel
theorem dX1_spanCount_41 : decode cX1_spanCount 41 = .ok (.ireturn, 1) := by decide +kernel
theorem dX1_hostOf_0 : decode cX1_hostOf 0 = .ok (.aload_n 0, 1) := by decide +kernel
theorem dX1_hostOf_1 : decode cX1_hostOf 1 = .ok (.iload_n 2, 1) := by decide +kernel
theorem dX1_hostOf_2 : decode cX1_hostOf 2 = .ok (.invokevirtual 49, 3) := by decide +kernel
theorem dX1_hostOf_5 : decode cX1_hostOf 5 = .ok (.ifCond .ne 5, 3) := by decide +kernel
theorem dX1_hostOf_8 : decode cX1_hostOf 8 = .ok (.iconst (-1), 1) := by decide +kernel
theorem dX1_hostOf_9 : decode cX1_hostOf 9 = .ok (.ireturn, 1) := by decide +kernel
theorem dX1_hostOf_10 : decode cX1_hostOf 10 = .ok (.aload_n 0, 1) := by decide +kernel
theorem dX1_hostOf_11 : decode cX1_hostOf 11 = .ok (.iload_n 1, 1) := by decide +kernel
theorem dX1_hostOf_12 : decode cX1_hostOf 12 = .ok (.aload_n 0, 1) := by decide +kernel
theorem dX1_hostOf_13 : decode cX1_hostOf 13 = .ok (.iload_n 2, 1) := by decide +kernel
theorem dX1_hostOf_14 : decode cX1_hostOf 14 = .ok (.invokevirtual 52, 3) := by decide +kernel
theorem dX1_hostOf_17 : decode cX1_hostOf 17 = .ok (.invokevirtual 59, 3) := by decide +kernel
theorem dX1_hostOf_20 : decode cX1_hostOf 20 = .ok (.aload_n 0, 1) := by decide +kernel
theorem dX1_hostOf_21 : decode cX1_hostOf 21 = .ok (.iload_n 2, 1) := by decide +kernel
theorem dX1_hostOf_22 : decode cX1_hostOf 22 = .ok (.invokevirtual 49, 3) := by decide +kernel
theorem dX1_hostOf_25 : decode cX1_hostOf 25 = .ok (.iload_n 3, 1) := by decide +kernel
theorem dX1_hostOf_26 : decode cX1_hostOf 26 = .ok (.iload 4, 2) := by decide +kernel
theorem dX1_hostOf_28 : decode cX1_hostOf 28 = .ok (.invokevirtual 78, 3) := by decide +kernel
theorem dX1_hostOf_31 : decode cX1_hostOf 31 = .ok (.ireturn, 1) := by decide +kernel
theorem dX1_lacksHost_0 : decode cX1_lacksHost 0 = .ok (.aload_n 0, 1) := by decide +kernel
theorem dX1_lacksHost_1 : decode cX1_lacksHost 1 = .ok (.iload_n 2, 1) := by decide +kernel
theorem dX1_lacksHost_2 : decode cX1_lacksHost 2 = .ok (.invokevirtual 49, 3) := by decide +kernel
theorem dX1_lacksHost_5 : decode cX1_lacksHost 5 = .ok (.ifCond .eq 19, 3) := by decide +kernel
theorem dX1_lacksHost_8 : decode cX1_lacksHost 8 = .ok (.aload_n 0, 1) := by decide +kernel
theorem dX1_lacksHost_9 : decode cX1_lacksHost 9 = .ok (.iload_n 1, 1) := by decide +kernel
theorem dX1_lacksHost_10 : decode cX1_lacksHost 10 = .ok (.iload_n 2, 1) := by decide +kernel
theorem dX1_lacksHost_11 : decode cX1_lacksHost 11 = .ok (.iload_n 3, 1) := by decide +kernel
theorem dX1_lacksHost_12 : decode cX1_lacksHost 12 = .ok (.iload 4, 2) := by decide +kernel
theorem dX1_lacksHost_14 : decode cX1_lacksHost 14 = .ok (.invokevirtual 82, 3) := by decide +kernel
theorem dX1_lacksHost_17 : decode cX1_lacksHost 17 = .ok (.ifCond .ge 7, 3) := by decide +kernel
theorem dX1_lacksHost_20 : decode cX1_lacksHost 20 = .ok (.iconst 1, 1) := by decide +kernel
theorem dX1_lacksHost_21 : decode cX1_lacksHost 21 = .ok (.goto 4, 3) := by decide +kernel
theorem dX1_lacksHost_24 : decode cX1_lacksHost 24 = .ok (.iconst 0, 1) := by decide +kernel
theorem dX1_lacksHost_25 : decode cX1_lacksHost 25 = .ok (.ireturn, 1) := by decide +kernel
theorem dX1_guestCount_0 : decode cX1_guestCount 0 = .ok (.iconst 0, 1) := by decide +kernel
theorem dX1_guestCount_1 : decode cX1_guestCount 1 = .ok (.istore_n 3, 1) := by decide +kernel
theorem dX1_guestCount_2 : decode cX1_guestCount 2 = .ok (.iload_n 1, 1) := by decide +kernel
theorem dX1_guestCount_3 : decode cX1_guestCount 3 = .ok (.iconst 1, 1) := by decide +kernel
theorem dX1_guestCount_4 : decode cX1_guestCount 4 = .ok (.iadd, 1) := by decide +kernel
theorem dX1_guestCount_5 : decode cX1_guestCount 5 = .ok (.istore 4, 2) := by decide +kernel
theorem dX1_guestCount_7 : decode cX1_guestCount 7 = .ok (.iload 4, 2) := by decide +kernel
theorem dX1_guestCount_9 : decode cX1_guestCount 9 = .ok (.aload_n 0, 1) := by decide +kernel
theorem dX1_guestCount_10 : decode cX1_guestCount 10 = .ok (.getfield 39, 3) := by decide +kernel
theorem dX1_guestCount_13 : decode cX1_guestCount 13 = .ok (.if_icmp .ge 82, 3) := by decide +kernel
theorem dX1_guestCount_16 : decode cX1_guestCount 16 = .ok (.aload_n 0, 1) := by decide +kernel
theorem dX1_guestCount_17 : decode cX1_guestCount 17 = .ok (.iload 4, 2) := by decide +kernel
theorem dX1_guestCount_19 : decode cX1_guestCount 19 = .ok (.invokevirtual 71, 3) := by decide +kernel
theorem dX1_guestCount_22 : decode cX1_guestCount 22 = .ok (.astore 5, 2) := by decide +kernel
theorem dX1_guestCount_24 : decode cX1_guestCount 24 = .ok (.iconst 0, 1) := by decide +kernel
theorem dX1_guestCount_25 : decode cX1_guestCount 25 = .ok (.istore 6, 2) := by decide +kernel
theorem dX1_guestCount_27 : decode cX1_guestCount 27 = .ok (.iload 6, 2) := by decide +kernel
theorem dX1_guestCount_29 : decode cX1_guestCount 29 = .ok (.aload 5, 2) := by decide +kernel
theorem dX1_guestCount_31 : decode cX1_guestCount 31 = .ok (.getfield 75, 3) := by decide +kernel
theorem dX1_guestCount_34 : decode cX1_guestCount 34 = .ok (.if_icmp .ge 55, 3) := by decide +kernel
theorem dX1_guestCount_37 : decode cX1_guestCount 37 = .ok (.aload_n 0, 1) := by decide +kernel
theorem dX1_guestCount_38 : decode cX1_guestCount 38 = .ok (.iload 4, 2) := by decide +kernel
theorem dX1_guestCount_40 : decode cX1_guestCount 40 = .ok (.invokevirtual 52, 3) := by decide +kernel
theorem dX1_guestCount_43 : decode cX1_guestCount 43 = .ok (.iload_n 1, 1) := by decide +kernel
theorem dX1_guestCount_44 : decode cX1_guestCount 44 = .ok (.if_icmp .ne 45, 3) := by decide +kernel
theorem dX1_guestCount_47 : decode cX1_guestCount 47 = .ok (.iload_n 3, 1) := by decide +kernel
theorem dX1_guestCount_48 : decode cX1_guestCount 48 = .ok (.aload_n 0, 1) := by decide +kernel
theorem dX1_guestCount_49 : decode cX1_guestCount 49 = .ok (.aload_n 0, 1) := by decide +kernel
theorem dX1_guestCount_50 : decode cX1_guestCount 50 = .ok (.getfield 42, 3) := by decide +kernel
theorem dX1_guestCount_53 : decode cX1_guestCount 53 = .ok (.iload 4, 2) := by decide +kernel
theorem dX1_guestCount_55 : decode cX1_guestCount 55 = .ok (.aload 5, 2) := by decide +kernel
theorem dX1_guestCount_57 : decode cX1_guestCount 57 = .ok (.iload 6, 2) := by decide +kernel
theorem dX1_guestCount_59 : decode cX1_guestCount 59 = .ok (.invokevirtual 86, 3) := by decide +kernel
theorem dX1_guestCount_62 : decode cX1_guestCount 62 = .ok (.aload 5, 2) := by decide +kernel
theorem dX1_guestCount_64 : decode cX1_guestCount 64 = .ok (.iload 6, 2) := by decide +kernel
theorem dX1_guestCount_66 : decode cX1_guestCount 66 = .ok (.invokevirtual 89, 3) := by decide +kernel
theorem dX1_guestCount_69 : decode cX1_guestCount 69 = .ok (.invokevirtual 82, 3) := by decide +kernel
theorem dX1_guestCount_72 : decode cX1_guestCount 72 = .ok (.iload_n 2, 1) := by decide +kernel
theorem dX1_guestCount_73 : decode cX1_guestCount 73 = .ok (.if_icmp .ne 7, 3) := by decide +kernel
theorem dX1_guestCount_76 : decode cX1_guestCount 76 = .ok (.iconst 1, 1) := by decide +kernel
theorem dX1_guestCount_77 : decode cX1_guestCount 77 = .ok (.goto 4, 3) := by decide +kernel
theorem dX1_guestCount_80 : decode cX1_guestCount 80 = .ok (.iconst 0, 1) := by decide +kernel
theorem dX1_guestCount_81 : decode cX1_guestCount 81 = .ok (.iadd, 1) := by decide +kernel
theorem dX1_guestCount_82 : decode cX1_guestCount 82 = .ok (.istore_n 3, 1) := by decide +kernel
theorem dX1_guestCount_83 : decode cX1_guestCount 83 = .ok (.iinc 6 1, 3) := by decide +kernel
theorem dX1_guestCount_86 : decode cX1_guestCount 86 = .ok (.goto (-59), 3) := by decide +kernel
theorem dX1_guestCount_89 : decode cX1_guestCount 89 = .ok (.iinc 4 1, 3) := by decide +kernel
theorem dX1_guestCount_92 : decode cX1_guestCount 92 = .ok (.goto (-85), 3) := by decide +kernel
theorem dX1_guestCount_95 : decode cX1_guestCount 95 = .ok (.iload_n 3, 1) := by decide +kernel
theorem dX1_guestCount_96 : decode cX1_guestCount 96 = .ok (.ireturn, 1) := by decide +kernel
theorem dX1_hasOrphan_0 : decode cX1_hasOrphan 0 = .ok (.aload_n 0, 1) := by decide +kernel
theorem dX1_hasOrphan_1 : decode cX1_hasOrphan 1 = .ok (.iload_n 1, 1) := by decide +kernel
theorem dX1_hasOrphan_2 : decode cX1_hasOrphan 2 = .ok (.iload_n 2, 1) := by decide +kernel
theorem dX1_hasOrphan_3 : decode cX1_hasOrphan 3 = .ok (.invokevirtual 59, 3) := by decide +kernel
theorem dX1_hasOrphan_6 : decode cX1_hasOrphan 6 = .ok (.astore_n 3, 1) := by decide +kernel
theorem dX1_hasOrphan_7 : decode cX1_hasOrphan 7 = .ok (.iconst 0, 1) := by decide +kernel
theorem dX1_hasOrphan_8 : decode cX1_hasOrphan 8 = .ok (.istore 4, 2) := by decide +kernel
theorem dX1_hasOrphan_10 : decode cX1_hasOrphan 10 = .ok (.iload 4, 2) := by decide +kernel
theorem dX1_hasOrphan_12 : decode cX1_hasOrphan 12 = .ok (.aload_n 3, 1) := by decide +kernel
theorem dX1_hasOrphan_13 : decode cX1_hasOrphan 13 = .ok (.getfield 75, 3) := by decide +kernel
theorem dX1_hasOrphan_16 : decode cX1_hasOrphan 16 = .ok (.if_icmp .ge 32, 3) := by decide +kernel
theorem dX1_hasOrphan_19 : decode cX1_hasOrphan 19 = .ok (.aload_n 0, 1) := by decide +kernel
theorem dX1_hasOrphan_20 : decode cX1_hasOrphan 20 = .ok (.iload_n 1, 1) := by decide +kernel
theorem dX1_hasOrphan_21 : decode cX1_hasOrphan 21 = .ok (.iload_n 2, 1) := by decide +kernel
theorem dX1_hasOrphan_22 : decode cX1_hasOrphan 22 = .ok (.aload_n 3, 1) := by decide +kernel
theorem dX1_hasOrphan_23 : decode cX1_hasOrphan 23 = .ok (.iload 4, 2) := by decide +kernel
theorem dX1_hasOrphan_25 : decode cX1_hasOrphan 25 = .ok (.invokevirtual 86, 3) := by decide +kernel
theorem dX1_hasOrphan_28 : decode cX1_hasOrphan 28 = .ok (.aload_n 3, 1) := by decide +kernel
theorem dX1_hasOrphan_29 : decode cX1_hasOrphan 29 = .ok (.iload 4, 2) := by decide +kernel
theorem dX1_hasOrphan_31 : decode cX1_hasOrphan 31 = .ok (.invokevirtual 89, 3) := by decide +kernel
theorem dX1_hasOrphan_34 : decode cX1_hasOrphan 34 = .ok (.invokevirtual 92, 3) := by decide +kernel
theorem dX1_hasOrphan_37 : decode cX1_hasOrphan 37 = .ok (.ifCond .eq 5, 3) := by decide +kernel
theorem dX1_hasOrphan_40 : decode cX1_hasOrphan 40 = .ok (.iconst 1, 1) := by decide +kernel
theorem dX1_hasOrphan_41 : decode cX1_hasOrphan 41 = .ok (.ireturn, 1) := by decide +kernel
theorem dX1_hasOrphan_42 : decode cX1_hasOrphan 42 = .ok (.iinc 4 1, 3) := by decide +kernel
theorem dX1_hasOrphan_45 : decode cX1_hasOrphan 45 = .ok (.goto (-35), 3) := by decide +kernel
theorem dX1_hasOrphan_48 : decode cX1_hasOrphan 48 = .ok (.iconst 0, 1) := by decide +kernel
theorem dX1_hasOrphan_49 : decode cX1_hasOrphan 49 = .ok (.ireturn, 1) := by decide +kernel
theorem dX1_lowestBereft_0 : decode cX1_lowestBereft 0 = .ok (.iload_n 1, 1) := by decide +kernel
theorem dX1_lowestBereft_1 : decode cX1_lowestBereft 1 = .ok (.iconst 1, 1) := by decide +kernel
theorem dX1_lowestBereft_2 : decode cX1_lowestBereft 2 = .ok (.iadd, 1) := by decide +kernel
theorem dX1_lowestBereft_3 : decode cX1_lowestBereft 3 = .ok (.istore_n 2, 1) := by decide +kernel
theorem dX1_lowestBereft_4 : decode cX1_lowestBereft 4 = .ok (.iload_n 2, 1) := by decide +kernel
theorem dX1_lowestBereft_5 : decode cX1_lowestBereft 5 = .ok (.aload_n 0, 1) := by decide +kernel
theorem dX1_lowestBereft_6 : decode cX1_lowestBereft 6 = .ok (.getfield 39, 3) := by decide +kernel
theorem dX1_lowestBereft_9 : decode cX1_lowestBereft 9 = .ok (.if_icmp .ge 32, 3) := by decide +kernel
theorem dX1_lowestBereft_12 : decode cX1_lowestBereft 12 = .ok (.aload_n 0, 1) := by decide +kernel
theorem dX1_lowestBereft_13 : decode cX1_lowestBereft 13 = .ok (.iload_n 2, 1) := by decide +kernel
theorem dX1_lowestBereft_14 : decode cX1_lowestBereft 14 = .ok (.invokevirtual 52, 3) := by decide +kernel
theorem dX1_lowestBereft_17 : decode cX1_lowestBereft 17 = .ok (.iload_n 1, 1) := by decide +kernel
theorem dX1_lowestBereft_18 : decode cX1_lowestBereft 18 = .ok (.if_icmp .ne 17, 3) := by decide +kernel
theorem dX1_lowestBereft_21 : decode cX1_lowestBereft 21 = .ok (.aload_n 0, 1) := by decide +kernel
theorem dX1_lowestBereft_22 : decode cX1_lowestBereft 22 = .ok (.aload_n 0, 1) := by decide +kernel
theorem dX1_lowestBereft_23 : decode cX1_lowestBereft 23 = .ok (.getfield 42, 3) := by decide +kernel
theorem dX1_lowestBereft_26 : decode cX1_lowestBereft 26 = .ok (.iload_n 2, 1) := by decide +kernel
theorem dX1_lowestBereft_27 : decode cX1_lowestBereft 27 = .ok (.invokevirtual 96, 3) := by decide +kernel
theorem dX1_lowestBereft_30 : decode cX1_lowestBereft 30 = .ok (.ifCond .eq 5, 3) := by decide +kernel
theorem dX1_lowestBereft_33 : decode cX1_lowestBereft 33 = .ok (.iload_n 2, 1) := by decide +kernel
theorem dX1_lowestBereft_34 : decode cX1_lowestBereft 34 = .ok (.ireturn, 1) := by decide +kernel
theorem dX1_lowestBereft_35 : decode cX1_lowestBereft 35 = .ok (.iinc 2 1, 3) := by decide +kernel
theorem dX1_lowestBereft_38 : decode cX1_lowestBereft 38 = .ok (.goto (-34), 3) := by decide +kernel
theorem dX1_lowestBereft_41 : decode cX1_lowestBereft 41 = .ok (.iconst (-1), 1) := by decide +kernel
theorem dX1_lowestBereft_42 : decode cX1_lowestBereft 42 = .ok (.ireturn, 1) := by decide +kernel
theorem dX1_tryFrames_0 : decode cX1_tryFrames 0 = .ok (.iload_n 3, 1) := by decide +kernel
theorem dX1_tryFrames_1 : decode cX1_tryFrames 1 = .ok (.ifCond .lt 17, 3) := by decide +kernel
theorem dX1_tryFrames_4 : decode cX1_tryFrames 4 = .ok (.iload 4, 2) := by decide +kernel
theorem dX1_tryFrames_6 : decode cX1_tryFrames 6 = .ok (.sipush 1000, 3) := by decide +kernel
theorem dX1_tryFrames_9 : decode cX1_tryFrames 9 = .ok (.if_icmp .gt 9, 3) := by decide +kernel
theorem dX1_tryFrames_12 : decode cX1_tryFrames 12 = .ok (.iload 4, 2) := by decide +kernel
theorem dX1_tryFrames_14 : decode cX1_tryFrames 14 = .ok (.iload_n 3, 1) := by decide +kernel
theorem dX1_tryFrames_15 : decode cX1_tryFrames 15 = .ok (.if_icmp .gt 11, 3) := by decide +kernel
theorem dX1_tryFrames_18 : decode cX1_tryFrames 18 = .ok (.aload 5, 2) := by decide +kernel
theorem dX1_tryFrames_20 : decode cX1_tryFrames 20 = .ok (.iconst 1, 1) := by decide +kernel
theorem dX1_tryFrames_21 : decode cX1_tryFrames 21 = .ok (.iconst 0, 1) := by decide +kernel
theorem dX1_tryFrames_22 : decode cX1_tryFrames 22 = .ok (.invokevirtual 100, 3) := by decide +kernel
theorem dX1_tryFrames_25 : decode cX1_tryFrames 25 = .ok (.ireturn, 1) := by decide +kernel
theorem dX1_tryFrames_26 : decode cX1_tryFrames 26 = .ok (.aload_n 0, 1) := by decide +kernel
theorem dX1_tryFrames_27 : decode cX1_tryFrames 27 = .ok (.iload_n 1, 1) := by decide +kernel
theorem dX1_tryFrames_28 : decode cX1_tryFrames 28 = .ok (.invokevirtual 71, 3) := by decide +kernel
theorem dX1_tryFrames_31 : decode cX1_tryFrames 31 = .ok (.iload_n 3, 1) := by decide +kernel
theorem dX1_tryFrames_32 : decode cX1_tryFrames 32 = .ok (.iload 4, 2) := by decide +kernel
theorem dX1_tryFrames_34 : decode cX1_tryFrames 34 = .ok (.iload_n 2, 1) := by decide +kernel
theorem dX1_tryFrames_35 : decode cX1_tryFrames 35 = .ok (.invokevirtual 106, 3) := by decide +kernel
theorem dX1_tryFrames_38 : decode cX1_tryFrames 38 = .ok (.istore 6, 2) := by decide +kernel
theorem dX1_tryFrames_40 : decode cX1_tryFrames 40 = .ok (.iload 6, 2) := by decide +kernel
theorem dX1_tryFrames_42 : decode cX1_tryFrames 42 = .ok (.ifCond .lt 12, 3) := by decide +kernel
theorem dX1_tryFrames_45 : decode cX1_tryFrames 45 = .ok (.aload 5, 2) := by decide +kernel
theorem dX1_tryFrames_47 : decode cX1_tryFrames 47 = .ok (.iconst 2, 1) := by decide +kernel
theorem dX1_tryFrames_48 : decode cX1_tryFrames 48 = .ok (.iload 6, 2) := by decide +kernel
theorem dX1_tryFrames_50 : decode cX1_tryFrames 50 = .ok (.invokevirtual 100, 3) := by decide +kernel
theorem dX1_tryFrames_53 : decode cX1_tryFrames 53 = .ok (.ireturn, 1) := by decide +kernel
theorem dX1_tryFrames_54 : decode cX1_tryFrames 54 = .ok (.aload_n 0, 1) := by decide +kernel
theorem dX1_tryFrames_55 : decode cX1_tryFrames 55 = .ok (.aload_n 0, 1) := by decide +kernel
theorem dX1_tryFrames_56 : decode cX1_tryFrames 56 = .ok (.getfield 42, 3) := by decide +kernel
theorem dX1_tryFrames_59 : decode cX1_tryFrames 59 = .ok (.iload_n 1, 1) := by decide +kernel
theorem dX1_tryFrames_60 : decode cX1_tryFrames 60 = .ok (.iload_n 3, 1) := by decide +kernel
theorem dX1_tryFrames_61 : decode cX1_tryFrames 61 = .ok (.iload 4, 2) := by decide +kernel
theorem dX1_tryFrames_63 : decode cX1_tryFrames 63 = .ok (.invokevirtual 92, 3) := by decide +kernel
theorem dX1_tryFrames_66 : decode cX1_tryFrames 66 = .ok (.ifCond .eq 13, 3) := by decide +kernel
theorem dX1_tryFrames_69 : decode cX1_tryFrames 69 = .ok (.aload 5, 2) := by decide +kernel
theorem dX1_tryFrames_71 : decode cX1_tryFrames 71 = .ok (.iconst 3, 1) := by decide +kernel
theorem dX1_tryFrames_72 : decode cX1_tryFrames 72 = .ok (.iconst 0, 1) := by decide +kernel
theorem dX1_tryFrames_73 : decode cX1_tryFrames 73 = .ok (.invokevirtual 100, 3) := by decide +kernel
theorem dX1_tryFrames_76 : decode cX1_tryFrames 76 = .ok (.goto 4, 3) := by decide +kernel
theorem dX1_tryFrames_79 : decode cX1_tryFrames 79 = .ok (.iconst 0, 1) := by decide +kernel
theorem dX1_tryFrames_80 : decode cX1_tryFrames 80 = .ok (.ireturn, 1) := by decide +kernel
theorem dX1_insertSpan_0 : decode cX1_insertSpan 0 = .ok (.aload_n 0, 1) := by decide +kernel
theorem dX1_insertSpan_1 : decode cX1_insertSpan 1 = .ok (.iload_n 1, 1) := by decide +kernel
theorem dX1_insertSpan_2 : decode cX1_insertSpan 2 = .ok (.iconst (-1), 1) := by decide +kernel
theorem dX1_insertSpan_3 : decode cX1_insertSpan 3 = .ok (.iload_n 2, 1) := by decide +kernel
theorem dX1_insertSpan_4 : decode cX1_insertSpan 4 = .ok (.iload_n 3, 1) := by decide +kernel
theorem dX1_insertSpan_5 : decode cX1_insertSpan 5 = .ok (.aload 6, 2) := by decide +kernel
theorem dX1_insertSpan_7 : decode cX1_insertSpan 7 = .ok (.invokevirtual 109, 3) := by decide +kernel
theorem dX1_insertSpan_10 : decode cX1_insertSpan 10 = .ok (.ifCond .ge 5, 3) := by decide +kernel
theorem dX1_insertSpan_13 : decode cX1_insertSpan 13 = .ok (.iconst (-1), 1) := by decide +kernel
theorem dX1_insertSpan_14 : decode cX1_insertSpan 14 = .ok (.ireturn, 1) := by decide +kernel
theorem dX1_insertSpan_15 : decode cX1_insertSpan 15 = .ok (.aload_n 0, 1) := by decide +kernel
theorem dX1_insertSpan_16 : decode cX1_insertSpan 16 = .ok (.iload_n 1, 1) := by decide +kernel
theorem dX1_insertSpan_17 : decode cX1_insertSpan 17 = .ok (.invokevirtual 71, 3) := by decide +kernel
theorem dX1_insertSpan_20 : decode cX1_insertSpan 20 = .ok (.astore 7, 2) := by decide +kernel
theorem dX1_insertSpan_22 : decode cX1_insertSpan 22 = .ok (.aload 7, 2) := by decide +kernel
theorem dX1_insertSpan_24 : decode cX1_insertSpan 24 = .ok (.getfield 75, 3) := by decide +kernel
theorem dX1_insertSpan_27 : decode cX1_insertSpan 27 = .ok (.bipush 30, 2) := by decide +kernel
theorem dX1_insertSpan_29 : decode cX1_insertSpan 29 = .ok (.if_icmp .lt 11, 3) := by decide +kernel
theorem dX1_insertSpan_32 : decode cX1_insertSpan 32 = .ok (.aload 6, 2) := by decide +kernel
theorem dX1_insertSpan_34 : decode cX1_insertSpan 34 = .ok (.iconst 5, 1) := by decide +kernel
theorem dX1_insertSpan_35 : decode cX1_insertSpan 35 = .ok (.iconst 0, 1) := by decide +kernel
theorem dX1_insertSpan_36 : decode cX1_insertSpan 36 = .ok (.invokevirtual 100, 3) := by decide +kernel
theorem dX1_insertSpan_39 : decode cX1_insertSpan 39 = .ok (.ireturn, 1) := by decide +kernel
theorem dX1_insertSpan_40 : decode cX1_insertSpan 40 = .ok (.aload 7, 2) := by decide +kernel
theorem dX1_insertSpan_42 : decode cX1_insertSpan 42 = .ok (.iload_n 2, 1) := by decide +kernel
theorem dX1_insertSpan_43 : decode cX1_insertSpan 43 = .ok (.iload_n 3, 1) := by decide +kernel
theorem dX1_insertSpan_44 : decode cX1_insertSpan 44 = .ok (.lload 4, 2) := by decide +kernel
theorem dX1_insertSpan_46 : decode cX1_insertSpan 46 = .ok (.invokevirtual 113, 3) := by decide +kernel
theorem dX1_insertSpan_49 : decode cX1_insertSpan 49 = .ok (.ireturn, 1) := by decide +kernel
theorem dX1_shiftSpan_0 : decode cX1_shiftSpan 0 = .ok (.aload_n 0, 1) := by decide +kernel
theorem dX1_shiftSpan_1 : decode cX1_shiftSpan 1 = .ok (.iload_n 1, 1) := by decide +kernel
theorem dX1_shiftSpan_2 : decode cX1_shiftSpan 2 = .ok (.iload_n 2, 1) := by decide +kernel
theorem dX1_shiftSpan_3 : decode cX1_shiftSpan 3 = .ok (.iload_n 3, 1) := by decide +kernel
theorem dX1_shiftSpan_4 : decode cX1_shiftSpan 4 = .ok (.iload 4, 2) := by decide +kernel
theorem dX1_shiftSpan_6 : decode cX1_shiftSpan 6 = .ok (.aload 5, 2) := by decide +kernel
theorem dX1_shiftSpan_8 : decode cX1_shiftSpan 8 = .ok (.invokevirtual 109, 3) := by decide +kernel
theorem dX1_shiftSpan_11 : decode cX1_shiftSpan 11 = .ok (.ifCond .ge 5, 3) := by decide +kernel
theorem dX1_shiftSpan_14 : decode cX1_shiftSpan 14 = .ok (.iconst (-1), 1) := by decide +kernel
theorem dX1_shiftSpan_15 : decode cX1_shiftSpan 15 = .ok (.ireturn, 1) := by decide +kernel
theorem dX1_shiftSpan_16 : decode cX1_shiftSpan 16 = .ok (.aload_n 0, 1) := by decide +kernel
theorem dX1_shiftSpan_17 : decode cX1_shiftSpan 17 = .ok (.iload_n 1, 1) := by decide +kernel
theorem dX1_shiftSpan_18 : decode cX1_shiftSpan 18 = .ok (.invokevirtual 71, 3) := by decide +kernel
theorem dX1_shiftSpan_21 : decode cX1_shiftSpan 21 = .ok (.astore 6, 2) := by decide +kernel
theorem dX1_shiftSpan_23 : decode cX1_shiftSpan 23 = .ok (.aload 6, 2) := by decide +kernel
theorem dX1_shiftSpan_25 : decode cX1_shiftSpan 25 = .ok (.iload_n 2, 1) := by decide +kernel
theorem dX1_shiftSpan_26 : decode cX1_shiftSpan 26 = .ok (.invokevirtual 117, 3) := by decide +kernel
theorem dX1_shiftSpan_29 : decode cX1_shiftSpan 29 = .ok (.lstore 7, 2) := by decide +kernel
theorem dX1_shiftSpan_31 : decode cX1_shiftSpan 31 = .ok (.aload 6, 2) := by decide +kernel
theorem dX1_shiftSpan_33 : decode cX1_shiftSpan 33 = .ok (.iload_n 2, 1) := by decide +kernel
theorem dX1_shiftSpan_34 : decode cX1_shiftSpan 34 = .ok (.invokevirtual 121, 3) := by decide +kernel
theorem dX1_shiftSpan_37 : decode cX1_shiftSpan 37 = .ok (.aload 6, 2) := by decide +kernel
theorem dX1_shiftSpan_39 : decode cX1_shiftSpan 39 = .ok (.iload_n 3, 1) := by decide +kernel
theorem dX1_shiftSpan_40 : decode cX1_shiftSpan 40 = .ok (.iload 4, 2) := by decide +kernel
theorem dX1_shiftSpan_42 : decode cX1_shiftSpan 42 = .ok (.lload 7, 2) := by decide +kernel
theorem dX1_shiftSpan_44 : decode cX1_shiftSpan 44 = .ok (.invokevirtual 113, 3) := by decide +kernel
theorem dX1_shiftSpan_47 : decode cX1_shiftSpan 47 = .ok (.istore 9, 2) := by decide +kernel
theorem dX1_shiftSpan_49 : decode cX1_shiftSpan 49 = .ok (.aload_n 0, 1) := by decide +kernel
theorem dX1_shiftSpan_50 : decode cX1_shiftSpan 50 = .ok (.iload_n 1, 1) := by decide +kernel
theorem dX1_shiftSpan_51 : decode cX1_shiftSpan 51 = .ok (.invokevirtual 125, 3) := by decide +kernel
theorem dX1_shiftSpan_54 : decode cX1_shiftSpan 54 = .ok (.istore 10, 2) := by decide +kernel
theorem dX1_shiftSpan_56 : decode cX1_shiftSpan 56 = .ok (.iload 10, 2) := by decide +kernel
theorem dX1_shiftSpan_58 : decode cX1_shiftSpan 58 = .ok (.ifCond .lt 14, 3) := by decide +kernel
theorem dX1_shiftSpan_61 : decode cX1_shiftSpan 61 = .ok (.aload 5, 2) := by decide +kernel
theorem dX1_shiftSpan_63 : decode cX1_shiftSpan 63 = .ok (.iconst 4, 1) := by decide +kernel
theorem dX1_shiftSpan_64 : decode cX1_shiftSpan 64 = .ok (.iload 10, 2) := by decide +kernel
theorem dX1_shiftSpan_66 : decode cX1_shiftSpan 66 = .ok (.invokevirtual 100, 3) := by decide +kernel
theorem dX1_shiftSpan_69 : decode cX1_shiftSpan 69 = .ok (.goto 5, 3) := by decide +kernel
theorem dX1_shiftSpan_72 : decode cX1_shiftSpan 72 = .ok (.iload 9, 2) := by decide +kernel
theorem dX1_shiftSpan_74 : decode cX1_shiftSpan 74 = .ok (.ireturn, 1) := by decide +kernel
theorem dX1_cutSpan_0 : decode cX1_cutSpan 0 = .ok (.aload_n 0, 1) := by decide +kernel
theorem dX1_cutSpan_1 : decode cX1_cutSpan 1 = .ok (.iload_n 1, 1) := by decide +kernel
theorem dX1_cutSpan_2 : decode cX1_cutSpan 2 = .ok (.invokevirtual 71, 3) := by decide +kernel
theorem dX1_cutSpan_5 : decode cX1_cutSpan 5 = .ok (.astore 5, 2) := by decide +kernel
theorem dX1_cutSpan_7 : decode cX1_cutSpan 7 = .ok (.aload 5, 2) := by decide +kernel
theorem dX1_cutSpan_9 : decode cX1_cutSpan 9 = .ok (.iload_n 2, 1) := by decide +kernel
theorem dX1_cutSpan_10 : decode cX1_cutSpan 10 = .ok (.invokevirtual 86, 3) := by decide +kernel
theorem dX1_cutSpan_13 : decode cX1_cutSpan 13 = .ok (.istore 6, 2) := by decide +kernel
theorem dX1_cutSpan_15 : decode cX1_cutSpan 15 = .ok (.aload 5, 2) := by decide +kernel
theorem dX1_cutSpan_17 : decode cX1_cutSpan 17 = .ok (.iload_n 2, 1) := by decide +kernel
theorem dX1_cutSpan_18 : decode cX1_cutSpan 18 = .ok (.invokevirtual 89, 3) := by decide +kernel
theorem dX1_cutSpan_21 : decode cX1_cutSpan 21 = .ok (.istore 7, 2) := by decide +kernel
theorem dX1_cutSpan_23 : decode cX1_cutSpan 23 = .ok (.iload_n 3, 1) := by decide +kernel
theorem dX1_cutSpan_24 : decode cX1_cutSpan 24 = .ok (.iload 6, 2) := by decide +kernel
theorem dX1_cutSpan_26 : decode cX1_cutSpan 26 = .ok (.if_icmp .le 9, 3) := by decide +kernel
theorem dX1_cutSpan_29 : decode cX1_cutSpan 29 = .ok (.iload_n 3, 1) := by decide +kernel
theorem dX1_cutSpan_30 : decode cX1_cutSpan 30 = .ok (.iload 7, 2) := by decide +kernel
theorem dX1_cutSpan_32 : decode cX1_cutSpan 32 = .ok (.if_icmp .lt 11, 3) := by decide +kernel
theorem dX1_cutSpan_35 : decode cX1_cutSpan 35 = .ok (.aload 4, 2) := by decide +kernel
theorem dX1_cutSpan_37 : decode cX1_cutSpan 37 = .ok (.iconst 1, 1) := by decide +kernel
theorem dX1_cutSpan_38 : decode cX1_cutSpan 38 = .ok (.iconst 0, 1) := by decide +kernel
theorem dX1_cutSpan_39 : decode cX1_cutSpan 39 = .ok (.invokevirtual 100, 3) := by decide +kernel
theorem dX1_cutSpan_42 : decode cX1_cutSpan 42 = .ok (.ireturn, 1) := by decide +kernel
theorem dX1_cutSpan_43 : decode cX1_cutSpan 43 = .ok (.aload_n 0, 1) := by decide +kernel
theorem dX1_cutSpan_44 : decode cX1_cutSpan 44 = .ok (.aload_n 0, 1) := by decide +kernel
theorem dX1_cutSpan_45 : decode cX1_cutSpan 45 = .ok (.getfield 42, 3) := by decide +kernel
theorem dX1_cutSpan_48 : decode cX1_cutSpan 48 = .ok (.iload_n 1, 1) := by decide +kernel
theorem dX1_cutSpan_49 : decode cX1_cutSpan 49 = .ok (.iload 6, 2) := by decide +kernel
theorem dX1_cutSpan_51 : decode cX1_cutSpan 51 = .ok (.iload_n 3, 1) := by decide +kernel
theorem dX1_cutSpan_52 : decode cX1_cutSpan 52 = .ok (.invokevirtual 92, 3) := by decide +kernel
theorem dX1_cutSpan_55 : decode cX1_cutSpan 55 = .ok (.ifCond .ne 18, 3) := by decide +kernel
theorem dX1_cutSpan_58 : decode cX1_cutSpan 58 = .ok (.aload_n 0, 1) := by decide +kernel
theorem dX1_cutSpan_59 : decode cX1_cutSpan 59 = .ok (.aload_n 0, 1) := by decide +kernel
theorem dX1_cutSpan_60 : decode cX1_cutSpan 60 = .ok (.getfield 42, 3) := by decide +kernel
theorem dX1_cutSpan_63 : decode cX1_cutSpan 63 = .ok (.iload_n 1, 1) := by decide +kernel
theorem dX1_cutSpan_64 : decode cX1_cutSpan 64 = .ok (.iload_n 3, 1) := by decide +kernel
theorem dX1_cutSpan_65 : decode cX1_cutSpan 65 = .ok (.iload 7, 2) := by decide +kernel
theorem dX1_cutSpan_67 : decode cX1_cutSpan 67 = .ok (.invokevirtual 92, 3) := by decide +kernel
theorem dX1_cutSpan_70 : decode cX1_cutSpan 70 = .ok (.ifCond .eq 11, 3) := by decide +kernel
theorem dX1_cutSpan_73 : decode cX1_cutSpan 73 = .ok (.aload 4, 2) := by decide +kernel
theorem dX1_cutSpan_75 : decode cX1_cutSpan 75 = .ok (.iconst 3, 1) := by decide +kernel
theorem dX1_cutSpan_76 : decode cX1_cutSpan 76 = .ok (.iconst 0, 1) := by decide +kernel
theorem dX1_cutSpan_77 : decode cX1_cutSpan 77 = .ok (.invokevirtual 100, 3) := by decide +kernel
theorem dX1_cutSpan_80 : decode cX1_cutSpan 80 = .ok (.ireturn, 1) := by decide +kernel
theorem dX1_cutSpan_81 : decode cX1_cutSpan 81 = .ok (.aload 5, 2) := by decide +kernel
theorem dX1_cutSpan_83 : decode cX1_cutSpan 83 = .ok (.iload_n 2, 1) := by decide +kernel
theorem dX1_cutSpan_84 : decode cX1_cutSpan 84 = .ok (.iload 6, 2) := by decide +kernel
theorem dX1_cutSpan_86 : decode cX1_cutSpan 86 = .ok (.iload_n 3, 1) := by decide +kernel
theorem dX1_cutSpan_87 : decode cX1_cutSpan 87 = .ok (.invokevirtual 128, 3) := by decide +kernel
theorem dX1_cutSpan_90 : decode cX1_cutSpan 90 = .ok (.aload 5, 2) := by decide +kernel
theorem dX1_cutSpan_92 : decode cX1_cutSpan 92 = .ok (.iload_n 3, 1) := by decide +kernel
theorem dX1_cutSpan_93 : decode cX1_cutSpan 93 = .ok (.iload 7, 2) := by decide +kernel
theorem dX1_cutSpan_95 : decode cX1_cutSpan 95 = .ok (.aload 5, 2) := by decide +kernel
theorem dX1_cutSpan_97 : decode cX1_cutSpan 97 = .ok (.iload_n 2, 1) := by decide +kernel
theorem dX1_cutSpan_98 : decode cX1_cutSpan 98 = .ok (.invokevirtual 117, 3) := by decide +kernel
theorem dX1_cutSpan_101 : decode cX1_cutSpan 101 = .ok (.invokevirtual 113, 3) := by decide +kernel
theorem dX1_cutSpan_104 : decode cX1_cutSpan 104 = .ok (.pop, 1) := by decide +kernel
theorem dX1_cutSpan_105 : decode cX1_cutSpan 105 = .ok (.aload_n 0, 1) := by decide +kernel
theorem dX1_cutSpan_106 : decode cX1_cutSpan 106 = .ok (.iload_n 1, 1) := by decide +kernel
theorem dX1_cutSpan_107 : decode cX1_cutSpan 107 = .ok (.invokevirtual 125, 3) := by decide +kernel
theorem dX1_cutSpan_110 : decode cX1_cutSpan 110 = .ok (.istore 8, 2) := by decide +kernel
theorem dX1_cutSpan_112 : decode cX1_cutSpan 112 = .ok (.iload 8, 2) := by decide +kernel
theorem dX1_cutSpan_114 : decode cX1_cutSpan 114 = .ok (.ifCond .lt 12, 3) := by decide +kernel
theorem dX1_cutSpan_117 : decode cX1_cutSpan 117 = .ok (.aload 4, 2) := by decide +kernel
theorem dX1_cutSpan_119 : decode cX1_cutSpan 119 = .ok (.iconst 4, 1) := by decide +kernel
theorem dX1_cutSpan_120 : decode cX1_cutSpan 120 = .ok (.iload 8, 2) := by decide +kernel
theorem dX1_cutSpan_122 : decode cX1_cutSpan 122 = .ok (.invokevirtual 100, 3) := by decide +kernel
theorem dX1_cutSpan_125 : decode cX1_cutSpan 125 = .ok (.ireturn, 1) := by decide +kernel
theorem dX1_cutSpan_126 : decode cX1_cutSpan 126 = .ok (.aload 5, 2) := by decide +kernel
theorem dX1_cutSpan_128 : decode cX1_cutSpan 128 = .ok (.getfield 75, 3) := by decide +kernel
theorem dX1_cutSpan_131 : decode cX1_cutSpan 131 = .ok (.bipush 30, 2) := by decide +kernel
theorem dX1_cutSpan_133 : decode cX1_cutSpan 133 = .ok (.if_icmp .le 13, 3) := by decide +kernel
theorem dX1_cutSpan_136 : decode cX1_cutSpan 136 = .ok (.aload 4, 2) := by decide +kernel
theorem dX1_cutSpan_138 : decode cX1_cutSpan 138 = .ok (.iconst 5, 1) := by decide +kernel
theorem dX1_cutSpan_139 : decode cX1_cutSpan 139 = .ok (.iconst 0, 1) := by decide +kernel
theorem dX1_cutSpan_140 : decode cX1_cutSpan 140 = .ok (.invokevirtual 100, 3) := by decide +kernel
theorem dX1_cutSpan_143 : decode cX1_cutSpan 143 = .ok (.goto 8, 3) := by decide +kernel
theorem dX1_cutSpan_146 : decode cX1_cutSpan 146 = .ok (.aload 5, 2) := by decide +kernel
theorem dX1_cutSpan_148 : decode cX1_cutSpan 148 = .ok (.getfield 75, 3) := by decide +kernel
theorem dX1_cutSpan_151 : decode cX1_cutSpan 151 = .ok (.ireturn, 1) := by decide +kernel
theorem dX1_uniteSpan_0 : decode cX1_uniteSpan 0 = .ok (.aload_n 0, 1) := by decide +kernel
theorem dX1_uniteSpan_1 : decode cX1_uniteSpan 1 = .ok (.iload_n 1, 1) := by decide +kernel
theorem dX1_uniteSpan_2 : decode cX1_uniteSpan 2 = .ok (.invokevirtual 71, 3) := by decide +kernel
theorem dX1_uniteSpan_5 : decode cX1_uniteSpan 5 = .ok (.astore 4, 2) := by decide +kernel
theorem dX1_uniteSpan_7 : decode cX1_uniteSpan 7 = .ok (.iload_n 2, 1) := by decide +kernel
theorem dX1_uniteSpan_8 : decode cX1_uniteSpan 8 = .ok (.iconst 1, 1) := by decide +kernel
theorem dX1_uniteSpan_9 : decode cX1_uniteSpan 9 = .ok (.iadd, 1) := by decide +kernel
theorem dX1_uniteSpan_10 : decode cX1_uniteSpan 10 = .ok (.aload 4, 2) := by decide +kernel
theorem dX1_uniteSpan_12 : decode cX1_uniteSpan 12 = .ok (.getfield 75, 3) := by decide +kernel
theorem dX1_uniteSpan_15 : decode cX1_uniteSpan 15 = .ok (.if_icmp .lt 10, 3) := by decide +kernel
theorem dX1_uniteSpan_18 : decode cX1_uniteSpan 18 = .ok (.aload_n 3, 1) := by decide +kernel
theorem dX1_uniteSpan_19 : decode cX1_uniteSpan 19 = .ok (.iconst 1, 1) := by decide +kernel
theorem dX1_uniteSpan_20 : decode cX1_uniteSpan 20 = .ok (.iconst 0, 1) := by decide +kernel
theorem dX1_uniteSpan_21 : decode cX1_uniteSpan 21 = .ok (.invokevirtual 100, 3) := by decide +kernel
theorem dX1_uniteSpan_24 : decode cX1_uniteSpan 24 = .ok (.ireturn, 1) := by decide +kernel
theorem dX1_uniteSpan_25 : decode cX1_uniteSpan 25 = .ok (.aload 4, 2) := by decide +kernel
theorem dX1_uniteSpan_27 : decode cX1_uniteSpan 27 = .ok (.iload_n 2, 1) := by decide +kernel
theorem dX1_uniteSpan_28 : decode cX1_uniteSpan 28 = .ok (.invokevirtual 86, 3) := by decide +kernel
theorem dX1_uniteSpan_31 : decode cX1_uniteSpan 31 = .ok (.istore 5, 2) := by decide +kernel
theorem dX1_uniteSpan_33 : decode cX1_uniteSpan 33 = .ok (.aload 4, 2) := by decide +kernel
theorem dX1_uniteSpan_35 : decode cX1_uniteSpan 35 = .ok (.iload_n 2, 1) := by decide +kernel
theorem dX1_uniteSpan_36 : decode cX1_uniteSpan 36 = .ok (.iconst 1, 1) := by decide +kernel
theorem dX1_uniteSpan_37 : decode cX1_uniteSpan 37 = .ok (.iadd, 1) := by decide +kernel
theorem dX1_uniteSpan_38 : decode cX1_uniteSpan 38 = .ok (.invokevirtual 89, 3) := by decide +kernel
theorem dX1_uniteSpan_41 : decode cX1_uniteSpan 41 = .ok (.istore 6, 2) := by decide +kernel
theorem dX1_uniteSpan_43 : decode cX1_uniteSpan 43 = .ok (.aload_n 0, 1) := by decide +kernel
theorem dX1_uniteSpan_44 : decode cX1_uniteSpan 44 = .ok (.aload_n 0, 1) := by decide +kernel
theorem dX1_uniteSpan_45 : decode cX1_uniteSpan 45 = .ok (.getfield 42, 3) := by decide +kernel
theorem dX1_uniteSpan_48 : decode cX1_uniteSpan 48 = .ok (.iload_n 1, 1) := by decide +kernel
theorem dX1_uniteSpan_49 : decode cX1_uniteSpan 49 = .ok (.iload 5, 2) := by decide +kernel
theorem dX1_uniteSpan_51 : decode cX1_uniteSpan 51 = .ok (.iload 6, 2) := by decide +kernel
theorem dX1_uniteSpan_53 : decode cX1_uniteSpan 53 = .ok (.invokevirtual 92, 3) := by decide +kernel
theorem dX1_uniteSpan_56 : decode cX1_uniteSpan 56 = .ok (.ifCond .eq 10, 3) := by decide +kernel
theorem dX1_uniteSpan_59 : decode cX1_uniteSpan 59 = .ok (.aload_n 3, 1) := by decide +kernel
theorem dX1_uniteSpan_60 : decode cX1_uniteSpan 60 = .ok (.iconst 3, 1) := by decide +kernel
theorem dX1_uniteSpan_61 : decode cX1_uniteSpan 61 = .ok (.iconst 0, 1) := by decide +kernel
theorem dX1_uniteSpan_62 : decode cX1_uniteSpan 62 = .ok (.invokevirtual 100, 3) := by decide +kernel
theorem dX1_uniteSpan_65 : decode cX1_uniteSpan 65 = .ok (.ireturn, 1) := by decide +kernel
theorem dX1_uniteSpan_66 : decode cX1_uniteSpan 66 = .ok (.aload 4, 2) := by decide +kernel
theorem dX1_uniteSpan_68 : decode cX1_uniteSpan 68 = .ok (.iload_n 2, 1) := by decide +kernel
theorem dX1_uniteSpan_69 : decode cX1_uniteSpan 69 = .ok (.iload 5, 2) := by decide +kernel
theorem dX1_uniteSpan_71 : decode cX1_uniteSpan 71 = .ok (.iload 6, 2) := by decide +kernel
theorem dX1_uniteSpan_73 : decode cX1_uniteSpan 73 = .ok (.invokevirtual 128, 3) := by decide +kernel
theorem dX1_uniteSpan_76 : decode cX1_uniteSpan 76 = .ok (.aload 4, 2) := by decide +kernel
theorem dX1_uniteSpan_78 : decode cX1_uniteSpan 78 = .ok (.iload_n 2, 1) := by decide +kernel
theorem dX1_uniteSpan_79 : decode cX1_uniteSpan 79 = .ok (.iconst 1, 1) := by decide +kernel
theorem dX1_uniteSpan_80 : decode cX1_uniteSpan 80 = .ok (.iadd, 1) := by decide +kernel
theorem dX1_uniteSpan_81 : decode cX1_uniteSpan 81 = .ok (.invokevirtual 121, 3) := by decide +kernel
theorem dX1_uniteSpan_84 : decode cX1_uniteSpan 84 = .ok (.aload_n 0, 1) := by decide +kernel
theorem dX1_uniteSpan_85 : decode cX1_uniteSpan 85 = .ok (.iload_n 1, 1) := by decide +kernel
theorem dX1_uniteSpan_86 : decode cX1_uniteSpan 86 = .ok (.invokevirtual 125, 3) := by decide +kernel
theorem dX1_uniteSpan_89 : decode cX1_uniteSpan 89 = .ok (.istore 7, 2) := by decide +kernel
theorem dX1_uniteSpan_91 : decode cX1_uniteSpan 91 = .ok (.iload 7, 2) := by decide +kernel
theorem dX1_uniteSpan_93 : decode cX1_uniteSpan 93 = .ok (.ifCond .lt 13, 3) := by decide +kernel
theorem dX1_uniteSpan_96 : decode cX1_uniteSpan 96 = .ok (.aload_n 3, 1) := by decide +kernel
theorem dX1_uniteSpan_97 : decode cX1_uniteSpan 97 = .ok (.iconst 4, 1) := by decide +kernel
theorem dX1_uniteSpan_98 : decode cX1_uniteSpan 98 = .ok (.iload 7, 2) := by decide +kernel
theorem dX1_uniteSpan_100 : decode cX1_uniteSpan 100 = .ok (.invokevirtual 100, 3) := by decide +kernel
theorem dX1_uniteSpan_103 : decode cX1_uniteSpan 103 = .ok (.goto 8, 3) := by decide +kernel
theorem dX1_uniteSpan_106 : decode cX1_uniteSpan 106 = .ok (.aload 4, 2) := by decide +kernel
theorem dX1_uniteSpan_108 : decode cX1_uniteSpan 108 = .ok (.getfield 75, 3) := by decide +kernel
theorem dX1_uniteSpan_111 : decode cX1_uniteSpan 111 = .ok (.ireturn, 1) := by decide +kernel
theorem dX1_dropSpan_0 : decode cX1_dropSpan 0 = .ok (.aload_n 0, 1) := by decide +kernel
theorem dX1_dropSpan_1 : decode cX1_dropSpan 1 = .ok (.iload_n 1, 1) := by decide +kernel
theorem dX1_dropSpan_2 : decode cX1_dropSpan 2 = .ok (.invokevirtual 71, 3) := by decide +kernel
theorem dX1_dropSpan_5 : decode cX1_dropSpan 5 = .ok (.iload_n 2, 1) := by decide +kernel
theorem dX1_dropSpan_6 : decode cX1_dropSpan 6 = .ok (.invokevirtual 121, 3) := by decide +kernel
theorem dX1_dropSpan_9 : decode cX1_dropSpan 9 = .ok (.iconst 1, 1) := by decide +kernel
theorem dX1_dropSpan_10 : decode cX1_dropSpan 10 = .ok (.istore_n 3, 1) := by decide +kernel
theorem dX1_dropSpan_11 : decode cX1_dropSpan 11 = .ok (.iload_n 1, 1) := by decide +kernel
theorem dX1_dropSpan_12 : decode cX1_dropSpan 12 = .ok (.iconst 1, 1) := by decide +kernel
theorem dX1_dropSpan_13 : decode cX1_dropSpan 13 = .ok (.iadd, 1) := by decide +kernel
theorem dX1_dropSpan_14 : decode cX1_dropSpan 14 = .ok (.istore 4, 2) := by decide +kernel
theorem dX1_dropSpan_16 : decode cX1_dropSpan 16 = .ok (.iload 4, 2) := by decide +kernel
theorem dX1_dropSpan_18 : decode cX1_dropSpan 18 = .ok (.aload_n 0, 1) := by decide +kernel
theorem dX1_dropSpan_19 : decode cX1_dropSpan 19 = .ok (.getfield 39, 3) := by decide +kernel
theorem dX1_dropSpan_22 : decode cX1_dropSpan 22 = .ok (.if_icmp .ge 18, 3) := by decide +kernel
theorem dX1_dropSpan_25 : decode cX1_dropSpan 25 = .ok (.iload_n 3, 1) := by decide +kernel
theorem dX1_dropSpan_26 : decode cX1_dropSpan 26 = .ok (.aload_n 0, 1) := by decide +kernel
theorem dX1_dropSpan_27 : decode cX1_dropSpan 27 = .ok (.iload 4, 2) := by decide +kernel
theorem dX1_dropSpan_29 : decode cX1_dropSpan 29 = .ok (.invokevirtual 132, 3) := by decide +kernel
theorem dX1_dropSpan_32 : decode cX1_dropSpan 32 = .ok (.iadd, 1) := by decide +kernel
theorem dX1_dropSpan_33 : decode cX1_dropSpan 33 = .ok (.istore_n 3, 1) := by decide +kernel
theorem dX1_dropSpan_34 : decode cX1_dropSpan 34 = .ok (.iinc 4 1, 3) := by decide +kernel
theorem dX1_dropSpan_37 : decode cX1_dropSpan 37 = .ok (.goto (-21), 3) := by decide +kernel
theorem dX1_dropSpan_40 : decode cX1_dropSpan 40 = .ok (.iload_n 3, 1) := by decide +kernel
theorem dX1_dropSpan_41 : decode cX1_dropSpan 41 = .ok (.ireturn, 1) := by decide +kernel
theorem dX1_dropOrphans_0 : decode cX1_dropOrphans 0 = .ok (.aload_n 0, 1) := by decide +kernel
theorem dX1_dropOrphans_1 : decode cX1_dropOrphans 1 = .ok (.iload_n 1, 1) := by decide +kernel
theorem dX1_dropOrphans_2 : decode cX1_dropOrphans 2 = .ok (.invokevirtual 71, 3) := by decide +kernel
theorem dX1_dropOrphans_5 : decode cX1_dropOrphans 5 = .ok (.astore_n 2, 1) := by decide +kernel
theorem dX1_dropOrphans_6 : decode cX1_dropOrphans 6 = .ok (.iconst 0, 1) := by decide +kernel
theorem dX1_dropOrphans_7 : decode cX1_dropOrphans 7 = .ok (.istore_n 3, 1) := by decide +kernel
theorem dX1_dropOrphans_8 : decode cX1_dropOrphans 8 = .ok (.aload_n 2, 1) := by decide +kernel
theorem dX1_dropOrphans_9 : decode cX1_dropOrphans 9 = .ok (.getfield 75, 3) := by decide +kernel
theorem dX1_dropOrphans_12 : decode cX1_dropOrphans 12 = .ok (.iconst 1, 1) := by decide +kernel
theorem dX1_dropOrphans_13 : decode cX1_dropOrphans 13 = .ok (.isub, 1) := by decide +kernel
theorem dX1_dropOrphans_14 : decode cX1_dropOrphans 14 = .ok (.istore 4, 2) := by decide +kernel
theorem dX1_dropOrphans_16 : decode cX1_dropOrphans 16 = .ok (.iload 4, 2) := by decide +kernel
theorem dX1_dropOrphans_18 : decode cX1_dropOrphans 18 = .ok (.ifCond .lt 42, 3) := by decide +kernel
theorem dX1_dropOrphans_21 : decode cX1_dropOrphans 21 = .ok (.aload_n 0, 1) := by decide +kernel
theorem dX1_dropOrphans_22 : decode cX1_dropOrphans 22 = .ok (.aload_n 0, 1) := by decide +kernel
theorem dX1_dropOrphans_23 : decode cX1_dropOrphans 23 = .ok (.getfield 42, 3) := by decide +kernel
theorem dX1_dropOrphans_26 : decode cX1_dropOrphans 26 = .ok (.iload_n 1, 1) := by decide +kernel
theorem dX1_dropOrphans_27 : decode cX1_dropOrphans 27 = .ok (.aload_n 2, 1) := by decide +kernel
theorem dX1_dropOrphans_28 : decode cX1_dropOrphans 28 = .ok (.iload 4, 2) := by decide +kernel
theorem dX1_dropOrphans_30 : decode cX1_dropOrphans 30 = .ok (.invokevirtual 86, 3) := by decide +kernel
theorem dX1_dropOrphans_33 : decode cX1_dropOrphans 33 = .ok (.aload_n 2, 1) := by decide +kernel
theorem dX1_dropOrphans_34 : decode cX1_dropOrphans 34 = .ok (.iload 4, 2) := by decide +kernel
theorem dX1_dropOrphans_36 : decode cX1_dropOrphans 36 = .ok (.invokevirtual 89, 3) := by decide +kernel
theorem dX1_dropOrphans_39 : decode cX1_dropOrphans 39 = .ok (.invokevirtual 92, 3) := by decide +kernel
theorem dX1_dropOrphans_42 : decode cX1_dropOrphans 42 = .ok (.ifCond .eq 12, 3) := by decide +kernel
theorem dX1_dropOrphans_45 : decode cX1_dropOrphans 45 = .ok (.aload_n 2, 1) := by decide +kernel
theorem dX1_dropOrphans_46 : decode cX1_dropOrphans 46 = .ok (.iload 4, 2) := by decide +kernel
theorem dX1_dropOrphans_48 : decode cX1_dropOrphans 48 = .ok (.invokevirtual 121, 3) := by decide +kernel
theorem dX1_dropOrphans_51 : decode cX1_dropOrphans 51 = .ok (.iinc 3 1, 3) := by decide +kernel
theorem dX1_dropOrphans_54 : decode cX1_dropOrphans 54 = .ok (.iinc 4 (-1), 3) := by decide +kernel
theorem dX1_dropOrphans_57 : decode cX1_dropOrphans 57 = .ok (.goto (-41), 3) := by decide +kernel
theorem dX1_dropOrphans_60 : decode cX1_dropOrphans 60 = .ok (.iload_n 3, 1) := by decide +kernel
theorem dX1_dropOrphans_61 : decode cX1_dropOrphans 61 = .ok (.ireturn, 1) := by decide +kernel
theorem dX2_init_0 : decode cX2_init 0 = .ok (.aload_n 0, 1) := by decide +kernel
theorem dX2_init_1 : decode cX2_init 1 = .ok (.invokespecial 3, 3) := by decide +kernel
theorem dX2_init_4 : decode cX2_init 4 = .ok (.aload_n 0, 1) := by decide +kernel
theorem dX2_init_5 : decode cX2_init 5 = .ok (.bipush 8, 2) := by decide +kernel
theorem dX2_init_7 : decode cX2_init 7 = .ok (.anewarray 9, 3) := by decide +kernel
theorem dX2_init_10 : decode cX2_init 10 = .ok (.putfield 11, 3) := by decide +kernel
theorem dX2_init_13 : decode cX2_init 13 = .ok (.iconst 0, 1) := by decide +kernel
theorem dX2_init_14 : decode cX2_init 14 = .ok (.istore_n 1, 1) := by decide +kernel
theorem dX2_init_15 : decode cX2_init 15 = .ok (.iload_n 1, 1) := by decide +kernel
theorem dX2_init_16 : decode cX2_init 16 = .ok (.aload_n 0, 1) := by decide +kernel
theorem dX2_init_17 : decode cX2_init 17 = .ok (.getfield 11, 3) := by decide +kernel
theorem dX2_init_20 : decode cX2_init 20 = .ok (.arraylength, 1) := by decide +kernel
theorem dX2_init_21 : decode cX2_init 21 = .ok (.if_icmp .ge 22, 3) := by decide +kernel
theorem dX2_init_24 : decode cX2_init 24 = .ok (.aload_n 0, 1) := by decide +kernel
theorem dX2_init_25 : decode cX2_init 25 = .ok (.getfield 11, 3) := by decide +kernel
theorem dX2_init_28 : decode cX2_init 28 = .ok (.iload_n 1, 1) := by decide +kernel
theorem dX2_init_29 : decode cX2_init 29 = .ok (.new 9, 3) := by decide +kernel
theorem dX2_init_32 : decode cX2_init 32 = .ok (.dup, 1) := by decide +kernel
theorem dX2_init_33 : decode cX2_init 33 = .ok (.invokespecial 17, 3) := by decide +kernel
theorem dX2_init_36 : decode cX2_init 36 = .ok (.aastore, 1) := by decide +kernel
theorem dX2_init_37 : decode cX2_init 37 = .ok (.iinc 1 1, 3) := by decide +kernel
theorem dX2_init_40 : decode cX2_init 40 = .ok (.goto (-25), 3) := by decide +kernel
theorem dX2_init_43 : decode cX2_init 43 = .ok (.return_, 1) := by decide +kernel
theorem dX2_push_0 : decode cX2_push 0 = .ok (.aload_n 0, 1) := by decide +kernel
theorem dX2_push_1 : decode cX2_push 1 = .ok (.getfield 18, 3) := by decide +kernel
theorem dX2_push_4 : decode cX2_push 4 = .ok (.ifCond .lt 27, 3) := by decide +kernel
theorem dX2_push_7 : decode cX2_push 7 = .ok (.aload_n 0, 1) := by decide +kernel
theorem dX2_push_8 : decode cX2_push 8 = .ok (.getfield 18, 3) := by decide +kernel
theorem dX2_push_11 : decode cX2_push 11 = .ok (.aload_n 0, 1) := by decide +kernel
theorem dX2_push_12 : decode cX2_push 12 = .ok (.getfield 11, 3) := by decide +kernel
theorem dX2_push_15 : decode cX2_push 15 = .ok (.arraylength, 1) := by decide +kernel
theorem dX2_push_16 : decode cX2_push 16 = .ok (.if_icmp .ge 15, 3) := by decide +kernel
theorem dX2_push_19 : decode cX2_push 19 = .ok (.aload_n 0, 1) := by decide +kernel
theorem dX2_push_20 : decode cX2_push 20 = .ok (.getfield 11, 3) := by decide +kernel
theorem dX2_push_23 : decode cX2_push 23 = .ok (.aload_n 0, 1) := by decide +kernel
theorem dX2_push_24 : decode cX2_push 24 = .ok (.getfield 18, 3) := by decide +kernel
theorem dX2_push_27 : decode cX2_push 27 = .ok (.aaload, 1) := by decide +kernel
theorem dX2_push_28 : decode cX2_push 28 = .ok (.goto 4, 3) := by decide +kernel
theorem dX2_push_31 : decode cX2_push 31 = .ok (.aconst_null, 1) := by decide +kernel
theorem dX2_push_32 : decode cX2_push 32 = .ok (.astore_n 2, 1) := by decide +kernel
theorem dX2_push_33 : decode cX2_push 33 = .ok (.aload_n 2, 1) := by decide +kernel
theorem dX2_push_34 : decode cX2_push 34 = .ok (.ifnull 8, 3) := by decide +kernel
theorem dX2_push_37 : decode cX2_push 37 = .ok (.aload_n 2, 1) := by decide +kernel
theorem dX2_push_38 : decode cX2_push 38 = .ok (.aload_n 1, 1) := by decide +kernel
theorem dX2_push_39 : decode cX2_push 39 = .ok (.invokevirtual 22, 3) := by decide +kernel
theorem dX2_push_42 : decode cX2_push 42 = .ok (.aload_n 0, 1) := by decide +kernel
theorem dX2_push_43 : decode cX2_push 43 = .ok (.aload_n 0, 1) := by decide +kernel
theorem dX2_push_44 : decode cX2_push 44 = .ok (.getfield 18, 3) := by decide +kernel
theorem dX2_push_47 : decode cX2_push 47 = .ok (.bipush 7, 2) := by decide +kernel
theorem dX2_push_49 : decode cX2_push 49 = .ok (.if_icmp .ge 12, 3) := by decide +kernel
theorem dX2_push_52 : decode cX2_push 52 = .ok (.aload_n 0, 1) := by decide +kernel
theorem dX2_push_53 : decode cX2_push 53 = .ok (.getfield 18, 3) := by decide +kernel
theorem dX2_push_56 : decode cX2_push 56 = .ok (.iconst 1, 1) := by decide +kernel
theorem dX2_push_57 : decode cX2_push 57 = .ok (.iadd, 1) := by decide +kernel
theorem dX2_push_58 : decode cX2_push 58 = .ok (.goto 4, 3) := by decide +kernel
theorem dX2_push_61 : decode cX2_push 61 = .ok (.iconst 0, 1) := by decide +kernel
theorem dX2_push_62 : decode cX2_push 62 = .ok (.putfield 18, 3) := by decide +kernel
theorem dX2_push_65 : decode cX2_push 65 = .ok (.aload_n 0, 1) := by decide +kernel
theorem dX2_push_66 : decode cX2_push 66 = .ok (.aload_n 0, 1) := by decide +kernel
theorem dX2_push_67 : decode cX2_push 67 = .ok (.getfield 26, 3) := by decide +kernel
theorem dX2_push_70 : decode cX2_push 70 = .ok (.iconst 1, 1) := by decide +kernel
theorem dX2_push_71 : decode cX2_push 71 = .ok (.iadd, 1) := by decide +kernel
theorem dX2_push_72 : decode cX2_push 72 = .ok (.bipush 8, 2) := by decide +kernel
theorem dX2_push_74 : decode cX2_push 74 = .ok (.invokestatic 29, 3) := by decide +kernel
theorem dX2_push_77 : decode cX2_push 77 = .ok (.putfield 26, 3) := by decide +kernel
theorem dX2_push_80 : decode cX2_push 80 = .ok (.return_, 1) := by decide +kernel
theorem dX2_pop_0 : decode cX2_pop 0 = .ok (.aload_n 0, 1) := by decide +kernel
theorem dX2_pop_1 : decode cX2_pop 1 = .ok (.aload_n 0, 1) := by decide +kernel
theorem dX2_pop_2 : decode cX2_pop 2 = .ok (.getfield 18, 3) := by decide +kernel
theorem dX2_pop_5 : decode cX2_pop 5 = .ok (.ifCond .le 12, 3) := by decide +kernel
theorem dX2_pop_8 : decode cX2_pop 8 = .ok (.aload_n 0, 1) := by decide +kernel
theorem dX2_pop_9 : decode cX2_pop 9 = .ok (.getfield 18, 3) := by decide +kernel
theorem dX2_pop_12 : decode cX2_pop 12 = .ok (.iconst 1, 1) := by decide +kernel
theorem dX2_pop_13 : decode cX2_pop 13 = .ok (.isub, 1) := by decide +kernel
theorem dX2_pop_14 : decode cX2_pop 14 = .ok (.goto 5, 3) := by decide +kernel
theorem dX2_pop_17 : decode cX2_pop 17 = .ok (.bipush 7, 2) := by decide +kernel
theorem dX2_pop_19 : decode cX2_pop 19 = .ok (.putfield 18, 3) := by decide +kernel
theorem dX2_pop_22 : decode cX2_pop 22 = .ok (.aload_n 0, 1) := by decide +kernel
theorem dX2_pop_23 : decode cX2_pop 23 = .ok (.dup, 1) := by decide +kernel
theorem dX2_pop_24 : decode cX2_pop 24 = .ok (.getfield 26, 3) := by decide +kernel
theorem dX2_pop_27 : decode cX2_pop 27 = .ok (.iconst 1, 1) := by decide +kernel
theorem dX2_pop_28 : decode cX2_pop 28 = .ok (.isub, 1) := by decide +kernel
theorem dX2_pop_29 : decode cX2_pop 29 = .ok (.putfield 26, 3) := by decide +kernel
theorem dX2_pop_32 : decode cX2_pop 32 = .ok (.aload_n 0, 1) := by decide +kernel
theorem dX2_pop_33 : decode cX2_pop 33 = .ok (.getfield 18, 3) := by decide +kernel
theorem dX2_pop_36 : decode cX2_pop 36 = .ok (.ifCond .lt 27, 3) := by decide +kernel
theorem dX2_pop_39 : decode cX2_pop 39 = .ok (.aload_n 0, 1) := by decide +kernel
theorem dX2_pop_40 : decode cX2_pop 40 = .ok (.getfield 18, 3) := by decide +kernel
theorem dX2_pop_43 : decode cX2_pop 43 = .ok (.aload_n 0, 1) := by decide +kernel
theorem dX2_pop_44 : decode cX2_pop 44 = .ok (.getfield 11, 3) := by decide +kernel
theorem dX2_pop_47 : decode cX2_pop 47 = .ok (.arraylength, 1) := by decide +kernel
theorem dX2_pop_48 : decode cX2_pop 48 = .ok (.if_icmp .ge 15, 3) := by decide +kernel
theorem dX2_pop_51 : decode cX2_pop 51 = .ok (.aload_n 0, 1) := by decide +kernel
theorem dX2_pop_52 : decode cX2_pop 52 = .ok (.getfield 11, 3) := by decide +kernel
theorem dX2_pop_55 : decode cX2_pop 55 = .ok (.aload_n 0, 1) := by decide +kernel
theorem dX2_pop_56 : decode cX2_pop 56 = .ok (.getfield 18, 3) := by decide +kernel
theorem dX2_pop_59 : decode cX2_pop 59 = .ok (.aaload, 1) := by decide +kernel
theorem dX2_pop_60 : decode cX2_pop 60 = .ok (.goto 4, 3) := by decide +kernel
theorem dX2_pop_63 : decode cX2_pop 63 = .ok (.aconst_null, 1) := by decide +kernel
theorem dX2_pop_64 : decode cX2_pop 64 = .ok (.astore_n 2, 1) := by decide +kernel
theorem dX2_pop_65 : decode cX2_pop 65 = .ok (.aload_n 2, 1) := by decide +kernel
theorem dX2_pop_66 : decode cX2_pop 66 = .ok (.ifnull 8, 3) := by decide +kernel
theorem dX2_pop_69 : decode cX2_pop 69 = .ok (.aload_n 1, 1) := by decide +kernel
theorem dX2_pop_70 : decode cX2_pop 70 = .ok (.aload_n 2, 1) := by decide +kernel
theorem dX2_pop_71 : decode cX2_pop 71 = .ok (.invokevirtual 22, 3) := by decide +kernel
theorem dX2_pop_74 : decode cX2_pop 74 = .ok (.return_, 1) := by decide +kernel
theorem dX2_forget_0 : decode cX2_forget 0 = .ok (.aload_n 0, 1) := by decide +kernel
theorem dX2_forget_1 : decode cX2_forget 1 = .ok (.iconst 0, 1) := by decide +kernel
theorem dX2_forget_2 : decode cX2_forget 2 = .ok (.putfield 26, 3) := by decide +kernel
theorem dX2_forget_5 : decode cX2_forget 5 = .ok (.return_, 1) := by decide +kernel
theorem dX3_init_0 : decode cX3_init 0 = .ok (.aload_n 0, 1) := by decide +kernel
theorem dX3_init_1 : decode cX3_init 1 = .ok (.invokespecial 3, 3) := by decide +kernel
theorem dX3_init_4 : decode cX3_init 4 = .ok (.aload_n 0, 1) := by decide +kernel
theorem dX3_init_5 : decode cX3_init 5 = .ok (.bipush 100, 2) := by decide +kernel
theorem dX3_init_7 : decode cX3_init 7 = .ok (.newarray .char, 2) := by decide +kernel
theorem dX3_init_9 : decode cX3_init 9 = .ok (.putfield 9, 3) := by decide +kernel
theorem dX3_init_12 : decode cX3_init 12 = .ok (.return_, 1) := by decide +kernel
theorem dX3_put_0 : decode cX3_put 0 = .ok (.iload_n 1, 1) := by decide +kernel
theorem dX3_put_1 : decode cX3_put 1 = .ok (.ifCond .eq 40, 3) := by decide +kernel
theorem dX3_put_4 : decode cX3_put 4 = .ok (.aload_n 0, 1) := by decide +kernel
theorem dX3_put_5 : decode cX3_put 5 = .ok (.getfield 15, 3) := by decide +kernel
theorem dX3_put_8 : decode cX3_put 8 = .ok (.ifCond .lt 33, 3) := by decide +kernel
theorem dX3_put_11 : decode cX3_put 11 = .ok (.aload_n 0, 1) := by decide +kernel
theorem dX3_put_12 : decode cX3_put 12 = .ok (.getfield 15, 3) := by decide +kernel
theorem dX3_put_15 : decode cX3_put 15 = .ok (.bipush 100, 2) := by decide +kernel
theorem dX3_put_17 : decode cX3_put 17 = .ok (.if_icmp .ge 24, 3) := by decide +kernel
theorem dX3_put_20 : decode cX3_put 20 = .ok (.aload_n 0, 1) := by decide +kernel
theorem dX3_put_21 : decode cX3_put 21 = .ok (.getfield 9, 3) := by decide +kernel
theorem dX3_put_24 : decode cX3_put 24 = .ok (.aload_n 0, 1) := by decide +kernel
theorem dX3_put_25 : decode cX3_put 25 = .ok (.getfield 15, 3) := by decide +kernel
theorem dX3_put_28 : decode cX3_put 28 = .ok (.iload_n 1, 1) := by decide +kernel
theorem dX3_put_29 : decode cX3_put 29 = .ok (.i2c, 1) := by decide +kernel
theorem dX3_put_30 : decode cX3_put 30 = .ok (.castore, 1) := by decide +kernel
theorem dX3_put_31 : decode cX3_put 31 = .ok (.aload_n 0, 1) := by decide +kernel
theorem dX3_put_32 : decode cX3_put 32 = .ok (.dup, 1) := by decide +kernel
theorem dX3_put_33 : decode cX3_put 33 = .ok (.getfield 15, 3) := by decide +kernel
theorem dX3_put_36 : decode cX3_put 36 = .ok (.iconst 1, 1) := by decide +kernel
theorem dX3_put_37 : decode cX3_put 37 = .ok (.iadd, 1) := by decide +kernel
theorem dX3_put_38 : decode cX3_put 38 = .ok (.putfield 15, 3) := by decide +kernel
theorem dX3_put_41 : decode cX3_put 41 = .ok (.return_, 1) := by decide +kernel
theorem dX3_empty_0 : decode cX3_empty 0 = .ok (.aload_n 0, 1) := by decide +kernel
theorem dX3_empty_1 : decode cX3_empty 1 = .ok (.iconst 0, 1) := by decide +kernel
theorem dX3_empty_2 : decode cX3_empty 2 = .ok (.putfield 15, 3) := by decide +kernel
theorem dX3_empty_5 : decode cX3_empty 5 = .ok (.return_, 1) := by decide +kernel
theorem dX3_restart_0 : decode cX3_restart 0 = .ok (.aload_n 0, 1) := by decide +kernel
theorem dX3_restart_1 : decode cX3_restart 1 = .ok (.iconst 0, 1) := by decide +kernel
theorem dX3_restart_2 : decode cX3_restart 2 = .ok (.putfield 19, 3) := by decide +kernel
theorem dX3_restart_5 : decode cX3_restart 5 = .ok (.return_, 1) := by decide +kernel
theorem dX3_isAtEnd_0 : decode cX3_isAtEnd 0 = .ok (.aload_n 0, 1) := by decide +kernel
theorem dX3_isAtEnd_1 : decode cX3_isAtEnd 1 = .ok (.getfield 19, 3) := by decide +kernel
theorem dX3_isAtEnd_4 : decode cX3_isAtEnd 4 = .ok (.aload_n 0, 1) := by decide +kernel
theorem dX3_isAtEnd_5 : decode cX3_isAtEnd 5 = .ok (.getfield 15, 3) := by decide +kernel
theorem dX3_isAtEnd_8 : decode cX3_isAtEnd 8 = .ok (.if_icmp .lt 7, 3) := by decide +kernel
theorem dX3_isAtEnd_11 : decode cX3_isAtEnd 11 = .ok (.iconst 1, 1) := by decide +kernel
theorem dX3_isAtEnd_12 : decode cX3_isAtEnd 12 = .ok (.goto 4, 3) := by decide +kernel
theorem dX3_isAtEnd_15 : decode cX3_isAtEnd 15 = .ok (.iconst 0, 1) := by decide +kernel
theorem dX3_isAtEnd_16 : decode cX3_isAtEnd 16 = .ok (.ireturn, 1) := by decide +kernel
theorem dX3_peek_0 : decode cX3_peek 0 = .ok (.aload_n 0, 1) := by decide +kernel
theorem dX3_peek_1 : decode cX3_peek 1 = .ok (.getfield 19, 3) := by decide +kernel
theorem dX3_peek_4 : decode cX3_peek 4 = .ok (.ifCond .lt 35, 3) := by decide +kernel
theorem dX3_peek_7 : decode cX3_peek 7 = .ok (.aload_n 0, 1) := by decide +kernel
theorem dX3_peek_8 : decode cX3_peek 8 = .ok (.getfield 19, 3) := by decide +kernel
theorem dX3_peek_11 : decode cX3_peek 11 = .ok (.aload_n 0, 1) := by decide +kernel
theorem dX3_peek_12 : decode cX3_peek 12 = .ok (.getfield 15, 3) := by decide +kernel
theorem dX3_peek_15 : decode cX3_peek 15 = .ok (.if_icmp .ge 24, 3) := by decide +kernel
theorem dX3_peek_18 : decode cX3_peek 18 = .ok (.aload_n 0, 1) := by decide +kernel
theorem dX3_peek_19 : decode cX3_peek 19 = .ok (.getfield 19, 3) := by decide +kernel
theorem dX3_peek_22 : decode cX3_peek 22 = .ok (.bipush 100, 2) := by decide +kernel
theorem dX3_peek_24 : decode cX3_peek 24 = .ok (.if_icmp .ge 15, 3) := by decide +kernel
theorem dX3_peek_27 : decode cX3_peek 27 = .ok (.aload_n 0, 1) := by decide +kernel
theorem dX3_peek_28 : decode cX3_peek 28 = .ok (.getfield 9, 3) := by decide +kernel
theorem dX3_peek_31 : decode cX3_peek 31 = .ok (.aload_n 0, 1) := by decide +kernel
theorem dX3_peek_32 : decode cX3_peek 32 = .ok (.getfield 19, 3) := by decide +kernel
theorem dX3_peek_35 : decode cX3_peek 35 = .ok (.caload, 1) := by decide +kernel
theorem dX3_peek_36 : decode cX3_peek 36 = .ok (.goto 4, 3) := by decide +kernel
theorem dX3_peek_39 : decode cX3_peek 39 = .ok (.iconst 0, 1) := by decide +kernel
theorem dX3_peek_40 : decode cX3_peek 40 = .ok (.ireturn, 1) := by decide +kernel
theorem dX3_take_0 : decode cX3_take 0 = .ok (.aload_n 0, 1) := by decide +kernel
theorem dX3_take_1 : decode cX3_take 1 = .ok (.invokevirtual 22, 3) := by decide +kernel
theorem dX3_take_4 : decode cX3_take 4 = .ok (.iload_n 1, 1) := by decide +kernel
theorem dX3_take_5 : decode cX3_take 5 = .ok (.if_icmp .eq 5, 3) := by decide +kernel
theorem dX3_take_8 : decode cX3_take 8 = .ok (.iconst 0, 1) := by decide +kernel
theorem dX3_take_9 : decode cX3_take 9 = .ok (.ireturn, 1) := by decide +kernel
theorem dX3_take_10 : decode cX3_take 10 = .ok (.aload_n 0, 1) := by decide +kernel
theorem dX3_take_11 : decode cX3_take 11 = .ok (.dup, 1) := by decide +kernel
theorem dX3_take_12 : decode cX3_take 12 = .ok (.getfield 19, 3) := by decide +kernel
theorem dX3_take_15 : decode cX3_take 15 = .ok (.iconst 1, 1) := by decide +kernel
theorem dX3_take_16 : decode cX3_take 16 = .ok (.iadd, 1) := by decide +kernel
theorem dX3_take_17 : decode cX3_take 17 = .ok (.putfield 19, 3) := by decide +kernel
theorem dX3_take_20 : decode cX3_take 20 = .ok (.iconst 1, 1) := by decide +kernel
theorem dX3_take_21 : decode cX3_take 21 = .ok (.ireturn, 1) := by decide +kernel
theorem dX3_isDigit_0 : decode cX3_isDigit 0 = .ok (.aload_n 0, 1) := by decide +kernel
theorem dX3_isDigit_1 : decode cX3_isDigit 1 = .ok (.invokevirtual 22, 3) := by decide +kernel
theorem dX3_isDigit_4 : decode cX3_isDigit 4 = .ok (.bipush 48, 2) := by decide +kernel
theorem dX3_isDigit_6 : decode cX3_isDigit 6 = .ok (.if_icmp .lt 16, 3) := by decide +kernel
theorem dX3_isDigit_9 : decode cX3_isDigit 9 = .ok (.aload_n 0, 1) := by decide +kernel
theorem dX3_isDigit_10 : decode cX3_isDigit 10 = .ok (.invokevirtual 22, 3) := by decide +kernel
theorem dX3_isDigit_13 : decode cX3_isDigit 13 = .ok (.bipush 57, 2) := by decide +kernel
theorem dX3_isDigit_15 : decode cX3_isDigit 15 = .ok (.if_icmp .gt 7, 3) := by decide +kernel
theorem dX3_isDigit_18 : decode cX3_isDigit 18 = .ok (.iconst 1, 1) := by decide +kernel
theorem dX3_isDigit_19 : decode cX3_isDigit 19 = .ok (.goto 4, 3) := by decide +kernel
theorem dX3_isDigit_22 : decode cX3_isDigit 22 = .ok (.iconst 0, 1) := by decide +kernel
theorem dX3_isDigit_23 : decode cX3_isDigit 23 = .ok (.ireturn, 1) := by decide +kernel
theorem dX3_readTier_0 : decode cX3_readTier 0 = .ok (.aload_n 0, 1) := by decide +kernel
theorem dX3_readTier_1 : decode cX3_readTier 1 = .ok (.invokevirtual 22, 3) := by decide +kernel
theorem dX3_readTier_4 : decode cX3_readTier 4 = .ok (.bipush 48, 2) := by decide +kernel
theorem dX3_readTier_6 : decode cX3_readTier 6 = .ok (.isub, 1) := by decide +kernel
theorem dX3_readTier_7 : decode cX3_readTier 7 = .ok (.istore_n 2, 1) := by decide +kernel
theorem dX3_readTier_8 : decode cX3_readTier 8 = .ok (.iload_n 2, 1) := by decide +kernel
theorem dX3_readTier_9 : decode cX3_readTier 9 = .ok (.ifCond .lt 8, 3) := by decide +kernel
theorem dX3_readTier_12 : decode cX3_readTier 12 = .ok (.iload_n 2, 1) := by decide +kernel
theorem dX3_readTier_13 : decode cX3_readTier 13 = .ok (.iload_n 1, 1) := by decide +kernel
theorem dX3_readTier_14 : decode cX3_readTier 14 = .ok (.if_icmp .lt 5, 3) := by decide +kernel
theorem dX3_readTier_17 : decode cX3_readTier 17 = .ok (.iconst (-1), 1) := by decide +kernel
theorem dX3_readTier_18 : decode cX3_readTier 18 = .ok (.ireturn, 1) := by decide +kernel
theorem dX3_readTier_19 : decode cX3_readTier 19 = .ok (.aload_n 0, 1) := by decide +kernel
theorem dX3_readTier_20 : decode cX3_readTier 20 = .ok (.dup, 1) := by decide +kernel
theorem dX3_readTier_21 : decode cX3_readTier 21 = .ok (.getfield 19, 3) := by decide +kernel
theorem dX3_readTier_24 : decode cX3_readTier 24 = .ok (.iconst 1, 1) := by decide +kernel
theorem dX3_readTier_25 : decode cX3_readTier 25 = .ok (.iadd, 1) := by decide +kernel
theorem dX3_readTier_26 : decode cX3_readTier 26 = .ok (.putfield 19, 3) := by decide +kernel
theorem dX3_readTier_29 : decode cX3_readTier 29 = .ok (.iload_n 2, 1) := by decide +kernel
theorem dX3_readTier_30 : decode cX3_readTier 30 = .ok (.ireturn, 1) := by decide +kernel
theorem dX3_readNumber_0 : decode cX3_readNumber 0 = .ok (.aload_n 0, 1) := by decide +kernel
theorem dX3_readNumber_1 : decode cX3_readNumber 1 = .ok (.invokevirtual 26, 3) := by decide +kernel
theorem dX3_readNumber_4 : decode cX3_readNumber 4 = .ok (.ifCond .ne 5, 3) := by decide +kernel
theorem dX3_readNumber_7 : decode cX3_readNumber 7 = .ok (.iconst (-1), 1) := by decide +kernel
theorem dX3_readNumber_8 : decode cX3_readNumber 8 = .ok (.ireturn, 1) := by decide +kernel
theorem dX3_readNumber_9 : decode cX3_readNumber 9 = .ok (.aload_n 0, 1) := by decide +kernel
theorem dX3_readNumber_10 : decode cX3_readNumber 10 = .ok (.bipush 48, 2) := by decide +kernel
theorem dX3_readNumber_12 : decode cX3_readNumber 12 = .ok (.invokevirtual 30, 3) := by decide +kernel
theorem dX3_readNumber_15 : decode cX3_readNumber 15 = .ok (.ifCond .eq 5, 3) := by decide +kernel
theorem dX3_readNumber_18 : decode cX3_readNumber 18 = .ok (.iconst 0, 1) := by decide +kernel
theorem dX3_readNumber_19 : decode cX3_readNumber 19 = .ok (.ireturn, 1) := by decide +kernel
theorem dX3_readNumber_20 : decode cX3_readNumber 20 = .ok (.iconst 0, 1) := by decide +kernel
theorem dX3_readNumber_21 : decode cX3_readNumber 21 = .ok (.istore_n 1, 1) := by decide +kernel
theorem dX3_readNumber_22 : decode cX3_readNumber 22 = .ok (.iconst 0, 1) := by decide +kernel
theorem dX3_readNumber_23 : decode cX3_readNumber 23 = .ok (.istore_n 2, 1) := by decide +kernel
theorem dX3_readNumber_24 : decode cX3_readNumber 24 = .ok (.iload_n 2, 1) := by decide +kernel
theorem dX3_readNumber_25 : decode cX3_readNumber 25 = .ok (.iconst 4, 1) := by decide +kernel
theorem dX3_readNumber_26 : decode cX3_readNumber 26 = .ok (.if_icmp .ge 39, 3) := by decide +kernel
theorem dX3_readNumber_29 : decode cX3_readNumber 29 = .ok (.aload_n 0, 1) := by decide +kernel
theorem dX3_readNumber_30 : decode cX3_readNumber 30 = .ok (.invokevirtual 26, 3) := by decide +kernel
theorem dX3_readNumber_33 : decode cX3_readNumber 33 = .ok (.ifCond .eq 32, 3) := by decide +kernel
theorem dX3_readNumber_36 : decode cX3_readNumber 36 = .ok (.iload_n 1, 1) := by decide +kernel
theorem dX3_readNumber_37 : decode cX3_readNumber 37 = .ok (.bipush 10, 2) := by decide +kernel
theorem dX3_readNumber_39 : decode cX3_readNumber 39 = .ok (.imul, 1) := by decide +kernel
theorem dX3_readNumber_40 : decode cX3_readNumber 40 = .ok (.aload_n 0, 1) := by decide +kernel
theorem dX3_readNumber_41 : decode cX3_readNumber 41 = .ok (.invokevirtual 22, 3) := by decide +kernel
theorem dX3_readNumber_44 : decode cX3_readNumber 44 = .ok (.iadd, 1) := by decide +kernel
theorem dX3_readNumber_45 : decode cX3_readNumber 45 = .ok (.bipush 48, 2) := by decide +kernel
theorem dX3_readNumber_47 : decode cX3_readNumber 47 = .ok (.isub, 1) := by decide +kernel
theorem dX3_readNumber_48 : decode cX3_readNumber 48 = .ok (.istore_n 1, 1) := by decide +kernel
theorem dX3_readNumber_49 : decode cX3_readNumber 49 = .ok (.aload_n 0, 1) := by decide +kernel
theorem dX3_readNumber_50 : decode cX3_readNumber 50 = .ok (.dup, 1) := by decide +kernel
theorem dX3_readNumber_51 : decode cX3_readNumber 51 = .ok (.getfield 19, 3) := by decide +kernel
theorem dX3_readNumber_54 : decode cX3_readNumber 54 = .ok (.iconst 1, 1) := by decide +kernel
theorem dX3_readNumber_55 : decode cX3_readNumber 55 = .ok (.iadd, 1) := by decide +kernel
theorem dX3_readNumber_56 : decode cX3_readNumber 56 = .ok (.putfield 19, 3) := by decide +kernel
theorem dX3_readNumber_59 : decode cX3_readNumber 59 = .ok (.iinc 2 1, 3) := by decide +kernel
theorem dX3_readNumber_62 : decode cX3_readNumber 62 = .ok (.goto (-38), 3) := by decide +kernel
theorem dX3_readNumber_65 : decode cX3_readNumber 65 = .ok (.iload_n 1, 1) := by decide +kernel
theorem dX3_readNumber_66 : decode cX3_readNumber 66 = .ok (.ireturn, 1) := by decide +kernel
theorem dX3_isLetterOf_0 : decode cX3_isLetterOf 0 = .ok (.aload_n 0, 1) := by decide +kernel
theorem dX3_isLetterOf_1 : decode cX3_isLetterOf 1 = .ok (.invokevirtual 22, 3) := by decide +kernel
theorem dX3_isLetterOf_4 : decode cX3_isLetterOf 4 = .ok (.istore_n 2, 1) := by decide +kernel
theorem dX3_isLetterOf_5 : decode cX3_isLetterOf 5 = .ok (.iload_n 1, 1) := by decide +kernel
theorem dX3_isLetterOf_6 : decode cX3_isLetterOf 6 = .ok (.lookupswitch 55 #[(1, 26), (2, 50)], 26) := by decide +kernel
theorem dX3_isLetterOf_32 : decode cX3_isLetterOf 32 = .ok (.iload_n 2, 1) := by decide +kernel
theorem dX3_isLetterOf_33 : decode cX3_isLetterOf 33 = .ok (.bipush 108, 2) := by decide +kernel
theorem dX3_isLetterOf_35 : decode cX3_isLetterOf 35 = .ok (.if_icmp .eq 15, 3) := by decide +kernel
theorem dX3_isLetterOf_38 : decode cX3_isLetterOf 38 = .ok (.iload_n 2, 1) := by decide +kernel
theorem dX3_isLetterOf_39 : decode cX3_isLetterOf 39 = .ok (.bipush 114, 2) := by decide +kernel
theorem dX3_isLetterOf_41 : decode cX3_isLetterOf 41 = .ok (.if_icmp .eq 9, 3) := by decide +kernel
theorem dX3_isLetterOf_44 : decode cX3_isLetterOf 44 = .ok (.iload_n 2, 1) := by decide +kernel
theorem dX3_isLetterOf_45 : decode cX3_isLetterOf 45 = .ok (.bipush 98, 2) := by decide +kernel
theorem dX3_isLetterOf_47 : decode cX3_isLetterOf 47 = .ok (.if_icmp .ne 7, 3) := by decide +kernel
theorem dX3_isLetterOf_50 : decode cX3_isLetterOf 50 = .ok (.iconst 1, 1) := by decide +kernel
theorem dX3_isLetterOf_51 : decode cX3_isLetterOf 51 = .ok (.goto 4, 3) := by decide +kernel
theorem dX3_isLetterOf_54 : decode cX3_isLetterOf 54 = .ok (.iconst 0, 1) := by decide +kernel
theorem dX3_isLetterOf_55 : decode cX3_isLetterOf 55 = .ok (.ireturn, 1) := by decide +kernel
theorem dX3_isLetterOf_56 : decode cX3_isLetterOf 56 = .ok (.aload_n 0, 1) := by decide +kernel
theorem dX3_isLetterOf_57 : decode cX3_isLetterOf 57 = .ok (.invokevirtual 26, 3) := by decide +kernel
theorem dX3_isLetterOf_60 : decode cX3_isLetterOf 60 = .ok (.ireturn, 1) := by decide +kernel
theorem dX3_isLetterOf_61 : decode cX3_isLetterOf 61 = .ok (.iload_n 2, 1) := by decide +kernel
theorem dX3_isLetterOf_62 : decode cX3_isLetterOf 62 = .ok (.bipush 97, 2) := by decide +kernel
theorem dX3_isLetterOf_64 : decode cX3_isLetterOf 64 = .ok (.if_icmp .lt 13, 3) := by decide +kernel
theorem dX3_isLetterOf_67 : decode cX3_isLetterOf 67 = .ok (.iload_n 2, 1) := by decide +kernel
theorem dX3_isLetterOf_68 : decode cX3_isLetterOf 68 = .ok (.bipush 122, 2) := by decide +kernel
theorem dX3_isLetterOf_70 : decode cX3_isLetterOf 70 = .ok (.if_icmp .gt 7, 3) := by decide +kernel
theorem dX3_isLetterOf_73 : decode cX3_isLetterOf 73 = .ok (.iconst 1, 1) := by decide +kernel
theorem dX3_isLetterOf_74 : decode cX3_isLetterOf 74 = .ok (.goto 4, 3) := by decide +kernel
theorem dX3_isLetterOf_77 : decode cX3_isLetterOf 77 = .ok (.iconst 0, 1) := by decide +kernel
theorem dX3_isLetterOf_78 : decode cX3_isLetterOf 78 = .ok (.ireturn, 1) := by decide +kernel
theorem dX3_readLabel_0 : decode cX3_readLabel 0 = .ok (.iload_n 1, 1) := by decide +kernel
theorem dX3_readLabel_1 : decode cX3_readLabel 1 = .ok (.ifCond .eq 8, 3) := by decide +kernel
theorem dX3_readLabel_4 : decode cX3_readLabel 4 = .ok (.iload_n 1, 1) := by decide +kernel
theorem dX3_readLabel_5 : decode cX3_readLabel 5 = .ok (.iconst 3, 1) := by decide +kernel
theorem dX3_readLabel_6 : decode cX3_readLabel 6 = .ok (.if_icmp .ne 8, 3) := by decide +kernel
theorem dX3_readLabel_9 : decode cX3_readLabel 9 = .ok (.bipush 8, 2) := by decide +kernel
theorem dX3_readLabel_11 : decode cX3_readLabel 11 = .ok (.goto 4, 3) := by decide +kernel
theorem dX3_readLabel_14 : decode cX3_readLabel 14 = .ok (.iconst 1, 1) := by decide +kernel
theorem dX3_readLabel_15 : decode cX3_readLabel 15 = .ok (.istore_n 2, 1) := by decide +kernel
theorem dX3_readLabel_16 : decode cX3_readLabel 16 = .ok (.lconst 0, 1) := by decide +kernel
theorem dX3_readLabel_17 : decode cX3_readLabel 17 = .ok (.lstore_n 3, 1) := by decide +kernel
theorem dX3_readLabel_18 : decode cX3_readLabel 18 = .ok (.iconst 0, 1) := by decide +kernel
theorem dX3_readLabel_19 : decode cX3_readLabel 19 = .ok (.istore 5, 2) := by decide +kernel
theorem dX3_readLabel_21 : decode cX3_readLabel 21 = .ok (.iload 5, 2) := by decide +kernel
theorem dX3_readLabel_23 : decode cX3_readLabel 23 = .ok (.iload_n 2, 1) := by decide +kernel
theorem dX3_readLabel_24 : decode cX3_readLabel 24 = .ok (.if_icmp .ge 38, 3) := by decide +kernel
theorem dX3_readLabel_27 : decode cX3_readLabel 27 = .ok (.aload_n 0, 1) := by decide +kernel
theorem dX3_readLabel_28 : decode cX3_readLabel 28 = .ok (.iload_n 1, 1) := by decide +kernel
theorem dX3_readLabel_29 : decode cX3_readLabel 29 = .ok (.invokevirtual 34, 3) := by decide +kernel
theorem dX3_readLabel_32 : decode cX3_readLabel 32 = .ok (.ifCond .eq 30, 3) := by decide +kernel
theorem dX3_readLabel_35 : decode cX3_readLabel 35 = .ok (.lload_n 3, 1) := by decide +kernel
theorem dX3_readLabel_36 : decode cX3_readLabel 36 = .ok (.iload 5, 2) := by decide +kernel
theorem dX3_readLabel_38 : decode cX3_readLabel 38 = .ok (.aload_n 0, 1) := by decide +kernel
theorem dX3_readLabel_39 : decode cX3_readLabel 39 = .ok (.invokevirtual 22, 3) := by decide +kernel
theorem dX3_readLabel_42 : decode cX3_readLabel 42 = .ok (.invokestatic 38, 3) := by decide +kernel
theorem dX3_readLabel_45 : decode cX3_readLabel 45 = .ok (.lstore_n 3, 1) := by decide +kernel
theorem dX3_readLabel_46 : decode cX3_readLabel 46 = .ok (.aload_n 0, 1) := by decide +kernel
theorem dX3_readLabel_47 : decode cX3_readLabel 47 = .ok (.dup, 1) := by decide +kernel
theorem dX3_readLabel_48 : decode cX3_readLabel 48 = .ok (.getfield 19, 3) := by decide +kernel
theorem dX3_readLabel_51 : decode cX3_readLabel 51 = .ok (.iconst 1, 1) := by decide +kernel
theorem dX3_readLabel_52 : decode cX3_readLabel 52 = .ok (.iadd, 1) := by decide +kernel
theorem dX3_readLabel_53 : decode cX3_readLabel 53 = .ok (.putfield 19, 3) := by decide +kernel
theorem dX3_readLabel_56 : decode cX3_readLabel 56 = .ok (.iinc 5 1, 3) := by decide +kernel
theorem dX3_readLabel_59 : decode cX3_readLabel 59 = .ok (.goto (-38), 3) := by decide +kernel
theorem dX3_readLabel_62 : decode cX3_readLabel 62 = .ok (.lload_n 3, 1) := by decide +kernel
theorem dX3_readLabel_63 : decode cX3_readLabel 63 = .ok (.lreturn, 1) := by decide +kernel
theorem dX3_readItem_0 : decode cX3_readItem 0 = .ok (.aload_n 0, 1) := by decide +kernel
theorem dX3_readItem_1 : decode cX3_readItem 1 = .ok (.aload_n 0, 1) := by decide +kernel
theorem dX3_readItem_2 : decode cX3_readItem 2 = .ok (.aload_n 1, 1) := by decide +kernel
theorem dX3_readItem_3 : decode cX3_readItem 3 = .ok (.getfield 42, 3) := by decide +kernel
theorem dX3_readItem_6 : decode cX3_readItem 6 = .ok (.invokevirtual 47, 3) := by decide +kernel
theorem dX3_readItem_9 : decode cX3_readItem 9 = .ok (.putfield 51, 3) := by decide +kernel
theorem dX3_readItem_12 : decode cX3_readItem 12 = .ok (.aload_n 0, 1) := by decide +kernel
theorem dX3_readItem_13 : decode cX3_readItem 13 = .ok (.getfield 51, 3) := by decide +kernel
theorem dX3_readItem_16 : decode cX3_readItem 16 = .ok (.ifCond .lt 12, 3) := by decide +kernel
theorem dX3_readItem_19 : decode cX3_readItem 19 = .ok (.aload_n 0, 1) := by decide +kernel
theorem dX3_readItem_20 : decode cX3_readItem 20 = .ok (.bipush 58, 2) := by decide +kernel
theorem dX3_readItem_22 : decode cX3_readItem 22 = .ok (.invokevirtual 30, 3) := by decide +kernel
theorem dX3_readItem_25 : decode cX3_readItem 25 = .ok (.ifCond .ne 5, 3) := by decide +kernel
theorem dX3_readItem_28 : decode cX3_readItem 28 = .ok (.iconst 0, 1) := by decide +kernel
theorem dX3_readItem_29 : decode cX3_readItem 29 = .ok (.ireturn, 1) := by decide +kernel
theorem dX3_readItem_30 : decode cX3_readItem 30 = .ok (.aload_n 0, 1) := by decide +kernel
theorem dX3_readItem_31 : decode cX3_readItem 31 = .ok (.aload_n 0, 1) := by decide +kernel
theorem dX3_readItem_32 : decode cX3_readItem 32 = .ok (.invokevirtual 54, 3) := by decide +kernel
theorem dX3_readItem_35 : decode cX3_readItem 35 = .ok (.putfield 58, 3) := by decide +kernel
theorem dX3_readItem_38 : decode cX3_readItem 38 = .ok (.aload_n 0, 1) := by decide +kernel
theorem dX3_readItem_39 : decode cX3_readItem 39 = .ok (.getfield 58, 3) := by decide +kernel
theorem dX3_readItem_42 : decode cX3_readItem 42 = .ok (.ifCond .lt 12, 3) := by decide +kernel
theorem dX3_readItem_45 : decode cX3_readItem 45 = .ok (.aload_n 0, 1) := by decide +kernel
theorem dX3_readItem_46 : decode cX3_readItem 46 = .ok (.bipush 45, 2) := by decide +kernel
theorem dX3_readItem_48 : decode cX3_readItem 48 = .ok (.invokevirtual 30, 3) := by decide +kernel
theorem dX3_readItem_51 : decode cX3_readItem 51 = .ok (.ifCond .ne 5, 3) := by decide +kernel
theorem dX3_readItem_54 : decode cX3_readItem 54 = .ok (.iconst 0, 1) := by decide +kernel
theorem dX3_readItem_55 : decode cX3_readItem 55 = .ok (.ireturn, 1) := by decide +kernel
theorem dX3_readItem_56 : decode cX3_readItem 56 = .ok (.aload_n 0, 1) := by decide +kernel
theorem dX3_readItem_57 : decode cX3_readItem 57 = .ok (.aload_n 0, 1) := by decide +kernel
theorem dX3_readItem_58 : decode cX3_readItem 58 = .ok (.invokevirtual 54, 3) := by decide +kernel
theorem dX3_readItem_61 : decode cX3_readItem 61 = .ok (.putfield 61, 3) := by decide +kernel
theorem dX3_readItem_64 : decode cX3_readItem 64 = .ok (.aload_n 0, 1) := by decide +kernel
theorem dX3_readItem_65 : decode cX3_readItem 65 = .ok (.getfield 61, 3) := by decide +kernel
theorem dX3_readItem_68 : decode cX3_readItem 68 = .ok (.ifCond .lt 12, 3) := by decide +kernel
theorem dX3_readItem_71 : decode cX3_readItem 71 = .ok (.aload_n 0, 1) := by decide +kernel
theorem dX3_readItem_72 : decode cX3_readItem 72 = .ok (.bipush 61, 2) := by decide +kernel
theorem dX3_readItem_74 : decode cX3_readItem 74 = .ok (.invokevirtual 30, 3) := by decide +kernel
theorem dX3_readItem_77 : decode cX3_readItem 77 = .ok (.ifCond .ne 5, 3) := by decide +kernel
theorem dX3_readItem_80 : decode cX3_readItem 80 = .ok (.iconst 0, 1) := by decide +kernel
theorem dX3_readItem_81 : decode cX3_readItem 81 = .ok (.ireturn, 1) := by decide +kernel
theorem dX3_readItem_82 : decode cX3_readItem 82 = .ok (.aload_n 0, 1) := by decide +kernel
theorem dX3_readItem_83 : decode cX3_readItem 83 = .ok (.aload_n 0, 1) := by decide +kernel
theorem dX3_readItem_84 : decode cX3_readItem 84 = .ok (.aload_n 1, 1) := by decide +kernel
theorem dX3_readItem_85 : decode cX3_readItem 85 = .ok (.aload_n 0, 1) := by decide +kernel
theorem dX3_readItem_86 : decode cX3_readItem 86 = .ok (.getfield 51, 3) := by decide +kernel
theorem dX3_readItem_89 : decode cX3_readItem 89 = .ok (.invokevirtual 64, 3) := by decide +kernel
theorem dX3_readItem_92 : decode cX3_readItem 92 = .ok (.invokevirtual 67, 3) := by decide +kernel
theorem dX3_readItem_95 : decode cX3_readItem 95 = .ok (.putfield 71, 3) := by decide +kernel
theorem dX3_readItem_98 : decode cX3_readItem 98 = .ok (.aload_n 0, 1) := by decide +kernel
theorem dX3_readItem_99 : decode cX3_readItem 99 = .ok (.getfield 71, 3) := by decide +kernel
theorem dX3_readItem_102 : decode cX3_readItem 102 = .ok (.lconst 0, 1) := by decide +kernel
theorem dX3_readItem_103 : decode cX3_readItem 103 = .ok (.lcmp, 1) := by decide +kernel
theorem dX3_readItem_104 : decode cX3_readItem 104 = .ok (.ifCond .eq 7, 3) := by decide +kernel
theorem dX3_readItem_107 : decode cX3_readItem 107 = .ok (.iconst 1, 1) := by decide +kernel
theorem dX3_readItem_108 : decode cX3_readItem 108 = .ok (.goto 4, 3) := by decide +kernel
theorem dX3_readItem_111 : decode cX3_readItem 111 = .ok (.iconst 0, 1) := by decide +kernel
theorem dX3_readItem_112 : decode cX3_readItem 112 = .ok (.ireturn, 1) := by decide +kernel
theorem dX3_countItems_0 : decode cX3_countItems 0 = .ok (.aload_n 0, 1) := by decide +kernel
theorem dX3_countItems_1 : decode cX3_countItems 1 = .ok (.invokevirtual 75, 3) := by decide +kernel
theorem dX3_countItems_4 : decode cX3_countItems 4 = .ok (.iconst 1, 1) := by decide +kernel
theorem dX3_countItems_5 : decode cX3_countItems 5 = .ok (.istore_n 2, 1) := by decide +kernel
theorem dX3_countItems_6 : decode cX3_countItems 6 = .ok (.iload_n 2, 1) := by decide +kernel
theorem dX3_countItems_7 : decode cX3_countItems 7 = .ok (.bipush 100, 2) := by decide +kernel
theorem dX3_countItems_9 : decode cX3_countItems 9 = .ok (.if_icmp .gt 39, 3) := by decide +kernel
theorem dX3_countItems_12 : decode cX3_countItems 12 = .ok (.aload_n 0, 1) := by decide +kernel
theorem dX3_countItems_13 : decode cX3_countItems 13 = .ok (.aload_n 1, 1) := by decide +kernel
theorem dX3_countItems_14 : decode cX3_countItems 14 = .ok (.invokevirtual 78, 3) := by decide +kernel
theorem dX3_countItems_17 : decode cX3_countItems 17 = .ok (.ifCond .ne 5, 3) := by decide +kernel
theorem dX3_countItems_20 : decode cX3_countItems 20 = .ok (.iconst 0, 1) := by decide +kernel
theorem dX3_countItems_21 : decode cX3_countItems 21 = .ok (.ireturn, 1) := by decide +kernel
theorem dX3_countItems_22 : decode cX3_countItems 22 = .ok (.aload_n 0, 1) := by decide +kernel
theorem dX3_countItems_23 : decode cX3_countItems 23 = .ok (.invokevirtual 82, 3) := by decide +kernel
theorem dX3_countItems_26 : decode cX3_countItems 26 = .ok (.ifCond .eq 5, 3) := by decide +kernel
theorem dX3_countItems_29 : decode cX3_countItems 29 = .ok (.iload_n 2, 1) := by decide +kernel
theorem dX3_countItems_30 : decode cX3_countItems 30 = .ok (.ireturn, 1) := by decide +kernel
theorem dX3_countItems_31 : decode cX3_countItems 31 = .ok (.aload_n 0, 1) := by decide +kernel
theorem dX3_countItems_32 : decode cX3_countItems 32 = .ok (.bipush 59, 2) := by decide +kernel
theorem dX3_countItems_34 : decode cX3_countItems 34 = .ok (.invokevirtual 30, 3) := by decide +kernel
theorem dX3_countItems_37 : decode cX3_countItems 37 = .ok (.ifCond .ne 5, 3) := by decide +kernel
theorem dX3_countItems_40 : decode cX3_countItems 40 = .ok (.iconst 0, 1) := by decide +kernel
theorem dX3_countItems_41 : decode cX3_countItems 41 = .ok (.ireturn, 1) := by decide +kernel
theorem dX3_countItems_42 : decode cX3_countItems 42 = .ok (.iinc 2 1, 3) := by decide +kernel
theorem dX3_countItems_45 : decode cX3_countItems 45 = .ok (.goto (-39), 3) := by decide +kernel
theorem dX3_countItems_48 : decode cX3_countItems 48 = .ok (.iconst 0, 1) := by decide +kernel
theorem dX3_countItems_49 : decode cX3_countItems 49 = .ok (.ireturn, 1) := by decide +kernel
theorem dX4_init_0 : decode cX4_init 0 = .ok (.aload_n 0, 1) := by decide +kernel
theorem dX4_init_1 : decode cX4_init 1 = .ok (.invokespecial 3, 3) := by decide +kernel
theorem dX4_init_4 : decode cX4_init 4 = .ok (.aload_n 0, 1) := by decide +kernel
theorem dX4_init_5 : decode cX4_init 5 = .ok (.bipush 60, 2) := by decide +kernel
theorem dX4_init_7 : decode cX4_init 7 = .ok (.newarray .int, 2) := by decide +kernel
theorem dX4_init_9 : decode cX4_init 9 = .ok (.putfield 11, 3) := by decide +kernel
theorem dX4_init_12 : decode cX4_init 12 = .ok (.aload_n 0, 1) := by decide +kernel
theorem dX4_init_13 : decode cX4_init 13 = .ok (.bipush 60, 2) := by decide +kernel
theorem dX4_init_15 : decode cX4_init 15 = .ok (.newarray .int, 2) := by decide +kernel
theorem dX4_init_17 : decode cX4_init 17 = .ok (.putfield 15, 3) := by decide +kernel
theorem dX4_init_20 : decode cX4_init 20 = .ok (.aload_n 0, 1) := by decide +kernel
theorem dX4_init_21 : decode cX4_init 21 = .ok (.bipush 60, 2) := by decide +kernel
theorem dX4_init_23 : decode cX4_init 23 = .ok (.newarray .int, 2) := by decide +kernel
theorem dX4_init_25 : decode cX4_init 25 = .ok (.putfield 18, 3) := by decide +kernel
theorem dX4_init_28 : decode cX4_init 28 = .ok (.aload_n 0, 1) := by decide +kernel
theorem dX4_init_29 : decode cX4_init 29 = .ok (.bipush 60, 2) := by decide +kernel
theorem dX4_init_31 : decode cX4_init 31 = .ok (.newarray .long, 2) := by decide +kernel
theorem dX4_init_33 : decode cX4_init 33 = .ok (.putfield 21, 3) := by decide +kernel
theorem dX4_init_36 : decode cX4_init 36 = .ok (.return_, 1) := by decide +kernel
theorem dX4_has_0 : decode cX4_has 0 = .ok (.iload_n 1, 1) := by decide +kernel
theorem dX4_has_1 : decode cX4_has 1 = .ok (.ifCond .lt 21, 3) := by decide +kernel
theorem dX4_has_4 : decode cX4_has 4 = .ok (.iload_n 1, 1) := by decide +kernel
theorem dX4_has_5 : decode cX4_has 5 = .ok (.aload_n 0, 1) := by decide +kernel
theorem dX4_has_6 : decode cX4_has 6 = .ok (.getfield 25, 3) := by decide +kernel
theorem dX4_has_9 : decode cX4_has 9 = .ok (.if_icmp .ge 13, 3) := by decide +kernel
theorem dX4_has_12 : decode cX4_has 12 = .ok (.iload_n 1, 1) := by decide +kernel
theorem dX4_has_13 : decode cX4_has 13 = .ok (.bipush 60, 2) := by decide +kernel
theorem dX4_has_15 : decode cX4_has 15 = .ok (.if_icmp .ge 7, 3) := by decide +kernel
theorem dX4_has_18 : decode cX4_has 18 = .ok (.iconst 1, 1) := by decide +kernel
theorem dX4_has_19 : decode cX4_has 19 = .ok (.goto 4, 3) := by decide +kernel
theorem dX4_has_22 : decode cX4_has 22 = .ok (.iconst 0, 1) := by decide +kernel
theorem dX4_has_23 : decode cX4_has 23 = .ok (.ireturn, 1) := by decide +kernel
theorem dX4_first_0 : decode cX4_first 0 = .ok (.aload_n 0, 1) := by decide +kernel
theorem dX4_first_1 : decode cX4_first 1 = .ok (.iload_n 1, 1) := by decide +kernel
theorem dX4_first_2 : decode cX4_first 2 = .ok (.invokevirtual 29, 3) := by decide +kernel
theorem dX4_first_5 : decode cX4_first 5 = .ok (.ifCond .eq 12, 3) := by decide +kernel
theorem dX4_first_8 : decode cX4_first 8 = .ok (.aload_n 0, 1) := by decide +kernel
theorem dX4_first_9 : decode cX4_first 9 = .ok (.getfield 11, 3) := by decide +kernel
theorem dX4_first_12 : decode cX4_first 12 = .ok (.iload_n 1, 1) := by decide +kernel
theorem dX4_first_13 : decode cX4_first 13 = .ok (.iaload, 1) := by decide +kernel
theorem dX4_first_14 : decode cX4_first 14 = .ok (.goto 4, 3) := by decide +kernel
theorem dX4_first_17 : decode cX4_first 17 = .ok (.iconst 0, 1) := by decide +kernel
theorem dX4_first_18 : decode cX4_first 18 = .ok (.ireturn, 1) := by decide +kernel
theorem dX4_end_0 : decode cX4_end 0 = .ok (.aload_n 0, 1) := by decide +kernel
theorem dX4_end_1 : decode cX4_end 1 = .ok (.iload_n 1, 1) := by decide +kernel
theorem dX4_end_2 : decode cX4_end 2 = .ok (.invokevirtual 29, 3) := by decide +kernel
theorem dX4_end_5 : decode cX4_end 5 = .ok (.ifCond .eq 12, 3) := by decide +kernel
theorem dX4_end_8 : decode cX4_end 8 = .ok (.aload_n 0, 1) := by decide +kernel
theorem dX4_end_9 : decode cX4_end 9 = .ok (.getfield 15, 3) := by decide +kernel
theorem dX4_end_12 : decode cX4_end 12 = .ok (.iload_n 1, 1) := by decide +kernel
theorem dX4_end_13 : decode cX4_end 13 = .ok (.iaload, 1) := by decide +kernel
theorem dX4_end_14 : decode cX4_end 14 = .ok (.goto 4, 3) := by decide +kernel
theorem dX4_end_17 : decode cX4_end 17 = .ok (.iconst 0, 1) := by decide +kernel
theorem dX4_end_18 : decode cX4_end 18 = .ok (.ireturn, 1) := by decide +kernel
theorem dX4_source_0 : decode cX4_source 0 = .ok (.aload_n 0, 1) := by decide +kernel
theorem dX4_source_1 : decode cX4_source 1 = .ok (.iload_n 1, 1) := by decide +kernel
theorem dX4_source_2 : decode cX4_source 2 = .ok (.invokevirtual 29, 3) := by decide +kernel
theorem dX4_source_5 : decode cX4_source 5 = .ok (.ifCond .eq 12, 3) := by decide +kernel
theorem dX4_source_8 : decode cX4_source 8 = .ok (.aload_n 0, 1) := by decide +kernel
theorem dX4_source_9 : decode cX4_source 9 = .ok (.getfield 18, 3) := by decide +kernel
theorem dX4_source_12 : decode cX4_source 12 = .ok (.iload_n 1, 1) := by decide +kernel
theorem dX4_source_13 : decode cX4_source 13 = .ok (.iaload, 1) := by decide +kernel
theorem dX4_source_14 : decode cX4_source 14 = .ok (.goto 4, 3) := by decide +kernel
theorem dX4_source_17 : decode cX4_source 17 = .ok (.iconst 0, 1) := by decide +kernel
theorem dX4_source_18 : decode cX4_source 18 = .ok (.ireturn, 1) := by decide +kernel
theorem dX4_label_0 : decode cX4_label 0 = .ok (.aload_n 0, 1) := by decide +kernel
theorem dX4_label_1 : decode cX4_label 1 = .ok (.iload_n 1, 1) := by decide +kernel
theorem dX4_label_2 : decode cX4_label 2 = .ok (.invokevirtual 29, 3) := by decide +kernel
theorem dX4_label_5 : decode cX4_label 5 = .ok (.ifCond .eq 12, 3) := by decide +kernel
theorem dX4_label_8 : decode cX4_label 8 = .ok (.aload_n 0, 1) := by decide +kernel
theorem dX4_label_9 : decode cX4_label 9 = .ok (.getfield 21, 3) := by decide +kernel
theorem dX4_label_12 : decode cX4_label 12 = .ok (.iload_n 1, 1) := by decide +kernel
theorem dX4_label_13 : decode cX4_label 13 = .ok (.laload, 1) := by decide +kernel
theorem dX4_label_14 : decode cX4_label 14 = .ok (.goto 4, 3) := by decide +kernel
theorem dX4_label_17 : decode cX4_label 17 = .ok (.lconst 0, 1) := by decide +kernel
theorem dX4_label_18 : decode cX4_label 18 = .ok (.lreturn, 1) := by decide +kernel
theorem dX4_run_0 : decode cX4_run 0 = .ok (.aload_n 0, 1) := by decide +kernel
theorem dX4_run_1 : decode cX4_run 1 = .ok (.iconst 0, 1) := by decide +kernel
theorem dX4_run_2 : decode cX4_run 2 = .ok (.putfield 25, 3) := by decide +kernel
theorem dX4_run_5 : decode cX4_run 5 = .ok (.aload_n 0, 1) := by decide +kernel
theorem dX4_run_6 : decode cX4_run 6 = .ok (.iconst 0, 1) := by decide +kernel
theorem dX4_run_7 : decode cX4_run 7 = .ok (.putfield 33, 3) := by decide +kernel
theorem dX4_run_10 : decode cX4_run 10 = .ok (.aload_n 0, 1) := by decide +kernel
theorem dX4_run_11 : decode cX4_run 11 = .ok (.iconst 0, 1) := by decide +kernel
theorem dX4_run_12 : decode cX4_run 12 = .ok (.putfield 36, 3) := by decide +kernel
theorem dX4_run_15 : decode cX4_run 15 = .ok (.aload_n 1, 1) := by decide +kernel
theorem dX4_run_16 : decode cX4_run 16 = .ok (.getfield 39, 3) := by decide +kernel
theorem dX4_run_19 : decode cX4_run 19 = .ok (.aload_n 2, 1) := by decide +kernel
theorem dX4_run_20 : decode cX4_run 20 = .ok (.getfield 39, 3) := by decide +kernel
theorem dX4_run_23 : decode cX4_run 23 = .ok (.iadd, 1) := by decide +kernel
theorem dX4_run_24 : decode cX4_run 24 = .ok (.istore_n 3, 1) := by decide +kernel
theorem dX4_run_25 : decode cX4_run 25 = .ok (.iconst 0, 1) := by decide +kernel
theorem dX4_run_26 : decode cX4_run 26 = .ok (.istore 4, 2) := by decide +kernel
theorem dX4_run_28 : decode cX4_run 28 = .ok (.iconst 0, 1) := by decide +kernel
theorem dX4_run_29 : decode cX4_run 29 = .ok (.istore 5, 2) := by decide +kernel
theorem dX4_run_31 : decode cX4_run 31 = .ok (.iload 5, 2) := by decide +kernel
theorem dX4_run_33 : decode cX4_run 33 = .ok (.iload_n 3, 1) := by decide +kernel
theorem dX4_run_34 : decode cX4_run 34 = .ok (.if_icmp .ge 50, 3) := by decide +kernel
theorem dX4_run_37 : decode cX4_run 37 = .ok (.iload 5, 2) := by decide +kernel
theorem dX4_run_39 : decode cX4_run 39 = .ok (.iload 4, 2) := by decide +kernel
theorem dX4_run_41 : decode cX4_run 41 = .ok (.isub, 1) := by decide +kernel
theorem dX4_run_42 : decode cX4_run 42 = .ok (.istore 6, 2) := by decide +kernel
theorem dX4_run_44 : decode cX4_run 44 = .ok (.aload_n 1, 1) := by decide +kernel
theorem dX4_run_45 : decode cX4_run 45 = .ok (.iload 4, 2) := by decide +kernel
theorem dX4_run_47 : decode cX4_run 47 = .ok (.aload_n 2, 1) := by decide +kernel
theorem dX4_run_48 : decode cX4_run 48 = .ok (.iload 6, 2) := by decide +kernel
theorem dX4_run_50 : decode cX4_run 50 = .ok (.invokestatic 42, 3) := by decide +kernel
theorem dX4_run_53 : decode cX4_run 53 = .ok (.ifCond .eq 17, 3) := by decide +kernel
theorem dX4_run_56 : decode cX4_run 56 = .ok (.aload_n 0, 1) := by decide +kernel
theorem dX4_run_57 : decode cX4_run 57 = .ok (.aload_n 1, 1) := by decide +kernel
theorem dX4_run_58 : decode cX4_run 58 = .ok (.iload 4, 2) := by decide +kernel
theorem dX4_run_60 : decode cX4_run 60 = .ok (.iconst 1, 1) := by decide +kernel
theorem dX4_run_61 : decode cX4_run 61 = .ok (.invokevirtual 46, 3) := by decide +kernel
theorem dX4_run_64 : decode cX4_run 64 = .ok (.iinc 4 1, 3) := by decide +kernel
theorem dX4_run_67 : decode cX4_run 67 = .ok (.goto 11, 3) := by decide +kernel
theorem dX4_run_70 : decode cX4_run 70 = .ok (.aload_n 0, 1) := by decide +kernel
theorem dX4_run_71 : decode cX4_run 71 = .ok (.aload_n 2, 1) := by decide +kernel
theorem dX4_run_72 : decode cX4_run 72 = .ok (.iload 6, 2) := by decide +kernel
theorem dX4_run_74 : decode cX4_run 74 = .ok (.iconst 2, 1) := by decide +kernel
theorem dX4_run_75 : decode cX4_run 75 = .ok (.invokevirtual 46, 3) := by decide +kernel
theorem dX4_run_78 : decode cX4_run 78 = .ok (.iinc 5 1, 3) := by decide +kernel
theorem dX4_run_81 : decode cX4_run 81 = .ok (.goto (-50), 3) := by decide +kernel
theorem dX4_run_84 : decode cX4_run 84 = .ok (.return_, 1) := by decide +kernel
theorem dX4_isBefore_0 : decode cX4_isBefore 0 = .ok (.iload_n 1, 1) := by decide +kernel
theorem dX4_isBefore_1 : decode cX4_isBefore 1 = .ok (.aload_n 0, 1) := by decide +kernel
theorem dX4_isBefore_2 : decode cX4_isBefore 2 = .ok (.getfield 39, 3) := by decide +kernel
theorem dX4_isBefore_5 : decode cX4_isBefore 5 = .ok (.if_icmp .ge 11, 3) := by decide +kernel
theorem dX4_isBefore_8 : decode cX4_isBefore 8 = .ok (.iload_n 3, 1) := by decide +kernel
theorem dX4_isBefore_9 : decode cX4_isBefore 9 = .ok (.aload_n 2, 1) := by decide +kernel
theorem dX4_isBefore_10 : decode cX4_isBefore 10 = .ok (.getfield 39, 3) := by decide +kernel
theorem dX4_isBefore_13 : decode cX4_isBefore 13 = .ok (.if_icmp .lt 17, 3) := by decide +kernel
theorem dX4_isBefore_16 : decode cX4_isBefore 16 = .ok (.iload_n 1, 1) := by decide +kernel
theorem dX4_isBefore_17 : decode cX4_isBefore 17 = .ok (.aload_n 0, 1) := by decide +kernel
theorem dX4_isBefore_18 : decode cX4_isBefore 18 = .ok (.getfield 39, 3) := by decide +kernel
theorem dX4_isBefore_21 : decode cX4_isBefore 21 = .ok (.if_icmp .ge 7, 3) := by decide +kernel
theorem dX4_isBefore_24 : decode cX4_isBefore 24 = .ok (.iconst 1, 1) := by decide +kernel
theorem dX4_isBefore_25 : decode cX4_isBefore 25 = .ok (.goto 4, 3) := by decide +kernel
theorem dX4_isBefore_28 : decode cX4_isBefore 28 = .ok (.iconst 0, 1) := by decide +kernel
theorem dX4_isBefore_29 : decode cX4_isBefore 29 = .ok (.ireturn, 1) := by decide +kernel
theorem dX4_isBefore_30 : decode cX4_isBefore 30 = .ok (.aload_n 0, 1) := by decide +kernel
theorem dX4_isBefore_31 : decode cX4_isBefore 31 = .ok (.iload_n 1, 1) := by decide +kernel
theorem dX4_isBefore_32 : decode cX4_isBefore 32 = .ok (.invokevirtual 50, 3) := by decide +kernel
theorem dX4_isBefore_35 : decode cX4_isBefore 35 = .ok (.aload_n 2, 1) := by decide +kernel
theorem dX4_isBefore_36 : decode cX4_isBefore 36 = .ok (.iload_n 3, 1) := by decide +kernel
theorem dX4_isBefore_37 : decode cX4_isBefore 37 = .ok (.invokevirtual 50, 3) := by decide +kernel
theorem dX4_isBefore_40 : decode cX4_isBefore 40 = .ok (.if_icmp .eq 22, 3) := by decide +kernel
theorem dX4_isBefore_43 : decode cX4_isBefore 43 = .ok (.aload_n 0, 1) := by decide +kernel
theorem dX4_isBefore_44 : decode cX4_isBefore 44 = .ok (.iload_n 1, 1) := by decide +kernel
theorem dX4_isBefore_45 : decode cX4_isBefore 45 = .ok (.invokevirtual 50, 3) := by decide +kernel
theorem dX4_isBefore_48 : decode cX4_isBefore 48 = .ok (.aload_n 2, 1) := by decide +kernel
theorem dX4_isBefore_49 : decode cX4_isBefore 49 = .ok (.iload_n 3, 1) := by decide +kernel
theorem dX4_isBefore_50 : decode cX4_isBefore 50 = .ok (.invokevirtual 50, 3) := by decide +kernel
theorem dX4_isBefore_53 : decode cX4_isBefore 53 = .ok (.if_icmp .ge 7, 3) := by decide +kernel
theorem dX4_isBefore_56 : decode cX4_isBefore 56 = .ok (.iconst 1, 1) := by decide +kernel
theorem dX4_isBefore_57 : decode cX4_isBefore 57 = .ok (.goto 4, 3) := by decide +kernel
theorem dX4_isBefore_60 : decode cX4_isBefore 60 = .ok (.iconst 0, 1) := by decide +kernel
theorem dX4_isBefore_61 : decode cX4_isBefore 61 = .ok (.ireturn, 1) := by decide +kernel
theorem dX4_isBefore_62 : decode cX4_isBefore 62 = .ok (.aload_n 0, 1) := by decide +kernel
theorem dX4_isBefore_63 : decode cX4_isBefore 63 = .ok (.iload_n 1, 1) := by decide +kernel
theorem dX4_isBefore_64 : decode cX4_isBefore 64 = .ok (.invokevirtual 54, 3) := by decide +kernel
theorem dX4_isBefore_67 : decode cX4_isBefore 67 = .ok (.aload_n 2, 1) := by decide +kernel
theorem dX4_isBefore_68 : decode cX4_isBefore 68 = .ok (.iload_n 3, 1) := by decide +kernel
theorem dX4_isBefore_69 : decode cX4_isBefore 69 = .ok (.invokevirtual 54, 3) := by decide +kernel
theorem dX4_isBefore_72 : decode cX4_isBefore 72 = .ok (.if_icmp .gt 7, 3) := by decide +kernel
theorem dX4_isBefore_75 : decode cX4_isBefore 75 = .ok (.iconst 1, 1) := by decide +kernel
theorem dX4_isBefore_76 : decode cX4_isBefore 76 = .ok (.goto 4, 3) := by decide +kernel
theorem dX4_isBefore_79 : decode cX4_isBefore 79 = .ok (.iconst 0, 1) := by decide +kernel
theorem dX4_isBefore_80 : decode cX4_isBefore 80 = .ok (.ireturn, 1) := by decide +kernel
theorem dX4_put_0 : decode cX4_put 0 = .ok (.aload_n 0, 1) := by decide +kernel
theorem dX4_put_1 : decode cX4_put 1 = .ok (.getfield 25, 3) := by decide +kernel
theorem dX4_put_4 : decode cX4_put 4 = .ok (.iconst 1, 1) := by decide +kernel
theorem dX4_put_5 : decode cX4_put 5 = .ok (.isub, 1) := by decide +kernel
theorem dX4_put_6 : decode cX4_put 6 = .ok (.istore 4, 2) := by decide +kernel
theorem dX4_put_8 : decode cX4_put 8 = .ok (.aload_n 0, 1) := by decide +kernel
theorem dX4_put_9 : decode cX4_put 9 = .ok (.iload 4, 2) := by decide +kernel
theorem dX4_put_11 : decode cX4_put 11 = .ok (.invokevirtual 29, 3) := by decide +kernel
theorem dX4_put_14 : decode cX4_put 14 = .ok (.ifCond .eq 21, 3) := by decide +kernel
theorem dX4_put_17 : decode cX4_put 17 = .ok (.aload_n 1, 1) := by decide +kernel
theorem dX4_put_18 : decode cX4_put 18 = .ok (.iload_n 2, 1) := by decide +kernel
theorem dX4_put_19 : decode cX4_put 19 = .ok (.invokevirtual 50, 3) := by decide +kernel
theorem dX4_put_22 : decode cX4_put 22 = .ok (.aload_n 0, 1) := by decide +kernel
theorem dX4_put_23 : decode cX4_put 23 = .ok (.iload 4, 2) := by decide +kernel
theorem dX4_put_25 : decode cX4_put 25 = .ok (.invokevirtual 57, 3) := by decide +kernel
theorem dX4_put_28 : decode cX4_put 28 = .ok (.if_icmp .ge 7, 3) := by decide +kernel
theorem dX4_put_31 : decode cX4_put 31 = .ok (.iconst 1, 1) := by decide +kernel
theorem dX4_put_32 : decode cX4_put 32 = .ok (.goto 4, 3) := by decide +kernel
theorem dX4_put_35 : decode cX4_put 35 = .ok (.iconst 0, 1) := by decide +kernel
theorem dX4_put_36 : decode cX4_put 36 = .ok (.istore 5, 2) := by decide +kernel
theorem dX4_put_38 : decode cX4_put 38 = .ok (.iload 5, 2) := by decide +kernel
theorem dX4_put_40 : decode cX4_put 40 = .ok (.ifCond .eq 55, 3) := by decide +kernel
theorem dX4_put_43 : decode cX4_put 43 = .ok (.aload_n 0, 1) := by decide +kernel
theorem dX4_put_44 : decode cX4_put 44 = .ok (.iload 4, 2) := by decide +kernel
theorem dX4_put_46 : decode cX4_put 46 = .ok (.invokevirtual 58, 3) := by decide +kernel
theorem dX4_put_49 : decode cX4_put 49 = .ok (.aload_n 1, 1) := by decide +kernel
theorem dX4_put_50 : decode cX4_put 50 = .ok (.iload_n 2, 1) := by decide +kernel
theorem dX4_put_51 : decode cX4_put 51 = .ok (.invokevirtual 62, 3) := by decide +kernel
theorem dX4_put_54 : decode cX4_put 54 = .ok (.lcmp, 1) := by decide +kernel
theorem dX4_put_55 : decode cX4_put 55 = .ok (.ifCond .ne 40, 3) := by decide +kernel
theorem dX4_put_58 : decode cX4_put 58 = .ok (.aload_n 0, 1) := by decide +kernel
theorem dX4_put_59 : decode cX4_put 59 = .ok (.getfield 15, 3) := by decide +kernel
theorem dX4_put_62 : decode cX4_put 62 = .ok (.iload 4, 2) := by decide +kernel
theorem dX4_put_64 : decode cX4_put 64 = .ok (.aload_n 0, 1) := by decide +kernel
theorem dX4_put_65 : decode cX4_put 65 = .ok (.iload 4, 2) := by decide +kernel
theorem dX4_put_67 : decode cX4_put 67 = .ok (.invokevirtual 57, 3) := by decide +kernel
theorem dX4_put_70 : decode cX4_put 70 = .ok (.aload_n 1, 1) := by decide +kernel
theorem dX4_put_71 : decode cX4_put 71 = .ok (.iload_n 2, 1) := by decide +kernel
theorem dX4_put_72 : decode cX4_put 72 = .ok (.invokevirtual 54, 3) := by decide +kernel
theorem dX4_put_75 : decode cX4_put 75 = .ok (.invokestatic 63, 3) := by decide +kernel
theorem dX4_put_78 : decode cX4_put 78 = .ok (.iastore, 1) := by decide +kernel
theorem dX4_put_79 : decode cX4_put 79 = .ok (.aload_n 0, 1) := by decide +kernel
theorem dX4_put_80 : decode cX4_put 80 = .ok (.getfield 18, 3) := by decide +kernel
theorem dX4_put_83 : decode cX4_put 83 = .ok (.iload 4, 2) := by decide +kernel
theorem dX4_put_85 : decode cX4_put 85 = .ok (.aload_n 0, 1) := by decide +kernel
theorem dX4_put_86 : decode cX4_put 86 = .ok (.iload 4, 2) := by decide +kernel
theorem dX4_put_88 : decode cX4_put 88 = .ok (.invokevirtual 69, 3) := by decide +kernel
theorem dX4_put_91 : decode cX4_put 91 = .ok (.iload_n 3, 1) := by decide +kernel
theorem dX4_put_92 : decode cX4_put 92 = .ok (.ior, 1) := by decide +kernel
theorem dX4_put_93 : decode cX4_put 93 = .ok (.iastore, 1) := by decide +kernel
theorem dX4_put_94 : decode cX4_put 94 = .ok (.return_, 1) := by decide +kernel
theorem dX4_put_95 : decode cX4_put 95 = .ok (.aload_n 0, 1) := by decide +kernel
theorem dX4_put_96 : decode cX4_put 96 = .ok (.dup, 1) := by decide +kernel
theorem dX4_put_97 : decode cX4_put 97 = .ok (.getfield 33, 3) := by decide +kernel
theorem dX4_put_100 : decode cX4_put 100 = .ok (.iload 5, 2) := by decide +kernel
theorem dX4_put_102 : decode cX4_put 102 = .ok (.ifCond .eq 7, 3) := by decide +kernel
theorem dX4_put_105 : decode cX4_put 105 = .ok (.iconst 1, 1) := by decide +kernel
theorem dX4_put_106 : decode cX4_put 106 = .ok (.goto 4, 3) := by decide +kernel
theorem dX4_put_109 : decode cX4_put 109 = .ok (.iconst 0, 1) := by decide +kernel
theorem dX4_put_110 : decode cX4_put 110 = .ok (.iadd, 1) := by decide +kernel
theorem dX4_put_111 : decode cX4_put 111 = .ok (.putfield 33, 3) := by decide +kernel
theorem dX4_put_114 : decode cX4_put 114 = .ok (.iload 5, 2) := by decide +kernel
theorem dX4_put_116 : decode cX4_put 116 = .ok (.ifCond .eq 12, 3) := by decide +kernel
theorem dX4_put_119 : decode cX4_put 119 = .ok (.aload_n 0, 1) := by decide +kernel
theorem dX4_put_120 : decode cX4_put 120 = .ok (.iload 4, 2) := by decide +kernel
theorem dX4_put_122 : decode cX4_put 122 = .ok (.invokevirtual 57, 3) := by decide +kernel
theorem dX4_put_125 : decode cX4_put 125 = .ok (.goto 8, 3) := by decide +kernel
theorem dX4_put_128 : decode cX4_put 128 = .ok (.aload_n 1, 1) := by decide +kernel
theorem dX4_put_129 : decode cX4_put 129 = .ok (.iload_n 2, 1) := by decide +kernel
theorem dX4_put_130 : decode cX4_put 130 = .ok (.invokevirtual 50, 3) := by decide +kernel
theorem dX4_put_133 : decode cX4_put 133 = .ok (.istore 6, 2) := by decide +kernel
theorem dX4_put_135 : decode cX4_put 135 = .ok (.iload 6, 2) := by decide +kernel
theorem dX4_put_137 : decode cX4_put 137 = .ok (.aload_n 1, 1) := by decide +kernel
theorem dX4_put_138 : decode cX4_put 138 = .ok (.iload_n 2, 1) := by decide +kernel
theorem dX4_put_139 : decode cX4_put 139 = .ok (.invokevirtual 54, 3) := by decide +kernel
theorem dX4_put_142 : decode cX4_put 142 = .ok (.if_icmp .lt 14, 3) := by decide +kernel
theorem dX4_put_145 : decode cX4_put 145 = .ok (.aload_n 0, 1) := by decide +kernel
theorem dX4_put_146 : decode cX4_put 146 = .ok (.dup, 1) := by decide +kernel
theorem dX4_put_147 : decode cX4_put 147 = .ok (.getfield 36, 3) := by decide +kernel
theorem dX4_put_150 : decode cX4_put 150 = .ok (.iconst 1, 1) := by decide +kernel
theorem dX4_put_151 : decode cX4_put 151 = .ok (.iadd, 1) := by decide +kernel
theorem dX4_put_152 : decode cX4_put 152 = .ok (.putfield 36, 3) := by decide +kernel
theorem dX4_put_155 : decode cX4_put 155 = .ok (.return_, 1) := by decide +kernel
theorem dX4_put_156 : decode cX4_put 156 = .ok (.aload_n 0, 1) := by decide +kernel
theorem dX4_put_157 : decode cX4_put 157 = .ok (.getfield 25, 3) := by decide +kernel
theorem dX4_put_160 : decode cX4_put 160 = .ok (.ifCond .lt 71, 3) := by decide +kernel
theorem dX4_put_163 : decode cX4_put 163 = .ok (.aload_n 0, 1) := by decide +kernel
theorem dX4_put_164 : decode cX4_put 164 = .ok (.getfield 25, 3) := by decide +kernel
theorem dX4_put_167 : decode cX4_put 167 = .ok (.bipush 60, 2) := by decide +kernel
theorem dX4_put_169 : decode cX4_put 169 = .ok (.if_icmp .ge 62, 3) := by decide +kernel
theorem dX4_put_172 : decode cX4_put 172 = .ok (.aload_n 0, 1) := by decide +kernel
theorem dX4_put_173 : decode cX4_put 173 = .ok (.getfield 11, 3) := by decide +kernel
theorem dX4_put_176 : decode cX4_put 176 = .ok (.aload_n 0, 1) := by decide +kernel
theorem dX4_put_177 : decode cX4_put 177 = .ok (.getfield 25, 3) := by decide +kernel
theorem dX4_put_180 : decode cX4_put 180 = .ok (.iload 6, 2) := by decide +kernel
theorem dX4_put_182 : decode cX4_put 182 = .ok (.iastore, 1) := by decide +kernel
theorem dX4_put_183 : decode cX4_put 183 = .ok (.aload_n 0, 1) := by decide +kernel
theorem dX4_put_184 : decode cX4_put 184 = .ok (.getfield 15, 3) := by decide +kernel
theorem dX4_put_187 : decode cX4_put 187 = .ok (.aload_n 0, 1) := by decide +kernel
theorem dX4_put_188 : decode cX4_put 188 = .ok (.getfield 25, 3) := by decide +kernel
theorem dX4_put_191 : decode cX4_put 191 = .ok (.aload_n 1, 1) := by decide +kernel
theorem dX4_put_192 : decode cX4_put 192 = .ok (.iload_n 2, 1) := by decide +kernel
theorem dX4_put_193 : decode cX4_put 193 = .ok (.invokevirtual 54, 3) := by decide +kernel
theorem dX4_put_196 : decode cX4_put 196 = .ok (.iastore, 1) := by decide +kernel
theorem dX4_put_197 : decode cX4_put 197 = .ok (.aload_n 0, 1) := by decide +kernel
theorem dX4_put_198 : decode cX4_put 198 = .ok (.getfield 18, 3) := by decide +kernel
theorem dX4_put_201 : decode cX4_put 201 = .ok (.aload_n 0, 1) := by decide +kernel
theorem dX4_put_202 : decode cX4_put 202 = .ok (.getfield 25, 3) := by decide +kernel
theorem dX4_put_205 : decode cX4_put 205 = .ok (.iload_n 3, 1) := by decide +kernel
theorem dX4_put_206 : decode cX4_put 206 = .ok (.iastore, 1) := by decide +kernel
theorem dX4_put_207 : decode cX4_put 207 = .ok (.aload_n 0, 1) := by decide +kernel
theorem dX4_put_208 : decode cX4_put 208 = .ok (.getfield 21, 3) := by decide +kernel
theorem dX4_put_211 : decode cX4_put 211 = .ok (.aload_n 0, 1) := by decide +kernel
theorem dX4_put_212 : decode cX4_put 212 = .ok (.getfield 25, 3) := by decide +kernel
theorem dX4_put_215 : decode cX4_put 215 = .ok (.aload_n 1, 1) := by decide +kernel
theorem dX4_put_216 : decode cX4_put 216 = .ok (.iload_n 2, 1) := by decide +kernel
theorem dX4_put_217 : decode cX4_put 217 = .ok (.invokevirtual 62, 3) := by decide +kernel
theorem dX4_put_220 : decode cX4_put 220 = .ok (.lastore, 1) := by decide +kernel
theorem dX4_put_221 : decode cX4_put 221 = .ok (.aload_n 0, 1) := by decide +kernel
theorem dX4_put_222 : decode cX4_put 222 = .ok (.dup, 1) := by decide +kernel
theorem dX4_put_223 : decode cX4_put 223 = .ok (.getfield 25, 3) := by decide +kernel
theorem dX4_put_226 : decode cX4_put 226 = .ok (.iconst 1, 1) := by decide +kernel
theorem dX4_put_227 : decode cX4_put 227 = .ok (.iadd, 1) := by decide +kernel
theorem dX4_put_228 : decode cX4_put 228 = .ok (.putfield 25, 3) := by decide +kernel
theorem dX4_put_231 : decode cX4_put 231 = .ok (.return_, 1) := by decide +kernel
theorem dX4_sharedCount_0 : decode cX4_sharedCount 0 = .ok (.iconst 0, 1) := by decide +kernel
theorem dX4_sharedCount_1 : decode cX4_sharedCount 1 = .ok (.istore_n 1, 1) := by decide +kernel
theorem dX4_sharedCount_2 : decode cX4_sharedCount 2 = .ok (.iconst 0, 1) := by decide +kernel
theorem dX4_sharedCount_3 : decode cX4_sharedCount 3 = .ok (.istore_n 2, 1) := by decide +kernel
theorem dX4_sharedCount_4 : decode cX4_sharedCount 4 = .ok (.iload_n 2, 1) := by decide +kernel
theorem dX4_sharedCount_5 : decode cX4_sharedCount 5 = .ok (.aload_n 0, 1) := by decide +kernel
theorem dX4_sharedCount_6 : decode cX4_sharedCount 6 = .ok (.getfield 25, 3) := by decide +kernel
theorem dX4_sharedCount_9 : decode cX4_sharedCount 9 = .ok (.if_icmp .ge 26, 3) := by decide +kernel
theorem dX4_sharedCount_12 : decode cX4_sharedCount 12 = .ok (.iload_n 1, 1) := by decide +kernel
theorem dX4_sharedCount_13 : decode cX4_sharedCount 13 = .ok (.aload_n 0, 1) := by decide +kernel
theorem dX4_sharedCount_14 : decode cX4_sharedCount 14 = .ok (.iload_n 2, 1) := by decide +kernel
theorem dX4_sharedCount_15 : decode cX4_sharedCount 15 = .ok (.invokevirtual 69, 3) := by decide +kernel
theorem dX4_sharedCount_18 : decode cX4_sharedCount 18 = .ok (.iconst 3, 1) := by decide +kernel
theorem dX4_sharedCount_19 : decode cX4_sharedCount 19 = .ok (.if_icmp .ne 7, 3) := by decide +kernel
theorem dX4_sharedCount_22 : decode cX4_sharedCount 22 = .ok (.iconst 1, 1) := by decide +kernel
theorem dX4_sharedCount_23 : decode cX4_sharedCount 23 = .ok (.goto 4, 3) := by decide +kernel
theorem dX4_sharedCount_26 : decode cX4_sharedCount 26 = .ok (.iconst 0, 1) := by decide +kernel
theorem dX4_sharedCount_27 : decode cX4_sharedCount 27 = .ok (.iadd, 1) := by decide +kernel
theorem dX4_sharedCount_28 : decode cX4_sharedCount 28 = .ok (.istore_n 1, 1) := by decide +kernel
theorem dX4_sharedCount_29 : decode cX4_sharedCount 29 = .ok (.iinc 2 1, 3) := by decide +kernel
theorem dX4_sharedCount_32 : decode cX4_sharedCount 32 = .ok (.goto (-28), 3) := by decide +kernel
theorem dX4_sharedCount_35 : decode cX4_sharedCount 35 = .ok (.iload_n 1, 1) := by decide +kernel
theorem dX4_sharedCount_36 : decode cX4_sharedCount 36 = .ok (.ireturn, 1) := by decide +kernel
theorem dX4_frameSum_0 : decode cX4_frameSum 0 = .ok (.iconst 0, 1) := by decide +kernel
theorem dX4_frameSum_1 : decode cX4_frameSum 1 = .ok (.istore_n 1, 1) := by decide +kernel
theorem dX4_frameSum_2 : decode cX4_frameSum 2 = .ok (.iconst 0, 1) := by decide +kernel
theorem dX4_frameSum_3 : decode cX4_frameSum 3 = .ok (.istore_n 2, 1) := by decide +kernel
theorem dX4_frameSum_4 : decode cX4_frameSum 4 = .ok (.iload_n 2, 1) := by decide +kernel
theorem dX4_frameSum_5 : decode cX4_frameSum 5 = .ok (.aload_n 0, 1) := by decide +kernel
theorem dX4_frameSum_6 : decode cX4_frameSum 6 = .ok (.getfield 25, 3) := by decide +kernel
theorem dX4_frameSum_9 : decode cX4_frameSum 9 = .ok (.if_icmp .ge 23, 3) := by decide +kernel
theorem dX4_frameSum_12 : decode cX4_frameSum 12 = .ok (.iload_n 1, 1) := by decide +kernel
theorem dX4_frameSum_13 : decode cX4_frameSum 13 = .ok (.aload_n 0, 1) := by decide +kernel
theorem dX4_frameSum_14 : decode cX4_frameSum 14 = .ok (.iload_n 2, 1) := by decide +kernel
theorem dX4_frameSum_15 : decode cX4_frameSum 15 = .ok (.invokevirtual 57, 3) := by decide +kernel
theorem dX4_frameSum_18 : decode cX4_frameSum 18 = .ok (.aload_n 0, 1) := by decide +kernel
theorem dX4_frameSum_19 : decode cX4_frameSum 19 = .ok (.iload_n 2, 1) := by decide +kernel
theorem dX4_frameSum_20 : decode cX4_frameSum 20 = .ok (.invokevirtual 72, 3) := by decide +kernel
theorem dX4_frameSum_23 : decode cX4_frameSum 23 = .ok (.isub, 1) := by decide +kernel
theorem dX4_frameSum_24 : decode cX4_frameSum 24 = .ok (.iadd, 1) := by decide +kernel
theorem dX4_frameSum_25 : decode cX4_frameSum 25 = .ok (.istore_n 1, 1) := by decide +kernel
theorem dX4_frameSum_26 : decode cX4_frameSum 26 = .ok (.iinc 2 1, 3) := by decide +kernel
theorem dX4_frameSum_29 : decode cX4_frameSum 29 = .ok (.goto (-25), 3) := by decide +kernel
theorem dX4_frameSum_32 : decode cX4_frameSum 32 = .ok (.iload_n 1, 1) := by decide +kernel
theorem dX4_frameSum_33 : decode cX4_frameSum 33 = .ok (.ireturn, 1) := by decide +kernel
theorem dX5_init_0 : decode cX5_init 0 = .ok (.aload_n 0, 1) := by decide +kernel
theorem dX5_init_1 : decode cX5_init 1 = .ok (.invokespecial 3, 3) := by decide +kernel
theorem dX5_init_4 : decode cX5_init 4 = .ok (.aload_n 0, 1) := by decide +kernel
theorem dX5_init_5 : decode cX5_init 5 = .ok (.iconst 4, 1) := by decide +kernel
theorem dX5_init_6 : decode cX5_init 6 = .ok (.newarray .int, 2) := by decide +kernel
theorem dX5_init_8 : decode cX5_init 8 = .ok (.putfield 9, 3) := by decide +kernel
theorem dX5_init_11 : decode cX5_init 11 = .ok (.aload_n 0, 1) := by decide +kernel
theorem dX5_init_12 : decode cX5_init 12 = .ok (.iconst 4, 1) := by decide +kernel
theorem dX5_init_13 : decode cX5_init 13 = .ok (.newarray .int, 2) := by decide +kernel
theorem dX5_init_15 : decode cX5_init 15 = .ok (.putfield 15, 3) := by decide +kernel
theorem dX5_init_18 : decode cX5_init 18 = .ok (.aload_n 0, 1) := by decide +kernel
theorem dX5_init_19 : decode cX5_init 19 = .ok (.iconst 4, 1) := by decide +kernel
theorem dX5_init_20 : decode cX5_init 20 = .ok (.newarray .long, 2) := by decide +kernel
theorem dX5_init_22 : decode cX5_init 22 = .ok (.putfield 18, 3) := by decide +kernel
theorem dX5_init_25 : decode cX5_init 25 = .ok (.aload_n 0, 1) := by decide +kernel
theorem dX5_init_26 : decode cX5_init 26 = .ok (.iconst 4, 1) := by decide +kernel
theorem dX5_init_27 : decode cX5_init 27 = .ok (.newarray .boolean, 2) := by decide +kernel
theorem dX5_init_29 : decode cX5_init 29 = .ok (.putfield 22, 3) := by decide +kernel
theorem dX5_init_32 : decode cX5_init 32 = .ok (.aload_n 0, 1) := by decide +kernel
theorem dX5_init_33 : decode cX5_init 33 = .ok (.bipush 120, 2) := by decide +kernel
theorem dX5_init_35 : decode cX5_init 35 = .ok (.newarray .int, 2) := by decide +kernel
theorem dX5_init_37 : decode cX5_init 37 = .ok (.putfield 26, 3) := by decide +kernel
theorem dX5_init_40 : decode cX5_init 40 = .ok (.aload_n 0, 1) := by decide +kernel
theorem dX5_init_41 : decode cX5_init 41 = .ok (.new 29, 3) := by decide +kernel
theorem dX5_init_44 : decode cX5_init 44 = .ok (.dup, 1) := by decide +kernel
theorem dX5_init_45 : decode cX5_init 45 = .ok (.invokespecial 31, 3) := by decide +kernel
theorem dX5_init_48 : decode cX5_init 48 = .ok (.putfield 32, 3) := by decide +kernel
theorem dX5_init_51 : decode cX5_init 51 = .ok (.return_, 1) := by decide +kernel
theorem dX5_readFrom_0 : decode cX5_readFrom 0 = .ok (.aload_n 1, 1) := by decide +kernel
theorem dX5_readFrom_1 : decode cX5_readFrom 1 = .ok (.invokevirtual 36, 3) := by decide +kernel
theorem dX5_readFrom_4 : decode cX5_readFrom 4 = .ok (.aload_n 0, 1) := by decide +kernel
theorem dX5_readFrom_5 : decode cX5_readFrom 5 = .ok (.iconst 0, 1) := by decide +kernel
theorem dX5_readFrom_6 : decode cX5_readFrom 6 = .ok (.putfield 41, 3) := by decide +kernel
theorem dX5_readFrom_9 : decode cX5_readFrom 9 = .ok (.iconst 0, 1) := by decide +kernel
theorem dX5_readFrom_10 : decode cX5_readFrom 10 = .ok (.istore_n 3, 1) := by decide +kernel
theorem dX5_readFrom_11 : decode cX5_readFrom 11 = .ok (.iload_n 3, 1) := by decide +kernel
theorem dX5_readFrom_12 : decode cX5_readFrom 12 = .ok (.iconst 4, 1) := by decide +kernel
theorem dX5_readFrom_13 : decode cX5_readFrom 13 = .ok (.if_icmp .ge 50, 3) := by decide +kernel
theorem dX5_readFrom_16 : decode cX5_readFrom 16 = .ok (.aload_n 0, 1) := by decide +kernel
theorem dX5_readFrom_17 : decode cX5_readFrom 17 = .ok (.aload_n 1, 1) := by decide +kernel
theorem dX5_readFrom_18 : decode cX5_readFrom 18 = .ok (.aload_n 2, 1) := by decide +kernel
theorem dX5_readFrom_19 : decode cX5_readFrom 19 = .ok (.iload_n 3, 1) := by decide +kernel
theorem dX5_readFrom_20 : decode cX5_readFrom 20 = .ok (.invokevirtual 45, 3) := by decide +kernel
theorem dX5_readFrom_23 : decode cX5_readFrom 23 = .ok (.ifCond .ne 5, 3) := by decide +kernel
theorem dX5_readFrom_26 : decode cX5_readFrom 26 = .ok (.iconst 0, 1) := by decide +kernel
theorem dX5_readFrom_27 : decode cX5_readFrom 27 = .ok (.ireturn, 1) := by decide +kernel
theorem dX5_readFrom_28 : decode cX5_readFrom 28 = .ok (.aload_n 0, 1) := by decide +kernel
theorem dX5_readFrom_29 : decode cX5_readFrom 29 = .ok (.iload_n 3, 1) := by decide +kernel
theorem dX5_readFrom_30 : decode cX5_readFrom 30 = .ok (.iconst 1, 1) := by decide +kernel
theorem dX5_readFrom_31 : decode cX5_readFrom 31 = .ok (.iadd, 1) := by decide +kernel
theorem dX5_readFrom_32 : decode cX5_readFrom 32 = .ok (.putfield 41, 3) := by decide +kernel
theorem dX5_readFrom_35 : decode cX5_readFrom 35 = .ok (.aload_n 1, 1) := by decide +kernel
theorem dX5_readFrom_36 : decode cX5_readFrom 36 = .ok (.invokevirtual 49, 3) := by decide +kernel
theorem dX5_readFrom_39 : decode cX5_readFrom 39 = .ok (.ifCond .eq 5, 3) := by decide +kernel
theorem dX5_readFrom_42 : decode cX5_readFrom 42 = .ok (.iconst 1, 1) := by decide +kernel
theorem dX5_readFrom_43 : decode cX5_readFrom 43 = .ok (.ireturn, 1) := by decide +kernel
theorem dX5_readFrom_44 : decode cX5_readFrom 44 = .ok (.aload_n 0, 1) := by decide +kernel
theorem dX5_readFrom_45 : decode cX5_readFrom 45 = .ok (.aload_n 1, 1) := by decide +kernel
theorem dX5_readFrom_46 : decode cX5_readFrom 46 = .ok (.iload_n 3, 1) := by decide +kernel
theorem dX5_readFrom_47 : decode cX5_readFrom 47 = .ok (.iconst 1, 1) := by decide +kernel
theorem dX5_readFrom_48 : decode cX5_readFrom 48 = .ok (.iadd, 1) := by decide +kernel
theorem dX5_readFrom_49 : decode cX5_readFrom 49 = .ok (.invokevirtual 53, 3) := by decide +kernel
theorem dX5_readFrom_52 : decode cX5_readFrom 52 = .ok (.ifCond .ne 5, 3) := by decide +kernel
theorem dX5_readFrom_55 : decode cX5_readFrom 55 = .ok (.iconst 0, 1) := by decide +kernel
theorem dX5_readFrom_56 : decode cX5_readFrom 56 = .ok (.ireturn, 1) := by decide +kernel
theorem dX5_readFrom_57 : decode cX5_readFrom 57 = .ok (.iinc 3 1, 3) := by decide +kernel
theorem dX5_readFrom_60 : decode cX5_readFrom 60 = .ok (.goto (-49), 3) := by decide +kernel
theorem dX5_readFrom_63 : decode cX5_readFrom 63 = .ok (.iconst 0, 1) := by decide +kernel
theorem dX5_readFrom_64 : decode cX5_readFrom 64 = .ok (.ireturn, 1) := by decide +kernel
theorem dX5_readPart_0 : decode cX5_readPart 0 = .ok (.aload_n 1, 1) := by decide +kernel
theorem dX5_readPart_1 : decode cX5_readPart 1 = .ok (.aload_n 2, 1) := by decide +kernel
theorem dX5_readPart_2 : decode cX5_readPart 2 = .ok (.getfield 57, 3) := by decide +kernel
theorem dX5_readPart_5 : decode cX5_readPart 5 = .ok (.invokevirtual 61, 3) := by decide +kernel
theorem dX5_readPart_8 : decode cX5_readPart 8 = .ok (.istore 4, 2) := by decide +kernel
theorem dX5_readPart_10 : decode cX5_readPart 10 = .ok (.iload 4, 2) := by decide +kernel
theorem dX5_readPart_12 : decode cX5_readPart 12 = .ok (.ifCond .lt 12, 3) := by decide +kernel
theorem dX5_readPart_15 : decode cX5_readPart 15 = .ok (.aload_n 1, 1) := by decide +kernel
theorem dX5_readPart_16 : decode cX5_readPart 16 = .ok (.bipush 61, 2) := by decide +kernel
theorem dX5_readPart_18 : decode cX5_readPart 18 = .ok (.invokevirtual 65, 3) := by decide +kernel
theorem dX5_readPart_21 : decode cX5_readPart 21 = .ok (.ifCond .ne 5, 3) := by decide +kernel
theorem dX5_readPart_24 : decode cX5_readPart 24 = .ok (.iconst 0, 1) := by decide +kernel
theorem dX5_readPart_25 : decode cX5_readPart 25 = .ok (.ireturn, 1) := by decide +kernel
theorem dX5_readPart_26 : decode cX5_readPart 26 = .ok (.aload_n 1, 1) := by decide +kernel
theorem dX5_readPart_27 : decode cX5_readPart 27 = .ok (.bipush 42, 2) := by decide +kernel
theorem dX5_readPart_29 : decode cX5_readPart 29 = .ok (.invokevirtual 65, 3) := by decide +kernel
theorem dX5_readPart_32 : decode cX5_readPart 32 = .ok (.istore 5, 2) := by decide +kernel
theorem dX5_readPart_34 : decode cX5_readPart 34 = .ok (.iload 5, 2) := by decide +kernel
theorem dX5_readPart_36 : decode cX5_readPart 36 = .ok (.ifCond .eq 7, 3) := by decide +kernel
theorem dX5_readPart_39 : decode cX5_readPart 39 = .ok (.lconst 0, 1) := by decide +kernel
theorem dX5_readPart_40 : decode cX5_readPart 40 = .ok (.goto 13, 3) := by decide +kernel
theorem dX5_readPart_43 : decode cX5_readPart 43 = .ok (.aload_n 1, 1) := by decide +kernel
theorem dX5_readPart_44 : decode cX5_readPart 44 = .ok (.aload_n 2, 1) := by decide +kernel
theorem dX5_readPart_45 : decode cX5_readPart 45 = .ok (.iload 4, 2) := by decide +kernel
theorem dX5_readPart_47 : decode cX5_readPart 47 = .ok (.invokevirtual 69, 3) := by decide +kernel
theorem dX5_readPart_50 : decode cX5_readPart 50 = .ok (.invokevirtual 72, 3) := by decide +kernel
theorem dX5_readPart_53 : decode cX5_readPart 53 = .ok (.lstore 6, 2) := by decide +kernel
theorem dX5_readPart_55 : decode cX5_readPart 55 = .ok (.iload_n 3, 1) := by decide +kernel
theorem dX5_readPart_56 : decode cX5_readPart 56 = .ok (.ifCond .lt 36, 3) := by decide +kernel
theorem dX5_readPart_59 : decode cX5_readPart 59 = .ok (.iload_n 3, 1) := by decide +kernel
theorem dX5_readPart_60 : decode cX5_readPart 60 = .ok (.iconst 4, 1) := by decide +kernel
theorem dX5_readPart_61 : decode cX5_readPart 61 = .ok (.if_icmp .ge 31, 3) := by decide +kernel
theorem dX5_readPart_64 : decode cX5_readPart 64 = .ok (.aload_n 0, 1) := by decide +kernel
theorem dX5_readPart_65 : decode cX5_readPart 65 = .ok (.getfield 9, 3) := by decide +kernel
theorem dX5_readPart_68 : decode cX5_readPart 68 = .ok (.iload_n 3, 1) := by decide +kernel
theorem dX5_readPart_69 : decode cX5_readPart 69 = .ok (.iload 4, 2) := by decide +kernel
theorem dX5_readPart_71 : decode cX5_readPart 71 = .ok (.iastore, 1) := by decide +kernel
theorem dX5_readPart_72 : decode cX5_readPart 72 = .ok (.aload_n 0, 1) := by decide +kernel
theorem dX5_readPart_73 : decode cX5_readPart 73 = .ok (.getfield 15, 3) := by decide +kernel
theorem dX5_readPart_76 : decode cX5_readPart 76 = .ok (.iload_n 3, 1) := by decide +kernel
theorem dX5_readPart_77 : decode cX5_readPart 77 = .ok (.aload_n 2, 1) := by decide +kernel
theorem dX5_readPart_78 : decode cX5_readPart 78 = .ok (.iload 4, 2) := by decide +kernel
theorem dX5_readPart_80 : decode cX5_readPart 80 = .ok (.invokevirtual 69, 3) := by decide +kernel
theorem dX5_readPart_83 : decode cX5_readPart 83 = .ok (.iastore, 1) := by decide +kernel
theorem dX5_readPart_84 : decode cX5_readPart 84 = .ok (.aload_n 0, 1) := by decide +kernel
theorem dX5_readPart_85 : decode cX5_readPart 85 = .ok (.getfield 18, 3) := by decide +kernel
theorem dX5_readPart_88 : decode cX5_readPart 88 = .ok (.iload_n 3, 1) := by decide +kernel
theorem dX5_readPart_89 : decode cX5_readPart 89 = .ok (.lload 6, 2) := by decide +kernel
theorem dX5_readPart_91 : decode cX5_readPart 91 = .ok (.lastore, 1) := by decide +kernel
theorem dX5_readPart_92 : decode cX5_readPart 92 = .ok (.iload 5, 2) := by decide +kernel
theorem dX5_readPart_94 : decode cX5_readPart 94 = .ok (.ifCond .ne 10, 3) := by decide +kernel
theorem dX5_readPart_97 : decode cX5_readPart 97 = .ok (.lload 6, 2) := by decide +kernel
theorem dX5_readPart_99 : decode cX5_readPart 99 = .ok (.lconst 0, 1) := by decide +kernel
theorem dX5_readPart_100 : decode cX5_readPart 100 = .ok (.lcmp, 1) := by decide +kernel
theorem dX5_readPart_101 : decode cX5_readPart 101 = .ok (.ifCond .eq 7, 3) := by decide +kernel
theorem dX5_readPart_104 : decode cX5_readPart 104 = .ok (.iconst 1, 1) := by decide +kernel
theorem dX5_readPart_105 : decode cX5_readPart 105 = .ok (.goto 4, 3) := by decide +kernel
theorem dX5_readPart_108 : decode cX5_readPart 108 = .ok (.iconst 0, 1) := by decide +kernel
theorem dX5_readPart_109 : decode cX5_readPart 109 = .ok (.ireturn, 1) := by decide +kernel
theorem dX5_readLink_0 : decode cX5_readLink 0 = .ok (.iload_n 2, 1) := by decide +kernel
theorem dX5_readLink_1 : decode cX5_readLink 1 = .ok (.ifCond .lt 8, 3) := by decide +kernel
theorem dX5_readLink_4 : decode cX5_readLink 4 = .ok (.iload_n 2, 1) := by decide +kernel
theorem dX5_readLink_5 : decode cX5_readLink 5 = .ok (.iconst 4, 1) := by decide +kernel
theorem dX5_readLink_6 : decode cX5_readLink 6 = .ok (.if_icmp .lt 5, 3) := by decide +kernel
theorem dX5_readLink_9 : decode cX5_readLink 9 = .ok (.iconst 0, 1) := by decide +kernel
theorem dX5_readLink_10 : decode cX5_readLink 10 = .ok (.ireturn, 1) := by decide +kernel
theorem dX5_readLink_11 : decode cX5_readLink 11 = .ok (.aload_n 0, 1) := by decide +kernel
theorem dX5_readLink_12 : decode cX5_readLink 12 = .ok (.getfield 22, 3) := by decide +kernel
theorem dX5_readLink_15 : decode cX5_readLink 15 = .ok (.iload_n 2, 1) := by decide +kernel
theorem dX5_readLink_16 : decode cX5_readLink 16 = .ok (.aload_n 1, 1) := by decide +kernel
theorem dX5_readLink_17 : decode cX5_readLink 17 = .ok (.bipush 38, 2) := by decide +kernel
theorem dX5_readLink_19 : decode cX5_readLink 19 = .ok (.invokevirtual 65, 3) := by decide +kernel
theorem dX5_readLink_22 : decode cX5_readLink 22 = .ok (.bastore, 1) := by decide +kernel
theorem dX5_readLink_23 : decode cX5_readLink 23 = .ok (.aload_n 0, 1) := by decide +kernel
theorem dX5_readLink_24 : decode cX5_readLink 24 = .ok (.getfield 22, 3) := by decide +kernel
theorem dX5_readLink_27 : decode cX5_readLink 27 = .ok (.iload_n 2, 1) := by decide +kernel
theorem dX5_readLink_28 : decode cX5_readLink 28 = .ok (.baload, 1) := by decide +kernel
theorem dX5_readLink_29 : decode cX5_readLink 29 = .ok (.ifCond .ne 12, 3) := by decide +kernel
theorem dX5_readLink_32 : decode cX5_readLink 32 = .ok (.aload_n 1, 1) := by decide +kernel
theorem dX5_readLink_33 : decode cX5_readLink 33 = .ok (.bipush 44, 2) := by decide +kernel
theorem dX5_readLink_35 : decode cX5_readLink 35 = .ok (.invokevirtual 65, 3) := by decide +kernel
theorem dX5_readLink_38 : decode cX5_readLink 38 = .ok (.ifCond .eq 7, 3) := by decide +kernel
theorem dX5_readLink_41 : decode cX5_readLink 41 = .ok (.iconst 1, 1) := by decide +kernel
theorem dX5_readLink_42 : decode cX5_readLink 42 = .ok (.goto 4, 3) := by decide +kernel
theorem dX5_readLink_45 : decode cX5_readLink 45 = .ok (.iconst 0, 1) := by decide +kernel
theorem dX5_readLink_46 : decode cX5_readLink 46 = .ok (.ireturn, 1) := by decide +kernel
theorem dX5_rowOf_0 : decode cX5_rowOf 0 = .ok (.iload_n 2, 1) := by decide +kernel
theorem dX5_rowOf_1 : decode cX5_rowOf 1 = .ok (.ifCond .lt 8, 3) := by decide +kernel
theorem dX5_rowOf_4 : decode cX5_rowOf 4 = .ok (.iload_n 2, 1) := by decide +kernel
theorem dX5_rowOf_5 : decode cX5_rowOf 5 = .ok (.iconst 4, 1) := by decide +kernel
theorem dX5_rowOf_6 : decode cX5_rowOf 6 = .ok (.if_icmp .lt 8, 3) := by decide +kernel
theorem dX5_rowOf_9 : decode cX5_rowOf 9 = .ok (.aload_n 0, 1) := by decide +kernel
theorem dX5_rowOf_10 : decode cX5_rowOf 10 = .ok (.getfield 32, 3) := by decide +kernel
theorem dX5_rowOf_13 : decode cX5_rowOf 13 = .ok (.areturn, 1) := by decide +kernel
theorem dX5_rowOf_14 : decode cX5_rowOf 14 = .ok (.aload_n 0, 1) := by decide +kernel
theorem dX5_rowOf_15 : decode cX5_rowOf 15 = .ok (.getfield 9, 3) := by decide +kernel
theorem dX5_rowOf_18 : decode cX5_rowOf 18 = .ok (.iload_n 2, 1) := by decide +kernel
theorem dX5_rowOf_19 : decode cX5_rowOf 19 = .ok (.iaload, 1) := by decide +kernel
theorem dX5_rowOf_20 : decode cX5_rowOf 20 = .ok (.istore_n 3, 1) := by decide +kernel
theorem dX5_rowOf_21 : decode cX5_rowOf 21 = .ok (.aload_n 1, 1) := by decide +kernel
theorem dX5_rowOf_22 : decode cX5_rowOf 22 = .ok (.iload_n 3, 1) := by decide +kernel
theorem dX5_rowOf_23 : decode cX5_rowOf 23 = .ok (.invokevirtual 76, 3) := by decide +kernel
theorem dX5_rowOf_26 : decode cX5_rowOf 26 = .ok (.ifCond .eq 25, 3) := by decide +kernel
theorem dX5_rowOf_29 : decode cX5_rowOf 29 = .ok (.aload_n 1, 1) := by decide +kernel
theorem dX5_rowOf_30 : decode cX5_rowOf 30 = .ok (.iload_n 3, 1) := by decide +kernel
theorem dX5_rowOf_31 : decode cX5_rowOf 31 = .ok (.invokevirtual 69, 3) := by decide +kernel
theorem dX5_rowOf_34 : decode cX5_rowOf 34 = .ok (.aload_n 0, 1) := by decide +kernel
theorem dX5_rowOf_35 : decode cX5_rowOf 35 = .ok (.getfield 15, 3) := by decide +kernel
theorem dX5_rowOf_38 : decode cX5_rowOf 38 = .ok (.iload_n 2, 1) := by decide +kernel
theorem dX5_rowOf_39 : decode cX5_rowOf 39 = .ok (.iaload, 1) := by decide +kernel
theorem dX5_rowOf_40 : decode cX5_rowOf 40 = .ok (.if_icmp .ne 11, 3) := by decide +kernel
theorem dX5_rowOf_43 : decode cX5_rowOf 43 = .ok (.aload_n 1, 1) := by decide +kernel
theorem dX5_rowOf_44 : decode cX5_rowOf 44 = .ok (.iload_n 3, 1) := by decide +kernel
theorem dX5_rowOf_45 : decode cX5_rowOf 45 = .ok (.invokevirtual 80, 3) := by decide +kernel
theorem dX5_rowOf_48 : decode cX5_rowOf 48 = .ok (.goto 7, 3) := by decide +kernel
theorem dX5_rowOf_51 : decode cX5_rowOf 51 = .ok (.aload_n 0, 1) := by decide +kernel
theorem dX5_rowOf_52 : decode cX5_rowOf 52 = .ok (.getfield 32, 3) := by decide +kernel
theorem dX5_rowOf_55 : decode cX5_rowOf 55 = .ok (.areturn, 1) := by decide +kernel
theorem dX5_fits_0 : decode cX5_fits 0 = .ok (.iload_n 3, 1) := by decide +kernel
theorem dX5_fits_1 : decode cX5_fits 1 = .ok (.ifCond .lt 8, 3) := by decide +kernel
theorem dX5_fits_4 : decode cX5_fits 4 = .ok (.iload_n 3, 1) := by decide +kernel
theorem dX5_fits_5 : decode cX5_fits 5 = .ok (.iconst 4, 1) := by decide +kernel
theorem dX5_fits_6 : decode cX5_fits 6 = .ok (.if_icmp .lt 5, 3) := by decide +kernel
theorem dX5_fits_9 : decode cX5_fits 9 = .ok (.iconst 0, 1) := by decide +kernel
theorem dX5_fits_10 : decode cX5_fits 10 = .ok (.ireturn, 1) := by decide +kernel
theorem dX5_fits_11 : decode cX5_fits 11 = .ok (.aload_n 0, 1) := by decide +kernel
theorem dX5_fits_12 : decode cX5_fits 12 = .ok (.getfield 15, 3) := by decide +kernel
theorem dX5_fits_15 : decode cX5_fits 15 = .ok (.iload_n 3, 1) := by decide +kernel
theorem dX5_fits_16 : decode cX5_fits 16 = .ok (.iaload, 1) := by decide +kernel
theorem dX5_fits_17 : decode cX5_fits 17 = .ok (.iconst 1, 1) := by decide +kernel
theorem dX5_fits_18 : decode cX5_fits 18 = .ok (.if_icmp .ne 19, 3) := by decide +kernel
theorem dX5_fits_21 : decode cX5_fits 21 = .ok (.aload_n 1, 1) := by decide +kernel
theorem dX5_fits_22 : decode cX5_fits 22 = .ok (.iload_n 2, 1) := by decide +kernel
theorem dX5_fits_23 : decode cX5_fits 23 = .ok (.invokevirtual 84, 3) := by decide +kernel
theorem dX5_fits_26 : decode cX5_fits 26 = .ok (.ldc2_w 87, 3) := by decide +kernel
theorem dX5_fits_29 : decode cX5_fits 29 = .ok (.lcmp, 1) := by decide +kernel
theorem dX5_fits_30 : decode cX5_fits 30 = .ok (.ifCond .ne 7, 3) := by decide +kernel
theorem dX5_fits_33 : decode cX5_fits 33 = .ok (.iconst 1, 1) := by decide +kernel
theorem dX5_fits_34 : decode cX5_fits 34 = .ok (.goto 4, 3) := by decide +kernel
theorem dX5_fits_37 : decode cX5_fits 37 = .ok (.iconst 0, 1) := by decide +kernel
theorem dX5_fits_38 : decode cX5_fits 38 = .ok (.istore 4, 2) := by decide +kernel
theorem dX5_fits_40 : decode cX5_fits 40 = .ok (.aload_n 0, 1) := by decide +kernel
theorem dX5_fits_41 : decode cX5_fits 41 = .ok (.getfield 18, 3) := by decide +kernel
theorem dX5_fits_44 : decode cX5_fits 44 = .ok (.iload_n 3, 1) := by decide +kernel
theorem dX5_fits_45 : decode cX5_fits 45 = .ok (.laload, 1) := by decide +kernel
theorem dX5_fits_46 : decode cX5_fits 46 = .ok (.lconst 0, 1) := by decide +kernel
theorem dX5_fits_47 : decode cX5_fits 47 = .ok (.lcmp, 1) := by decide +kernel
theorem dX5_fits_48 : decode cX5_fits 48 = .ok (.ifCond .eq 23, 3) := by decide +kernel
theorem dX5_fits_51 : decode cX5_fits 51 = .ok (.aload_n 0, 1) := by decide +kernel
theorem dX5_fits_52 : decode cX5_fits 52 = .ok (.getfield 18, 3) := by decide +kernel
theorem dX5_fits_55 : decode cX5_fits 55 = .ok (.iload_n 3, 1) := by decide +kernel
theorem dX5_fits_56 : decode cX5_fits 56 = .ok (.laload, 1) := by decide +kernel
theorem dX5_fits_57 : decode cX5_fits 57 = .ok (.aload_n 1, 1) := by decide +kernel
theorem dX5_fits_58 : decode cX5_fits 58 = .ok (.iload_n 2, 1) := by decide +kernel
theorem dX5_fits_59 : decode cX5_fits 59 = .ok (.invokevirtual 84, 3) := by decide +kernel
theorem dX5_fits_62 : decode cX5_fits 62 = .ok (.lcmp, 1) := by decide +kernel
theorem dX5_fits_63 : decode cX5_fits 63 = .ok (.ifCond .eq 8, 3) := by decide +kernel
theorem dX5_fits_66 : decode cX5_fits 66 = .ok (.iload 4, 2) := by decide +kernel
theorem dX5_fits_68 : decode cX5_fits 68 = .ok (.ifCond .eq 7, 3) := by decide +kernel
theorem dX5_fits_71 : decode cX5_fits 71 = .ok (.iconst 1, 1) := by decide +kernel
theorem dX5_fits_72 : decode cX5_fits 72 = .ok (.goto 4, 3) := by decide +kernel
theorem dX5_fits_75 : decode cX5_fits 75 = .ok (.iconst 0, 1) := by decide +kernel
theorem dX5_fits_76 : decode cX5_fits 76 = .ok (.ireturn, 1) := by decide +kernel
theorem dX5_isLinked_0 : decode cX5_isLinked 0 = .ok (.iload 5, 2) := by decide +kernel
theorem dX5_isLinked_2 : decode cX5_isLinked 2 = .ok (.ifCond .lt 53, 3) := by decide +kernel
theorem dX5_isLinked_5 : decode cX5_isLinked 5 = .ok (.iload 5, 2) := by decide +kernel
theorem dX5_isLinked_7 : decode cX5_isLinked 7 = .ok (.iconst 4, 1) := by decide +kernel
theorem dX5_isLinked_8 : decode cX5_isLinked 8 = .ok (.if_icmp .ge 47, 3) := by decide +kernel
theorem dX5_isLinked_11 : decode cX5_isLinked 11 = .ok (.aload_n 0, 1) := by decide +kernel
theorem dX5_isLinked_12 : decode cX5_isLinked 12 = .ok (.getfield 22, 3) := by decide +kernel
theorem dX5_isLinked_15 : decode cX5_isLinked 15 = .ok (.iload 5, 2) := by decide +kernel
theorem dX5_isLinked_17 : decode cX5_isLinked 17 = .ok (.baload, 1) := by decide +kernel
theorem dX5_isLinked_18 : decode cX5_isLinked 18 = .ok (.ifCond .eq 37, 3) := by decide +kernel
theorem dX5_isLinked_21 : decode cX5_isLinked 21 = .ok (.aload_n 1, 1) := by decide +kernel
theorem dX5_isLinked_22 : decode cX5_isLinked 22 = .ok (.iload_n 2, 1) := by decide +kernel
theorem dX5_isLinked_23 : decode cX5_isLinked 23 = .ok (.invokevirtual 89, 3) := by decide +kernel
theorem dX5_isLinked_26 : decode cX5_isLinked 26 = .ok (.aload_n 3, 1) := by decide +kernel
theorem dX5_isLinked_27 : decode cX5_isLinked 27 = .ok (.iload 4, 2) := by decide +kernel
theorem dX5_isLinked_29 : decode cX5_isLinked 29 = .ok (.invokevirtual 92, 3) := by decide +kernel
theorem dX5_isLinked_32 : decode cX5_isLinked 32 = .ok (.if_icmp .ge 21, 3) := by decide +kernel
theorem dX5_isLinked_35 : decode cX5_isLinked 35 = .ok (.aload_n 3, 1) := by decide +kernel
theorem dX5_isLinked_36 : decode cX5_isLinked 36 = .ok (.iload 4, 2) := by decide +kernel
theorem dX5_isLinked_38 : decode cX5_isLinked 38 = .ok (.invokevirtual 89, 3) := by decide +kernel
theorem dX5_isLinked_41 : decode cX5_isLinked 41 = .ok (.aload_n 1, 1) := by decide +kernel
theorem dX5_isLinked_42 : decode cX5_isLinked 42 = .ok (.iload_n 2, 1) := by decide +kernel
theorem dX5_isLinked_43 : decode cX5_isLinked 43 = .ok (.invokevirtual 92, 3) := by decide +kernel
theorem dX5_isLinked_46 : decode cX5_isLinked 46 = .ok (.if_icmp .ge 7, 3) := by decide +kernel
theorem dX5_isLinked_49 : decode cX5_isLinked 49 = .ok (.iconst 1, 1) := by decide +kernel
theorem dX5_isLinked_50 : decode cX5_isLinked 50 = .ok (.goto 4, 3) := by decide +kernel
theorem dX5_isLinked_53 : decode cX5_isLinked 53 = .ok (.iconst 0, 1) := by decide +kernel
theorem dX5_isLinked_54 : decode cX5_isLinked 54 = .ok (.ireturn, 1) := by decide +kernel
theorem dX5_isLinked_55 : decode cX5_isLinked 55 = .ok (.aload_n 3, 1) := by decide +kernel
theorem dX5_isLinked_56 : decode cX5_isLinked 56 = .ok (.iload 4, 2) := by decide +kernel
theorem dX5_isLinked_58 : decode cX5_isLinked 58 = .ok (.invokevirtual 89, 3) := by decide +kernel
theorem dX5_isLinked_61 : decode cX5_isLinked 61 = .ok (.aload_n 1, 1) := by decide +kernel
theorem dX5_isLinked_62 : decode cX5_isLinked 62 = .ok (.iload_n 2, 1) := by decide +kernel
theorem dX5_isLinked_63 : decode cX5_isLinked 63 = .ok (.invokevirtual 92, 3) := by decide +kernel
theorem dX5_isLinked_66 : decode cX5_isLinked 66 = .ok (.isub, 1) := by decide +kernel
theorem dX5_isLinked_67 : decode cX5_isLinked 67 = .ok (.istore 7, 2) := by decide +kernel
theorem dX5_isLinked_69 : decode cX5_isLinked 69 = .ok (.iload 7, 2) := by decide +kernel
theorem dX5_isLinked_71 : decode cX5_isLinked 71 = .ok (.ifCond .lt 14, 3) := by decide +kernel
theorem dX5_isLinked_74 : decode cX5_isLinked 74 = .ok (.iload 7, 2) := by decide +kernel
theorem dX5_isLinked_76 : decode cX5_isLinked 76 = .ok (.iload 6, 2) := by decide +kernel
theorem dX5_isLinked_78 : decode cX5_isLinked 78 = .ok (.if_icmp .gt 7, 3) := by decide +kernel
theorem dX5_isLinked_81 : decode cX5_isLinked 81 = .ok (.iconst 1, 1) := by decide +kernel
theorem dX5_isLinked_82 : decode cX5_isLinked 82 = .ok (.goto 4, 3) := by decide +kernel
theorem dX5_isLinked_85 : decode cX5_isLinked 85 = .ok (.iconst 0, 1) := by decide +kernel
theorem dX5_isLinked_86 : decode cX5_isLinked 86 = .ok (.ireturn, 1) := by decide +kernel
theorem dX5_waysFrom_0 : decode cX5_waysFrom 0 = .ok (.iload_n 1, 1) := by decide +kernel
theorem dX5_waysFrom_1 : decode cX5_waysFrom 1 = .ok (.bipush 30, 2) := by decide +kernel
theorem dX5_waysFrom_3 : decode cX5_waysFrom 3 = .ok (.imul, 1) := by decide +kernel
theorem dX5_waysFrom_4 : decode cX5_waysFrom 4 = .ok (.iload_n 2, 1) := by decide +kernel
theorem dX5_waysFrom_5 : decode cX5_waysFrom 5 = .ok (.iadd, 1) := by decide +kernel
theorem dX5_waysFrom_6 : decode cX5_waysFrom 6 = .ok (.istore_n 3, 1) := by decide +kernel
theorem dX5_waysFrom_7 : decode cX5_waysFrom 7 = .ok (.iload_n 2, 1) := by decide +kernel
theorem dX5_waysFrom_8 : decode cX5_waysFrom 8 = .ok (.ifCond .lt 31, 3) := by decide +kernel
theorem dX5_waysFrom_11 : decode cX5_waysFrom 11 = .ok (.iload_n 2, 1) := by decide +kernel
theorem dX5_waysFrom_12 : decode cX5_waysFrom 12 = .ok (.bipush 30, 2) := by decide +kernel
theorem dX5_waysFrom_14 : decode cX5_waysFrom 14 = .ok (.if_icmp .ge 25, 3) := by decide +kernel
theorem dX5_waysFrom_17 : decode cX5_waysFrom 17 = .ok (.iload_n 3, 1) := by decide +kernel
theorem dX5_waysFrom_18 : decode cX5_waysFrom 18 = .ok (.ifCond .lt 21, 3) := by decide +kernel
theorem dX5_waysFrom_21 : decode cX5_waysFrom 21 = .ok (.iload_n 3, 1) := by decide +kernel
theorem dX5_waysFrom_22 : decode cX5_waysFrom 22 = .ok (.aload_n 0, 1) := by decide +kernel
theorem dX5_waysFrom_23 : decode cX5_waysFrom 23 = .ok (.getfield 26, 3) := by decide +kernel
theorem dX5_waysFrom_26 : decode cX5_waysFrom 26 = .ok (.arraylength, 1) := by decide +kernel
theorem dX5_waysFrom_27 : decode cX5_waysFrom 27 = .ok (.if_icmp .ge 12, 3) := by decide +kernel
theorem dX5_waysFrom_30 : decode cX5_waysFrom 30 = .ok (.aload_n 0, 1) := by decide +kernel
theorem dX5_waysFrom_31 : decode cX5_waysFrom 31 = .ok (.getfield 26, 3) := by decide +kernel
theorem dX5_waysFrom_34 : decode cX5_waysFrom 34 = .ok (.iload_n 3, 1) := by decide +kernel
theorem dX5_waysFrom_35 : decode cX5_waysFrom 35 = .ok (.iaload, 1) := by decide +kernel
theorem dX5_waysFrom_36 : decode cX5_waysFrom 36 = .ok (.goto 4, 3) := by decide +kernel
theorem dX5_waysFrom_39 : decode cX5_waysFrom 39 = .ok (.iconst 0, 1) := by decide +kernel
theorem dX5_waysFrom_40 : decode cX5_waysFrom 40 = .ok (.ireturn, 1) := by decide +kernel
theorem dX5_countMatches_0 : decode cX5_countMatches 0 = .ok (.iconst 0, 1) := by decide +kernel
theorem dX5_countMatches_1 : decode cX5_countMatches 1 = .ok (.istore_n 2, 1) := by decide +kernel
theorem dX5_countMatches_2 : decode cX5_countMatches 2 = .ok (.aload_n 0, 1) := by decide +kernel
theorem dX5_countMatches_3 : decode cX5_countMatches 3 = .ok (.getfield 41, 3) := by decide +kernel
theorem dX5_countMatches_6 : decode cX5_countMatches 6 = .ok (.iconst 1, 1) := by decide +kernel
theorem dX5_countMatches_7 : decode cX5_countMatches 7 = .ok (.isub, 1) := by decide +kernel
theorem dX5_countMatches_8 : decode cX5_countMatches 8 = .ok (.istore_n 3, 1) := by decide +kernel
theorem dX5_countMatches_9 : decode cX5_countMatches 9 = .ok (.iload_n 3, 1) := by decide +kernel
theorem dX5_countMatches_10 : decode cX5_countMatches 10 = .ok (.ifCond .lt 111, 3) := by decide +kernel
theorem dX5_countMatches_13 : decode cX5_countMatches 13 = .ok (.aload_n 0, 1) := by decide +kernel
theorem dX5_countMatches_14 : decode cX5_countMatches 14 = .ok (.aload_n 1, 1) := by decide +kernel
theorem dX5_countMatches_15 : decode cX5_countMatches 15 = .ok (.iload_n 3, 1) := by decide +kernel
theorem dX5_countMatches_16 : decode cX5_countMatches 16 = .ok (.invokevirtual 95, 3) := by decide +kernel
theorem dX5_countMatches_19 : decode cX5_countMatches 19 = .ok (.astore 4, 2) := by decide +kernel
theorem dX5_countMatches_21 : decode cX5_countMatches 21 = .ok (.iconst 0, 1) := by decide +kernel
theorem dX5_countMatches_22 : decode cX5_countMatches 22 = .ok (.istore_n 2, 1) := by decide +kernel
theorem dX5_countMatches_23 : decode cX5_countMatches 23 = .ok (.iconst 0, 1) := by decide +kernel
theorem dX5_countMatches_24 : decode cX5_countMatches 24 = .ok (.istore 5, 2) := by decide +kernel
theorem dX5_countMatches_26 : decode cX5_countMatches 26 = .ok (.iload 5, 2) := by decide +kernel
theorem dX5_countMatches_28 : decode cX5_countMatches 28 = .ok (.aload 4, 2) := by decide +kernel
theorem dX5_countMatches_30 : decode cX5_countMatches 30 = .ok (.getfield 99, 3) := by decide +kernel
theorem dX5_countMatches_33 : decode cX5_countMatches 33 = .ok (.if_icmp .ge 82, 3) := by decide +kernel
theorem dX5_countMatches_36 : decode cX5_countMatches 36 = .ok (.iload 5, 2) := by decide +kernel
theorem dX5_countMatches_38 : decode cX5_countMatches 38 = .ok (.bipush 30, 2) := by decide +kernel
theorem dX5_countMatches_40 : decode cX5_countMatches 40 = .ok (.if_icmp .ge 75, 3) := by decide +kernel
theorem dX5_countMatches_43 : decode cX5_countMatches 43 = .ok (.aload_n 0, 1) := by decide +kernel
theorem dX5_countMatches_44 : decode cX5_countMatches 44 = .ok (.aload 4, 2) := by decide +kernel
theorem dX5_countMatches_46 : decode cX5_countMatches 46 = .ok (.iload 5, 2) := by decide +kernel
theorem dX5_countMatches_48 : decode cX5_countMatches 48 = .ok (.iload_n 3, 1) := by decide +kernel
theorem dX5_countMatches_49 : decode cX5_countMatches 49 = .ok (.invokevirtual 102, 3) := by decide +kernel
theorem dX5_countMatches_52 : decode cX5_countMatches 52 = .ok (.ifCond .eq 16, 3) := by decide +kernel
theorem dX5_countMatches_55 : decode cX5_countMatches 55 = .ok (.aload_n 0, 1) := by decide +kernel
theorem dX5_countMatches_56 : decode cX5_countMatches 56 = .ok (.aload_n 1, 1) := by decide +kernel
theorem dX5_countMatches_57 : decode cX5_countMatches 57 = .ok (.iload_n 3, 1) := by decide +kernel
theorem dX5_countMatches_58 : decode cX5_countMatches 58 = .ok (.aload 4, 2) := by decide +kernel
theorem dX5_countMatches_60 : decode cX5_countMatches 60 = .ok (.iload 5, 2) := by decide +kernel
theorem dX5_countMatches_62 : decode cX5_countMatches 62 = .ok (.invokevirtual 106, 3) := by decide +kernel
theorem dX5_countMatches_65 : decode cX5_countMatches 65 = .ok (.goto 4, 3) := by decide +kernel
theorem dX5_countMatches_68 : decode cX5_countMatches 68 = .ok (.iconst 0, 1) := by decide +kernel
theorem dX5_countMatches_69 : decode cX5_countMatches 69 = .ok (.istore 6, 2) := by decide +kernel
theorem dX5_countMatches_71 : decode cX5_countMatches 71 = .ok (.iload_n 3, 1) := by decide +kernel
theorem dX5_countMatches_72 : decode cX5_countMatches 72 = .ok (.bipush 30, 2) := by decide +kernel
theorem dX5_countMatches_74 : decode cX5_countMatches 74 = .ok (.imul, 1) := by decide +kernel
theorem dX5_countMatches_75 : decode cX5_countMatches 75 = .ok (.iload 5, 2) := by decide +kernel
theorem dX5_countMatches_77 : decode cX5_countMatches 77 = .ok (.iadd, 1) := by decide +kernel
theorem dX5_countMatches_78 : decode cX5_countMatches 78 = .ok (.istore 7, 2) := by decide +kernel
theorem dX5_countMatches_80 : decode cX5_countMatches 80 = .ok (.iload 7, 2) := by decide +kernel
theorem dX5_countMatches_82 : decode cX5_countMatches 82 = .ok (.ifCond .lt 22, 3) := by decide +kernel
theorem dX5_countMatches_85 : decode cX5_countMatches 85 = .ok (.iload 7, 2) := by decide +kernel
theorem dX5_countMatches_87 : decode cX5_countMatches 87 = .ok (.aload_n 0, 1) := by decide +kernel
theorem dX5_countMatches_88 : decode cX5_countMatches 88 = .ok (.getfield 26, 3) := by decide +kernel
theorem dX5_countMatches_91 : decode cX5_countMatches 91 = .ok (.arraylength, 1) := by decide +kernel
theorem dX5_countMatches_92 : decode cX5_countMatches 92 = .ok (.if_icmp .ge 12, 3) := by decide +kernel
theorem dX5_countMatches_95 : decode cX5_countMatches 95 = .ok (.aload_n 0, 1) := by decide +kernel
theorem dX5_countMatches_96 : decode cX5_countMatches 96 = .ok (.getfield 26, 3) := by decide +kernel
theorem dX5_countMatches_99 : decode cX5_countMatches 99 = .ok (.iload 7, 2) := by decide +kernel
theorem dX5_countMatches_101 : decode cX5_countMatches 101 = .ok (.iload 6, 2) := by decide +kernel
theorem dX5_countMatches_103 : decode cX5_countMatches 103 = .ok (.iastore, 1) := by decide +kernel
theorem dX5_countMatches_104 : decode cX5_countMatches 104 = .ok (.iload_n 2, 1) := by decide +kernel
theorem dX5_countMatches_105 : decode cX5_countMatches 105 = .ok (.iload 6, 2) := by decide +kernel
theorem dX5_countMatches_107 : decode cX5_countMatches 107 = .ok (.iadd, 1) := by decide +kernel
theorem dX5_countMatches_108 : decode cX5_countMatches 108 = .ok (.istore_n 2, 1) := by decide +kernel
theorem dX5_countMatches_109 : decode cX5_countMatches 109 = .ok (.iinc 5 1, 3) := by decide +kernel
theorem dX5_countMatches_112 : decode cX5_countMatches 112 = .ok (.goto (-86), 3) := by decide +kernel
theorem dX5_countMatches_115 : decode cX5_countMatches 115 = .ok (.iinc 3 (-1), 3) := by decide +kernel
theorem dX5_countMatches_118 : decode cX5_countMatches 118 = .ok (.goto (-109), 3) := by decide +kernel
theorem dX5_countMatches_121 : decode cX5_countMatches 121 = .ok (.iload_n 2, 1) := by decide +kernel
theorem dX5_countMatches_122 : decode cX5_countMatches 122 = .ok (.sipush 1000, 3) := by decide +kernel
theorem dX5_countMatches_125 : decode cX5_countMatches 125 = .ok (.invokestatic 110, 3) := by decide +kernel
theorem dX5_countMatches_128 : decode cX5_countMatches 128 = .ok (.ireturn, 1) := by decide +kernel
theorem dX5_countOn_0 : decode cX5_countOn 0 = .ok (.iload_n 2, 1) := by decide +kernel
theorem dX5_countOn_1 : decode cX5_countOn 1 = .ok (.aload_n 0, 1) := by decide +kernel
theorem dX5_countOn_2 : decode cX5_countOn 2 = .ok (.getfield 41, 3) := by decide +kernel
theorem dX5_countOn_5 : decode cX5_countOn 5 = .ok (.iconst 1, 1) := by decide +kernel
theorem dX5_countOn_6 : decode cX5_countOn 6 = .ok (.isub, 1) := by decide +kernel
theorem dX5_countOn_7 : decode cX5_countOn 7 = .ok (.if_icmp .ne 5, 3) := by decide +kernel
theorem dX5_countOn_10 : decode cX5_countOn 10 = .ok (.iconst 1, 1) := by decide +kernel
theorem dX5_countOn_11 : decode cX5_countOn 11 = .ok (.ireturn, 1) := by decide +kernel
theorem dX5_countOn_12 : decode cX5_countOn 12 = .ok (.aload_n 0, 1) := by decide +kernel
theorem dX5_countOn_13 : decode cX5_countOn 13 = .ok (.aload_n 1, 1) := by decide +kernel
theorem dX5_countOn_14 : decode cX5_countOn 14 = .ok (.iload_n 2, 1) := by decide +kernel
theorem dX5_countOn_15 : decode cX5_countOn 15 = .ok (.iconst 1, 1) := by decide +kernel
theorem dX5_countOn_16 : decode cX5_countOn 16 = .ok (.iadd, 1) := by decide +kernel
theorem dX5_countOn_17 : decode cX5_countOn 17 = .ok (.invokevirtual 95, 3) := by decide +kernel
theorem dX5_countOn_20 : decode cX5_countOn 20 = .ok (.astore 5, 2) := by decide +kernel
theorem dX5_countOn_22 : decode cX5_countOn 22 = .ok (.iconst 0, 1) := by decide +kernel
theorem dX5_countOn_23 : decode cX5_countOn 23 = .ok (.istore 6, 2) := by decide +kernel
theorem dX5_countOn_25 : decode cX5_countOn 25 = .ok (.iconst 0, 1) := by decide +kernel
theorem dX5_countOn_26 : decode cX5_countOn 26 = .ok (.istore 7, 2) := by decide +kernel
theorem dX5_countOn_28 : decode cX5_countOn 28 = .ok (.iload 7, 2) := by decide +kernel
theorem dX5_countOn_30 : decode cX5_countOn 30 = .ok (.aload 5, 2) := by decide +kernel
theorem dX5_countOn_32 : decode cX5_countOn 32 = .ok (.getfield 99, 3) := by decide +kernel
theorem dX5_countOn_35 : decode cX5_countOn 35 = .ok (.if_icmp .ge 48, 3) := by decide +kernel
theorem dX5_countOn_38 : decode cX5_countOn 38 = .ok (.iload 6, 2) := by decide +kernel
theorem dX5_countOn_40 : decode cX5_countOn 40 = .ok (.aload_n 0, 1) := by decide +kernel
theorem dX5_countOn_41 : decode cX5_countOn 41 = .ok (.aload_n 3, 1) := by decide +kernel
theorem dX5_countOn_42 : decode cX5_countOn 42 = .ok (.iload 4, 2) := by decide +kernel
theorem dX5_countOn_44 : decode cX5_countOn 44 = .ok (.aload 5, 2) := by decide +kernel
theorem dX5_countOn_46 : decode cX5_countOn 46 = .ok (.iload 7, 2) := by decide +kernel
theorem dX5_countOn_48 : decode cX5_countOn 48 = .ok (.iload_n 2, 1) := by decide +kernel
theorem dX5_countOn_49 : decode cX5_countOn 49 = .ok (.iconst 1, 1) := by decide +kernel
theorem dX5_countOn_50 : decode cX5_countOn 50 = .ok (.iadd, 1) := by decide +kernel
theorem dX5_countOn_51 : decode cX5_countOn 51 = .ok (.aload_n 1, 1) := by decide +kernel
theorem dX5_countOn_52 : decode cX5_countOn 52 = .ok (.getfield 116, 3) := by decide +kernel
theorem dX5_countOn_55 : decode cX5_countOn 55 = .ok (.invokevirtual 119, 3) := by decide +kernel
theorem dX5_countOn_58 : decode cX5_countOn 58 = .ok (.ifCond .eq 15, 3) := by decide +kernel
theorem dX5_countOn_61 : decode cX5_countOn 61 = .ok (.aload_n 0, 1) := by decide +kernel
theorem dX5_countOn_62 : decode cX5_countOn 62 = .ok (.iload_n 2, 1) := by decide +kernel
theorem dX5_countOn_63 : decode cX5_countOn 63 = .ok (.iconst 1, 1) := by decide +kernel
theorem dX5_countOn_64 : decode cX5_countOn 64 = .ok (.iadd, 1) := by decide +kernel
theorem dX5_countOn_65 : decode cX5_countOn 65 = .ok (.iload 7, 2) := by decide +kernel
theorem dX5_countOn_67 : decode cX5_countOn 67 = .ok (.invokevirtual 123, 3) := by decide +kernel
theorem dX5_countOn_70 : decode cX5_countOn 70 = .ok (.goto 4, 3) := by decide +kernel
theorem dX5_countOn_73 : decode cX5_countOn 73 = .ok (.iconst 0, 1) := by decide +kernel
theorem dX5_countOn_74 : decode cX5_countOn 74 = .ok (.iadd, 1) := by decide +kernel
theorem dX5_countOn_75 : decode cX5_countOn 75 = .ok (.istore 6, 2) := by decide +kernel
theorem dX5_countOn_77 : decode cX5_countOn 77 = .ok (.iinc 7 1, 3) := by decide +kernel
theorem dX5_countOn_80 : decode cX5_countOn 80 = .ok (.goto (-52), 3) := by decide +kernel
theorem dX5_countOn_83 : decode cX5_countOn 83 = .ok (.iload 6, 2) := by decide +kernel
theorem dX5_countOn_85 : decode cX5_countOn 85 = .ok (.sipush 1000, 3) := by decide +kernel
theorem dX5_countOn_88 : decode cX5_countOn 88 = .ok (.invokestatic 110, 3) := by decide +kernel
theorem dX5_countOn_91 : decode cX5_countOn 91 = .ok (.ireturn, 1) := by decide +kernel
theorem dX5_spanOf_0 : decode cX5_spanOf 0 = .ok (.iload_n 2, 1) := by decide +kernel
theorem dX5_spanOf_1 : decode cX5_spanOf 1 = .ok (.istore 4, 2) := by decide +kernel
theorem dX5_spanOf_3 : decode cX5_spanOf 3 = .ok (.aload_n 0, 1) := by decide +kernel
theorem dX5_spanOf_4 : decode cX5_spanOf 4 = .ok (.getfield 32, 3) := by decide +kernel
theorem dX5_spanOf_7 : decode cX5_spanOf 7 = .ok (.astore 5, 2) := by decide +kernel
theorem dX5_spanOf_9 : decode cX5_spanOf 9 = .ok (.iconst (-1), 1) := by decide +kernel
theorem dX5_spanOf_10 : decode cX5_spanOf 10 = .ok (.istore 6, 2) := by decide +kernel
theorem dX5_spanOf_12 : decode cX5_spanOf 12 = .ok (.iconst 0, 1) := by decide +kernel
theorem dX5_spanOf_13 : decode cX5_spanOf 13 = .ok (.istore 7, 2) := by decide +kernel
theorem dX5_spanOf_15 : decode cX5_spanOf 15 = .ok (.iload 7, 2) := by decide +kernel
theorem dX5_spanOf_17 : decode cX5_spanOf 17 = .ok (.iload_n 3, 1) := by decide +kernel
theorem dX5_spanOf_18 : decode cX5_spanOf 18 = .ok (.if_icmp .gt 132, 3) := by decide +kernel
theorem dX5_spanOf_21 : decode cX5_spanOf 21 = .ok (.iload 7, 2) := by decide +kernel
theorem dX5_spanOf_23 : decode cX5_spanOf 23 = .ok (.iconst 4, 1) := by decide +kernel
theorem dX5_spanOf_24 : decode cX5_spanOf 24 = .ok (.if_icmp .ge 126, 3) := by decide +kernel
theorem dX5_spanOf_27 : decode cX5_spanOf 27 = .ok (.aload_n 0, 1) := by decide +kernel
theorem dX5_spanOf_28 : decode cX5_spanOf 28 = .ok (.aload_n 1, 1) := by decide +kernel
theorem dX5_spanOf_29 : decode cX5_spanOf 29 = .ok (.iload 7, 2) := by decide +kernel
theorem dX5_spanOf_31 : decode cX5_spanOf 31 = .ok (.invokevirtual 95, 3) := by decide +kernel
theorem dX5_spanOf_34 : decode cX5_spanOf 34 = .ok (.astore 8, 2) := by decide +kernel
theorem dX5_spanOf_36 : decode cX5_spanOf 36 = .ok (.iconst (-1), 1) := by decide +kernel
theorem dX5_spanOf_37 : decode cX5_spanOf 37 = .ok (.istore 9, 2) := by decide +kernel
theorem dX5_spanOf_39 : decode cX5_spanOf 39 = .ok (.iconst 0, 1) := by decide +kernel
theorem dX5_spanOf_40 : decode cX5_spanOf 40 = .ok (.istore 10, 2) := by decide +kernel
theorem dX5_spanOf_42 : decode cX5_spanOf 42 = .ok (.iload 10, 2) := by decide +kernel
theorem dX5_spanOf_44 : decode cX5_spanOf 44 = .ok (.aload 8, 2) := by decide +kernel
theorem dX5_spanOf_46 : decode cX5_spanOf 46 = .ok (.getfield 99, 3) := by decide +kernel
theorem dX5_spanOf_49 : decode cX5_spanOf 49 = .ok (.if_icmp .ge 87, 3) := by decide +kernel
theorem dX5_spanOf_52 : decode cX5_spanOf 52 = .ok (.iload 9, 2) := by decide +kernel
theorem dX5_spanOf_54 : decode cX5_spanOf 54 = .ok (.ifCond .ge 82, 3) := by decide +kernel
theorem dX5_spanOf_57 : decode cX5_spanOf 57 = .ok (.iload 7, 2) := by decide +kernel
theorem dX5_spanOf_59 : decode cX5_spanOf 59 = .ok (.ifCond .eq 24, 3) := by decide +kernel
theorem dX5_spanOf_62 : decode cX5_spanOf 62 = .ok (.aload_n 0, 1) := by decide +kernel
theorem dX5_spanOf_63 : decode cX5_spanOf 63 = .ok (.aload 5, 2) := by decide +kernel
theorem dX5_spanOf_65 : decode cX5_spanOf 65 = .ok (.iload 6, 2) := by decide +kernel
theorem dX5_spanOf_67 : decode cX5_spanOf 67 = .ok (.aload 8, 2) := by decide +kernel
theorem dX5_spanOf_69 : decode cX5_spanOf 69 = .ok (.iload 10, 2) := by decide +kernel
theorem dX5_spanOf_71 : decode cX5_spanOf 71 = .ok (.iload 7, 2) := by decide +kernel
theorem dX5_spanOf_73 : decode cX5_spanOf 73 = .ok (.aload_n 1, 1) := by decide +kernel
theorem dX5_spanOf_74 : decode cX5_spanOf 74 = .ok (.getfield 116, 3) := by decide +kernel
theorem dX5_spanOf_77 : decode cX5_spanOf 77 = .ok (.invokevirtual 119, 3) := by decide +kernel
theorem dX5_spanOf_80 : decode cX5_spanOf 80 = .ok (.ifCond .eq 7, 3) := by decide +kernel
theorem dX5_spanOf_83 : decode cX5_spanOf 83 = .ok (.iconst 1, 1) := by decide +kernel
theorem dX5_spanOf_84 : decode cX5_spanOf 84 = .ok (.goto 4, 3) := by decide +kernel
theorem dX5_spanOf_87 : decode cX5_spanOf 87 = .ok (.iconst 0, 1) := by decide +kernel
theorem dX5_spanOf_88 : decode cX5_spanOf 88 = .ok (.istore 11, 2) := by decide +kernel
theorem dX5_spanOf_90 : decode cX5_spanOf 90 = .ok (.iload 11, 2) := by decide +kernel
theorem dX5_spanOf_92 : decode cX5_spanOf 92 = .ok (.ifCond .eq 14, 3) := by decide +kernel
theorem dX5_spanOf_95 : decode cX5_spanOf 95 = .ok (.aload_n 0, 1) := by decide +kernel
theorem dX5_spanOf_96 : decode cX5_spanOf 96 = .ok (.iload 7, 2) := by decide +kernel
theorem dX5_spanOf_98 : decode cX5_spanOf 98 = .ok (.iload 10, 2) := by decide +kernel
theorem dX5_spanOf_100 : decode cX5_spanOf 100 = .ok (.invokevirtual 123, 3) := by decide +kernel
theorem dX5_spanOf_103 : decode cX5_spanOf 103 = .ok (.goto 4, 3) := by decide +kernel
theorem dX5_spanOf_106 : decode cX5_spanOf 106 = .ok (.iconst 0, 1) := by decide +kernel
theorem dX5_spanOf_107 : decode cX5_spanOf 107 = .ok (.istore 12, 2) := by decide +kernel
theorem dX5_spanOf_109 : decode cX5_spanOf 109 = .ok (.iload 4, 2) := by decide +kernel
theorem dX5_spanOf_111 : decode cX5_spanOf 111 = .ok (.iload 12, 2) := by decide +kernel
theorem dX5_spanOf_113 : decode cX5_spanOf 113 = .ok (.if_icmp .ge 10, 3) := by decide +kernel
theorem dX5_spanOf_116 : decode cX5_spanOf 116 = .ok (.iload 10, 2) := by decide +kernel
theorem dX5_spanOf_118 : decode cX5_spanOf 118 = .ok (.istore 9, 2) := by decide +kernel
theorem dX5_spanOf_120 : decode cX5_spanOf 120 = .ok (.goto 10, 3) := by decide +kernel
theorem dX5_spanOf_123 : decode cX5_spanOf 123 = .ok (.iload 4, 2) := by decide +kernel
theorem dX5_spanOf_125 : decode cX5_spanOf 125 = .ok (.iload 12, 2) := by decide +kernel
theorem dX5_spanOf_127 : decode cX5_spanOf 127 = .ok (.isub, 1) := by decide +kernel
theorem dX5_spanOf_128 : decode cX5_spanOf 128 = .ok (.istore 4, 2) := by decide +kernel
theorem dX5_spanOf_130 : decode cX5_spanOf 130 = .ok (.iinc 10 1, 3) := by decide +kernel
theorem dX5_spanOf_133 : decode cX5_spanOf 133 = .ok (.goto (-91), 3) := by decide +kernel
theorem dX5_spanOf_136 : decode cX5_spanOf 136 = .ok (.aload 8, 2) := by decide +kernel
theorem dX5_spanOf_138 : decode cX5_spanOf 138 = .ok (.astore 5, 2) := by decide +kernel
theorem dX5_spanOf_140 : decode cX5_spanOf 140 = .ok (.iload 9, 2) := by decide +kernel
theorem dX5_spanOf_142 : decode cX5_spanOf 142 = .ok (.istore 6, 2) := by decide +kernel
theorem dX5_spanOf_144 : decode cX5_spanOf 144 = .ok (.iinc 7 1, 3) := by decide +kernel
theorem dX5_spanOf_147 : decode cX5_spanOf 147 = .ok (.goto (-132), 3) := by decide +kernel
theorem dX5_spanOf_150 : decode cX5_spanOf 150 = .ok (.iload 6, 2) := by decide +kernel
theorem dX5_spanOf_152 : decode cX5_spanOf 152 = .ok (.ireturn, 1) := by decide +kernel
theorem dX6_init_0 : decode cX6_init 0 = .ok (.aload_n 0, 1) := by decide +kernel
theorem dX6_init_1 : decode cX6_init 1 = .ok (.invokespecial 1, 3) := by decide +kernel
theorem dX6_init_4 : decode cX6_init 4 = .ok (.return_, 1) := by decide +kernel
theorem dX6_refuse_0 : decode cX6_refuse 0 = .ok (.aload_n 0, 1) := by decide +kernel
theorem dX6_refuse_1 : decode cX6_refuse 1 = .ok (.iload_n 1, 1) := by decide +kernel
theorem dX6_refuse_2 : decode cX6_refuse 2 = .ok (.putfield 7, 3) := by decide +kernel
theorem dX6_refuse_5 : decode cX6_refuse 5 = .ok (.aload_n 0, 1) := by decide +kernel
theorem dX6_refuse_6 : decode cX6_refuse 6 = .ok (.iload_n 2, 1) := by decide +kernel
theorem dX6_refuse_7 : decode cX6_refuse 7 = .ok (.putfield 13, 3) := by decide +kernel
theorem dX6_refuse_10 : decode cX6_refuse 10 = .ok (.iconst (-1), 1) := by decide +kernel
theorem dX6_refuse_11 : decode cX6_refuse 11 = .ok (.ireturn, 1) := by decide +kernel
theorem dX7_init_0 : decode cX7_init 0 = .ok (.aload_n 0, 1) := by decide +kernel
theorem dX7_init_1 : decode cX7_init 1 = .ok (.invokespecial 3, 3) := by decide +kernel
theorem dX7_init_4 : decode cX7_init 4 = .ok (.aload_n 0, 1) := by decide +kernel
theorem dX7_init_5 : decode cX7_init 5 = .ok (.bipush 31, 2) := by decide +kernel
theorem dX7_init_7 : decode cX7_init 7 = .ok (.newarray .int, 2) := by decide +kernel
theorem dX7_init_9 : decode cX7_init 9 = .ok (.putfield 9, 3) := by decide +kernel
theorem dX7_init_12 : decode cX7_init 12 = .ok (.aload_n 0, 1) := by decide +kernel
theorem dX7_init_13 : decode cX7_init 13 = .ok (.bipush 31, 2) := by decide +kernel
theorem dX7_init_15 : decode cX7_init 15 = .ok (.newarray .int, 2) := by decide +kernel
theorem dX7_init_17 : decode cX7_init 17 = .ok (.putfield 15, 3) := by decide +kernel
theorem dX7_init_20 : decode cX7_init 20 = .ok (.aload_n 0, 1) := by decide +kernel
theorem dX7_init_21 : decode cX7_init 21 = .ok (.bipush 31, 2) := by decide +kernel
theorem dX7_init_23 : decode cX7_init 23 = .ok (.newarray .long, 2) := by decide +kernel
theorem dX7_init_25 : decode cX7_init 25 = .ok (.putfield 18, 3) := by decide +kernel
theorem dX7_init_28 : decode cX7_init 28 = .ok (.return_, 1) := by decide +kernel
theorem dX7_first_0 : decode cX7_first 0 = .ok (.iload_n 1, 1) := by decide +kernel
theorem dX7_first_1 : decode cX7_first 1 = .ok (.ifCond .lt 18, 3) := by decide +kernel
theorem dX7_first_4 : decode cX7_first 4 = .ok (.iload_n 1, 1) := by decide +kernel
theorem dX7_first_5 : decode cX7_first 5 = .ok (.bipush 31, 2) := by decide +kernel
theorem dX7_first_7 : decode cX7_first 7 = .ok (.if_icmp .ge 12, 3) := by decide +kernel
theorem dX7_first_10 : decode cX7_first 10 = .ok (.aload_n 0, 1) := by decide +kernel
theorem dX7_first_11 : decode cX7_first 11 = .ok (.getfield 9, 3) := by decide +kernel
theorem dX7_first_14 : decode cX7_first 14 = .ok (.iload_n 1, 1) := by decide +kernel
theorem dX7_first_15 : decode cX7_first 15 = .ok (.iaload, 1) := by decide +kernel
theorem dX7_first_16 : decode cX7_first 16 = .ok (.goto 4, 3) := by decide +kernel
theorem dX7_first_19 : decode cX7_first 19 = .ok (.iconst 0, 1) := by decide +kernel
theorem dX7_first_20 : decode cX7_first 20 = .ok (.ireturn, 1) := by decide +kernel
theorem dX7_end_0 : decode cX7_end 0 = .ok (.iload_n 1, 1) := by decide +kernel
theorem dX7_end_1 : decode cX7_end 1 = .ok (.ifCond .lt 18, 3) := by decide +kernel
theorem dX7_end_4 : decode cX7_end 4 = .ok (.iload_n 1, 1) := by decide +kernel
theorem dX7_end_5 : decode cX7_end 5 = .ok (.bipush 31, 2) := by decide +kernel
theorem dX7_end_7 : decode cX7_end 7 = .ok (.if_icmp .ge 12, 3) := by decide +kernel
theorem dX7_end_10 : decode cX7_end 10 = .ok (.aload_n 0, 1) := by decide +kernel
theorem dX7_end_11 : decode cX7_end 11 = .ok (.getfield 15, 3) := by decide +kernel
theorem dX7_end_14 : decode cX7_end 14 = .ok (.iload_n 1, 1) := by decide +kernel
theorem dX7_end_15 : decode cX7_end 15 = .ok (.iaload, 1) := by decide +kernel
theorem dX7_end_16 : decode cX7_end 16 = .ok (.goto 4, 3) := by decide +kernel
theorem dX7_end_19 : decode cX7_end 19 = .ok (.iconst 0, 1) := by decide +kernel
theorem dX7_end_20 : decode cX7_end 20 = .ok (.ireturn, 1) := by decide +kernel
theorem dX7_label_0 : decode cX7_label 0 = .ok (.iload_n 1, 1) := by decide +kernel
theorem dX7_label_1 : decode cX7_label 1 = .ok (.ifCond .lt 18, 3) := by decide +kernel
theorem dX7_label_4 : decode cX7_label 4 = .ok (.iload_n 1, 1) := by decide +kernel
theorem dX7_label_5 : decode cX7_label 5 = .ok (.bipush 31, 2) := by decide +kernel
theorem dX7_label_7 : decode cX7_label 7 = .ok (.if_icmp .ge 12, 3) := by decide +kernel
theorem dX7_label_10 : decode cX7_label 10 = .ok (.aload_n 0, 1) := by decide +kernel
theorem dX7_label_11 : decode cX7_label 11 = .ok (.getfield 18, 3) := by decide +kernel
theorem dX7_label_14 : decode cX7_label 14 = .ok (.iload_n 1, 1) := by decide +kernel
theorem dX7_label_15 : decode cX7_label 15 = .ok (.laload, 1) := by decide +kernel
theorem dX7_label_16 : decode cX7_label 16 = .ok (.goto 4, 3) := by decide +kernel
theorem dX7_label_19 : decode cX7_label 19 = .ok (.lconst 0, 1) := by decide +kernel
theorem dX7_label_20 : decode cX7_label 20 = .ok (.lreturn, 1) := by decide +kernel
theorem dX7_length_0 : decode cX7_length 0 = .ok (.aload_n 0, 1) := by decide +kernel
theorem dX7_length_1 : decode cX7_length 1 = .ok (.iload_n 1, 1) := by decide +kernel
theorem dX7_length_2 : decode cX7_length 2 = .ok (.invokevirtual 22, 3) := by decide +kernel
theorem dX7_length_5 : decode cX7_length 5 = .ok (.aload_n 0, 1) := by decide +kernel
theorem dX7_length_6 : decode cX7_length 6 = .ok (.iload_n 1, 1) := by decide +kernel
theorem dX7_length_7 : decode cX7_length 7 = .ok (.invokevirtual 26, 3) := by decide +kernel
theorem dX7_length_10 : decode cX7_length 10 = .ok (.isub, 1) := by decide +kernel
theorem dX7_length_11 : decode cX7_length 11 = .ok (.ireturn, 1) := by decide +kernel
theorem dX7_setLabel_0 : decode cX7_setLabel 0 = .ok (.iload_n 1, 1) := by decide +kernel
theorem dX7_setLabel_1 : decode cX7_setLabel 1 = .ok (.ifCond .lt 16, 3) := by decide +kernel
theorem dX7_setLabel_4 : decode cX7_setLabel 4 = .ok (.iload_n 1, 1) := by decide +kernel
theorem dX7_setLabel_5 : decode cX7_setLabel 5 = .ok (.bipush 31, 2) := by decide +kernel
theorem dX7_setLabel_7 : decode cX7_setLabel 7 = .ok (.if_icmp .ge 10, 3) := by decide +kernel
theorem dX7_setLabel_10 : decode cX7_setLabel 10 = .ok (.aload_n 0, 1) := by decide +kernel
theorem dX7_setLabel_11 : decode cX7_setLabel 11 = .ok (.getfield 18, 3) := by decide +kernel
theorem dX7_setLabel_14 : decode cX7_setLabel 14 = .ok (.iload_n 1, 1) := by decide +kernel
theorem dX7_setLabel_15 : decode cX7_setLabel 15 = .ok (.lload_n 2, 1) := by decide +kernel
theorem dX7_setLabel_16 : decode cX7_setLabel 16 = .ok (.lastore, 1) := by decide +kernel
theorem dX7_setLabel_17 : decode cX7_setLabel 17 = .ok (.return_, 1) := by decide +kernel
theorem dX7_setFrames_0 : decode cX7_setFrames 0 = .ok (.iload_n 1, 1) := by decide +kernel
theorem dX7_setFrames_1 : decode cX7_setFrames 1 = .ok (.ifCond .lt 23, 3) := by decide +kernel
theorem dX7_setFrames_4 : decode cX7_setFrames 4 = .ok (.iload_n 1, 1) := by decide +kernel
theorem dX7_setFrames_5 : decode cX7_setFrames 5 = .ok (.bipush 31, 2) := by decide +kernel
theorem dX7_setFrames_7 : decode cX7_setFrames 7 = .ok (.if_icmp .ge 17, 3) := by decide +kernel
theorem dX7_setFrames_10 : decode cX7_setFrames 10 = .ok (.aload_n 0, 1) := by decide +kernel
theorem dX7_setFrames_11 : decode cX7_setFrames 11 = .ok (.getfield 9, 3) := by decide +kernel
theorem dX7_setFrames_14 : decode cX7_setFrames 14 = .ok (.iload_n 1, 1) := by decide +kernel
theorem dX7_setFrames_15 : decode cX7_setFrames 15 = .ok (.iload_n 2, 1) := by decide +kernel
theorem dX7_setFrames_16 : decode cX7_setFrames 16 = .ok (.iastore, 1) := by decide +kernel
theorem dX7_setFrames_17 : decode cX7_setFrames 17 = .ok (.aload_n 0, 1) := by decide +kernel
theorem dX7_setFrames_18 : decode cX7_setFrames 18 = .ok (.getfield 15, 3) := by decide +kernel
theorem dX7_setFrames_21 : decode cX7_setFrames 21 = .ok (.iload_n 1, 1) := by decide +kernel
theorem dX7_setFrames_22 : decode cX7_setFrames 22 = .ok (.iload_n 3, 1) := by decide +kernel
theorem dX7_setFrames_23 : decode cX7_setFrames 23 = .ok (.iastore, 1) := by decide +kernel
theorem dX7_setFrames_24 : decode cX7_setFrames 24 = .ok (.return_, 1) := by decide +kernel
theorem dX7_copyFrom_0 : decode cX7_copyFrom 0 = .ok (.aload_n 1, 1) := by decide +kernel
theorem dX7_copyFrom_1 : decode cX7_copyFrom 1 = .ok (.getfield 29, 3) := by decide +kernel
theorem dX7_copyFrom_4 : decode cX7_copyFrom 4 = .ok (.istore_n 2, 1) := by decide +kernel
theorem dX7_copyFrom_5 : decode cX7_copyFrom 5 = .ok (.iload_n 2, 1) := by decide +kernel
theorem dX7_copyFrom_6 : decode cX7_copyFrom 6 = .ok (.ifCond .lt 56, 3) := by decide +kernel
theorem dX7_copyFrom_9 : decode cX7_copyFrom 9 = .ok (.iload_n 2, 1) := by decide +kernel
theorem dX7_copyFrom_10 : decode cX7_copyFrom 10 = .ok (.bipush 31, 2) := by decide +kernel
theorem dX7_copyFrom_12 : decode cX7_copyFrom 12 = .ok (.if_icmp .gt 50, 3) := by decide +kernel
theorem dX7_copyFrom_15 : decode cX7_copyFrom 15 = .ok (.aload_n 1, 1) := by decide +kernel
theorem dX7_copyFrom_16 : decode cX7_copyFrom 16 = .ok (.getfield 9, 3) := by decide +kernel
theorem dX7_copyFrom_19 : decode cX7_copyFrom 19 = .ok (.iconst 0, 1) := by decide +kernel
theorem dX7_copyFrom_20 : decode cX7_copyFrom 20 = .ok (.aload_n 0, 1) := by decide +kernel
theorem dX7_copyFrom_21 : decode cX7_copyFrom 21 = .ok (.getfield 9, 3) := by decide +kernel
theorem dX7_copyFrom_24 : decode cX7_copyFrom 24 = .ok (.iconst 0, 1) := by decide +kernel
theorem dX7_copyFrom_25 : decode cX7_copyFrom 25 = .ok (.iload_n 2, 1) := by decide +kernel
theorem dX7_copyFrom_26 : decode cX7_copyFrom 26 = .ok (.invokestatic 33, 3) := by decide +kernel
theorem dX7_copyFrom_29 : decode cX7_copyFrom 29 = .ok (.aload_n 1, 1) := by decide +kernel
theorem dX7_copyFrom_30 : decode cX7_copyFrom 30 = .ok (.getfield 15, 3) := by decide +kernel
theorem dX7_copyFrom_33 : decode cX7_copyFrom 33 = .ok (.iconst 0, 1) := by decide +kernel
theorem dX7_copyFrom_34 : decode cX7_copyFrom 34 = .ok (.aload_n 0, 1) := by decide +kernel
theorem dX7_copyFrom_35 : decode cX7_copyFrom 35 = .ok (.getfield 15, 3) := by decide +kernel
theorem dX7_copyFrom_38 : decode cX7_copyFrom 38 = .ok (.iconst 0, 1) := by decide +kernel
theorem dX7_copyFrom_39 : decode cX7_copyFrom 39 = .ok (.iload_n 2, 1) := by decide +kernel
theorem dX7_copyFrom_40 : decode cX7_copyFrom 40 = .ok (.invokestatic 33, 3) := by decide +kernel
theorem dX7_copyFrom_43 : decode cX7_copyFrom 43 = .ok (.aload_n 1, 1) := by decide +kernel
theorem dX7_copyFrom_44 : decode cX7_copyFrom 44 = .ok (.getfield 18, 3) := by decide +kernel
theorem dX7_copyFrom_47 : decode cX7_copyFrom 47 = .ok (.iconst 0, 1) := by decide +kernel
theorem dX7_copyFrom_48 : decode cX7_copyFrom 48 = .ok (.aload_n 0, 1) := by decide +kernel
theorem dX7_copyFrom_49 : decode cX7_copyFrom 49 = .ok (.getfield 18, 3) := by decide +kernel
theorem dX7_copyFrom_52 : decode cX7_copyFrom 52 = .ok (.iconst 0, 1) := by decide +kernel
theorem dX7_copyFrom_53 : decode cX7_copyFrom 53 = .ok (.iload_n 2, 1) := by decide +kernel
theorem dX7_copyFrom_54 : decode cX7_copyFrom 54 = .ok (.invokestatic 33, 3) := by decide +kernel
theorem dX7_copyFrom_57 : decode cX7_copyFrom 57 = .ok (.aload_n 0, 1) := by decide +kernel
theorem dX7_copyFrom_58 : decode cX7_copyFrom 58 = .ok (.iload_n 2, 1) := by decide +kernel
theorem dX7_copyFrom_59 : decode cX7_copyFrom 59 = .ok (.putfield 29, 3) := by decide +kernel
theorem dX7_copyFrom_62 : decode cX7_copyFrom 62 = .ok (.return_, 1) := by decide +kernel
theorem dX7_shift_0 : decode cX7_shift 0 = .ok (.aload_n 0, 1) := by decide +kernel
theorem dX7_shift_1 : decode cX7_shift 1 = .ok (.iload_n 2, 1) := by decide +kernel
theorem dX7_shift_2 : decode cX7_shift 2 = .ok (.aload_n 0, 1) := by decide +kernel
theorem dX7_shift_3 : decode cX7_shift 3 = .ok (.iload_n 1, 1) := by decide +kernel
theorem dX7_shift_4 : decode cX7_shift 4 = .ok (.invokevirtual 26, 3) := by decide +kernel
theorem dX7_shift_7 : decode cX7_shift 7 = .ok (.aload_n 0, 1) := by decide +kernel
theorem dX7_shift_8 : decode cX7_shift 8 = .ok (.iload_n 1, 1) := by decide +kernel
theorem dX7_shift_9 : decode cX7_shift 9 = .ok (.invokevirtual 22, 3) := by decide +kernel
theorem dX7_shift_12 : decode cX7_shift 12 = .ok (.invokevirtual 39, 3) := by decide +kernel
theorem dX7_shift_15 : decode cX7_shift 15 = .ok (.aload_n 0, 1) := by decide +kernel
theorem dX7_shift_16 : decode cX7_shift 16 = .ok (.iload_n 2, 1) := by decide +kernel
theorem dX7_shift_17 : decode cX7_shift 17 = .ok (.aload_n 0, 1) := by decide +kernel
theorem dX7_shift_18 : decode cX7_shift 18 = .ok (.iload_n 1, 1) := by decide +kernel
theorem dX7_shift_19 : decode cX7_shift 19 = .ok (.invokevirtual 43, 3) := by decide +kernel
theorem dX7_shift_22 : decode cX7_shift 22 = .ok (.invokevirtual 47, 3) := by decide +kernel
theorem dX7_shift_25 : decode cX7_shift 25 = .ok (.return_, 1) := by decide +kernel
theorem dX7_insert_0 : decode cX7_insert 0 = .ok (.aload_n 0, 1) := by decide +kernel
theorem dX7_insert_1 : decode cX7_insert 1 = .ok (.getfield 29, 3) := by decide +kernel
theorem dX7_insert_4 : decode cX7_insert 4 = .ok (.bipush 31, 2) := by decide +kernel
theorem dX7_insert_6 : decode cX7_insert 6 = .ok (.if_icmp .lt 5, 3) := by decide +kernel
theorem dX7_insert_9 : decode cX7_insert 9 = .ok (.iconst (-1), 1) := by decide +kernel
theorem dX7_insert_10 : decode cX7_insert 10 = .ok (.ireturn, 1) := by decide +kernel
theorem dX7_insert_11 : decode cX7_insert 11 = .ok (.aload_n 0, 1) := by decide +kernel
theorem dX7_insert_12 : decode cX7_insert 12 = .ok (.getfield 29, 3) := by decide +kernel
theorem dX7_insert_15 : decode cX7_insert 15 = .ok (.istore 5, 2) := by decide +kernel
theorem dX7_insert_17 : decode cX7_insert 17 = .ok (.iload 5, 2) := by decide +kernel
theorem dX7_insert_19 : decode cX7_insert 19 = .ok (.ifCond .le 31, 3) := by decide +kernel
theorem dX7_insert_22 : decode cX7_insert 22 = .ok (.aload_n 0, 1) := by decide +kernel
theorem dX7_insert_23 : decode cX7_insert 23 = .ok (.iload 5, 2) := by decide +kernel
theorem dX7_insert_25 : decode cX7_insert 25 = .ok (.iconst 1, 1) := by decide +kernel
theorem dX7_insert_26 : decode cX7_insert 26 = .ok (.isub, 1) := by decide +kernel
theorem dX7_insert_27 : decode cX7_insert 27 = .ok (.invokevirtual 26, 3) := by decide +kernel
theorem dX7_insert_30 : decode cX7_insert 30 = .ok (.iload_n 1, 1) := by decide +kernel
theorem dX7_insert_31 : decode cX7_insert 31 = .ok (.if_icmp .le 19, 3) := by decide +kernel
theorem dX7_insert_34 : decode cX7_insert 34 = .ok (.aload_n 0, 1) := by decide +kernel
theorem dX7_insert_35 : decode cX7_insert 35 = .ok (.iload 5, 2) := by decide +kernel
theorem dX7_insert_37 : decode cX7_insert 37 = .ok (.iconst 1, 1) := by decide +kernel
theorem dX7_insert_38 : decode cX7_insert 38 = .ok (.isub, 1) := by decide +kernel
theorem dX7_insert_39 : decode cX7_insert 39 = .ok (.iload 5, 2) := by decide +kernel
theorem dX7_insert_41 : decode cX7_insert 41 = .ok (.invokevirtual 51, 3) := by decide +kernel
theorem dX7_insert_44 : decode cX7_insert 44 = .ok (.iinc 5 (-1), 3) := by decide +kernel
theorem dX7_insert_47 : decode cX7_insert 47 = .ok (.goto (-30), 3) := by decide +kernel
theorem dX7_insert_50 : decode cX7_insert 50 = .ok (.aload_n 0, 1) := by decide +kernel
theorem dX7_insert_51 : decode cX7_insert 51 = .ok (.iload 5, 2) := by decide +kernel
theorem dX7_insert_53 : decode cX7_insert 53 = .ok (.iload_n 1, 1) := by decide +kernel
theorem dX7_insert_54 : decode cX7_insert 54 = .ok (.iload_n 2, 1) := by decide +kernel
theorem dX7_insert_55 : decode cX7_insert 55 = .ok (.invokevirtual 39, 3) := by decide +kernel
theorem dX7_insert_58 : decode cX7_insert 58 = .ok (.aload_n 0, 1) := by decide +kernel
theorem dX7_insert_59 : decode cX7_insert 59 = .ok (.iload 5, 2) := by decide +kernel
theorem dX7_insert_61 : decode cX7_insert 61 = .ok (.lload_n 3, 1) := by decide +kernel
theorem dX7_insert_62 : decode cX7_insert 62 = .ok (.invokevirtual 47, 3) := by decide +kernel
theorem dX7_insert_65 : decode cX7_insert 65 = .ok (.aload_n 0, 1) := by decide +kernel
theorem dX7_insert_66 : decode cX7_insert 66 = .ok (.dup, 1) := by decide +kernel
theorem dX7_insert_67 : decode cX7_insert 67 = .ok (.getfield 29, 3) := by decide +kernel
theorem dX7_insert_70 : decode cX7_insert 70 = .ok (.iconst 1, 1) := by decide +kernel
theorem dX7_insert_71 : decode cX7_insert 71 = .ok (.iadd, 1) := by decide +kernel
theorem dX7_insert_72 : decode cX7_insert 72 = .ok (.putfield 29, 3) := by decide +kernel
theorem dX7_insert_75 : decode cX7_insert 75 = .ok (.iload 5, 2) := by decide +kernel
theorem dX7_insert_77 : decode cX7_insert 77 = .ok (.ireturn, 1) := by decide +kernel
theorem dX7_delete_0 : decode cX7_delete 0 = .ok (.iload_n 1, 1) := by decide +kernel
theorem dX7_delete_1 : decode cX7_delete 1 = .ok (.ifCond .lt 11, 3) := by decide +kernel
theorem dX7_delete_4 : decode cX7_delete 4 = .ok (.iload_n 1, 1) := by decide +kernel
theorem dX7_delete_5 : decode cX7_delete 5 = .ok (.aload_n 0, 1) := by decide +kernel
theorem dX7_delete_6 : decode cX7_delete 6 = .ok (.getfield 29, 3) := by decide +kernel
theorem dX7_delete_9 : decode cX7_delete 9 = .ok (.if_icmp .lt 4, 3) := by decide +kernel
theorem dX7_delete_12 : decode cX7_delete 12 = .ok (.return_, 1) := by decide +kernel
theorem dX7_delete_13 : decode cX7_delete 13 = .ok (.iload_n 1, 1) := by decide +kernel
theorem dX7_delete_14 : decode cX7_delete 14 = .ok (.istore_n 2, 1) := by decide +kernel
theorem dX7_delete_15 : decode cX7_delete 15 = .ok (.iload_n 2, 1) := by decide +kernel
theorem dX7_delete_16 : decode cX7_delete 16 = .ok (.aload_n 0, 1) := by decide +kernel
theorem dX7_delete_17 : decode cX7_delete 17 = .ok (.getfield 29, 3) := by decide +kernel
theorem dX7_delete_20 : decode cX7_delete 20 = .ok (.iconst 1, 1) := by decide +kernel
theorem dX7_delete_21 : decode cX7_delete 21 = .ok (.isub, 1) := by decide +kernel
theorem dX7_delete_22 : decode cX7_delete 22 = .ok (.if_icmp .ge 17, 3) := by decide +kernel
theorem dX7_delete_25 : decode cX7_delete 25 = .ok (.aload_n 0, 1) := by decide +kernel
theorem dX7_delete_26 : decode cX7_delete 26 = .ok (.iload_n 2, 1) := by decide +kernel
theorem dX7_delete_27 : decode cX7_delete 27 = .ok (.iconst 1, 1) := by decide +kernel
theorem dX7_delete_28 : decode cX7_delete 28 = .ok (.iadd, 1) := by decide +kernel
theorem dX7_delete_29 : decode cX7_delete 29 = .ok (.iload_n 2, 1) := by decide +kernel
theorem dX7_delete_30 : decode cX7_delete 30 = .ok (.invokevirtual 51, 3) := by decide +kernel
theorem dX7_delete_33 : decode cX7_delete 33 = .ok (.iinc 2 1, 3) := by decide +kernel
theorem dX7_delete_36 : decode cX7_delete 36 = .ok (.goto (-21), 3) := by decide +kernel
theorem dX7_delete_39 : decode cX7_delete 39 = .ok (.aload_n 0, 1) := by decide +kernel
theorem dX7_delete_40 : decode cX7_delete 40 = .ok (.dup, 1) := by decide +kernel
theorem dX7_delete_41 : decode cX7_delete 41 = .ok (.getfield 29, 3) := by decide +kernel
theorem dX7_delete_44 : decode cX7_delete 44 = .ok (.iconst 1, 1) := by decide +kernel
theorem dX7_delete_45 : decode cX7_delete 45 = .ok (.isub, 1) := by decide +kernel
theorem dX7_delete_46 : decode cX7_delete 46 = .ok (.putfield 29, 3) := by decide +kernel
theorem dX7_delete_49 : decode cX7_delete 49 = .ok (.return_, 1) := by decide +kernel
theorem dX7_meeting_0 : decode cX7_meeting 0 = .ok (.iconst 0, 1) := by decide +kernel
theorem dX7_meeting_1 : decode cX7_meeting 1 = .ok (.istore 4, 2) := by decide +kernel
theorem dX7_meeting_3 : decode cX7_meeting 3 = .ok (.iload 4, 2) := by decide +kernel
theorem dX7_meeting_5 : decode cX7_meeting 5 = .ok (.aload_n 0, 1) := by decide +kernel
theorem dX7_meeting_6 : decode cX7_meeting 6 = .ok (.getfield 29, 3) := by decide +kernel
theorem dX7_meeting_9 : decode cX7_meeting 9 = .ok (.if_icmp .ge 38, 3) := by decide +kernel
theorem dX7_meeting_12 : decode cX7_meeting 12 = .ok (.iload 4, 2) := by decide +kernel
theorem dX7_meeting_14 : decode cX7_meeting 14 = .ok (.iload_n 3, 1) := by decide +kernel
theorem dX7_meeting_15 : decode cX7_meeting 15 = .ok (.if_icmp .eq 26, 3) := by decide +kernel
theorem dX7_meeting_18 : decode cX7_meeting 18 = .ok (.aload_n 0, 1) := by decide +kernel
theorem dX7_meeting_19 : decode cX7_meeting 19 = .ok (.iload 4, 2) := by decide +kernel
theorem dX7_meeting_21 : decode cX7_meeting 21 = .ok (.invokevirtual 26, 3) := by decide +kernel
theorem dX7_meeting_24 : decode cX7_meeting 24 = .ok (.iload_n 2, 1) := by decide +kernel
theorem dX7_meeting_25 : decode cX7_meeting 25 = .ok (.if_icmp .ge 16, 3) := by decide +kernel
theorem dX7_meeting_28 : decode cX7_meeting 28 = .ok (.iload_n 1, 1) := by decide +kernel
theorem dX7_meeting_29 : decode cX7_meeting 29 = .ok (.aload_n 0, 1) := by decide +kernel
theorem dX7_meeting_30 : decode cX7_meeting 30 = .ok (.iload 4, 2) := by decide +kernel
theorem dX7_meeting_32 : decode cX7_meeting 32 = .ok (.invokevirtual 22, 3) := by decide +kernel
theorem dX7_meeting_35 : decode cX7_meeting 35 = .ok (.if_icmp .ge 6, 3) := by decide +kernel
theorem dX7_meeting_38 : decode cX7_meeting 38 = .ok (.iload 4, 2) := by decide +kernel
theorem dX7_meeting_40 : decode cX7_meeting 40 = .ok (.ireturn, 1) := by decide +kernel
theorem dX7_meeting_41 : decode cX7_meeting 41 = .ok (.iinc 4 1, 3) := by decide +kernel
theorem dX7_meeting_44 : decode cX7_meeting 44 = .ok (.goto (-41), 3) := by decide +kernel
theorem dX7_meeting_47 : decode cX7_meeting 47 = .ok (.iconst (-1), 1) := by decide +kernel
theorem dX7_meeting_48 : decode cX7_meeting 48 = .ok (.ireturn, 1) := by decide +kernel
theorem dX7_spanWith_0 : decode cX7_spanWith 0 = .ok (.iconst 0, 1) := by decide +kernel
theorem dX7_spanWith_1 : decode cX7_spanWith 1 = .ok (.istore_n 2, 1) := by decide +kernel
theorem dX7_spanWith_2 : decode cX7_spanWith 2 = .ok (.iload_n 2, 1) := by decide +kernel
theorem dX7_spanWith_3 : decode cX7_spanWith 3 = .ok (.aload_n 0, 1) := by decide +kernel
theorem dX7_spanWith_4 : decode cX7_spanWith 4 = .ok (.getfield 29, 3) := by decide +kernel
theorem dX7_spanWith_7 : decode cX7_spanWith 7 = .ok (.if_icmp .ge 29, 3) := by decide +kernel
theorem dX7_spanWith_10 : decode cX7_spanWith 10 = .ok (.aload_n 0, 1) := by decide +kernel
theorem dX7_spanWith_11 : decode cX7_spanWith 11 = .ok (.iload_n 2, 1) := by decide +kernel
theorem dX7_spanWith_12 : decode cX7_spanWith 12 = .ok (.invokevirtual 26, 3) := by decide +kernel
theorem dX7_spanWith_15 : decode cX7_spanWith 15 = .ok (.iload_n 1, 1) := by decide +kernel
theorem dX7_spanWith_16 : decode cX7_spanWith 16 = .ok (.if_icmp .gt 14, 3) := by decide +kernel
theorem dX7_spanWith_19 : decode cX7_spanWith 19 = .ok (.iload_n 1, 1) := by decide +kernel
theorem dX7_spanWith_20 : decode cX7_spanWith 20 = .ok (.aload_n 0, 1) := by decide +kernel
theorem dX7_spanWith_21 : decode cX7_spanWith 21 = .ok (.iload_n 2, 1) := by decide +kernel
theorem dX7_spanWith_22 : decode cX7_spanWith 22 = .ok (.invokevirtual 22, 3) := by decide +kernel
theorem dX7_spanWith_25 : decode cX7_spanWith 25 = .ok (.if_icmp .ge 5, 3) := by decide +kernel
theorem dX7_spanWith_28 : decode cX7_spanWith 28 = .ok (.iload_n 2, 1) := by decide +kernel
theorem dX7_spanWith_29 : decode cX7_spanWith 29 = .ok (.ireturn, 1) := by decide +kernel
theorem dX7_spanWith_30 : decode cX7_spanWith 30 = .ok (.iinc 2 1, 3) := by decide +kernel
theorem dX7_spanWith_33 : decode cX7_spanWith 33 = .ok (.goto (-31), 3) := by decide +kernel
theorem dX7_spanWith_36 : decode cX7_spanWith 36 = .ok (.iconst (-1), 1) := by decide +kernel
theorem dX7_spanWith_37 : decode cX7_spanWith 37 = .ok (.ireturn, 1) := by decide +kernel
theorem dX7_host_0 : decode cX7_host 0 = .ok (.iconst 0, 1) := by decide +kernel
theorem dX7_host_1 : decode cX7_host 1 = .ok (.istore 4, 2) := by decide +kernel
theorem dX7_host_3 : decode cX7_host 3 = .ok (.iload 4, 2) := by decide +kernel
theorem dX7_host_5 : decode cX7_host 5 = .ok (.aload_n 0, 1) := by decide +kernel
theorem dX7_host_6 : decode cX7_host 6 = .ok (.getfield 29, 3) := by decide +kernel
theorem dX7_host_9 : decode cX7_host 9 = .ok (.if_icmp .ge 107, 3) := by decide +kernel
theorem dX7_host_12 : decode cX7_host 12 = .ok (.iload 4, 2) := by decide +kernel
theorem dX7_host_14 : decode cX7_host 14 = .ok (.bipush 31, 2) := by decide +kernel
theorem dX7_host_16 : decode cX7_host 16 = .ok (.if_icmp .ge 100, 3) := by decide +kernel
theorem dX7_host_19 : decode cX7_host 19 = .ok (.aload_n 0, 1) := by decide +kernel
theorem dX7_host_20 : decode cX7_host 20 = .ok (.getfield 9, 3) := by decide +kernel
theorem dX7_host_23 : decode cX7_host 23 = .ok (.iload 4, 2) := by decide +kernel
theorem dX7_host_25 : decode cX7_host 25 = .ok (.iaload, 1) := by decide +kernel
theorem dX7_host_26 : decode cX7_host 26 = .ok (.iload_n 2, 1) := by decide +kernel
theorem dX7_host_27 : decode cX7_host 27 = .ok (.if_icmp .ne 7, 3) := by decide +kernel
theorem dX7_host_30 : decode cX7_host 30 = .ok (.iconst 1, 1) := by decide +kernel
theorem dX7_host_31 : decode cX7_host 31 = .ok (.goto 4, 3) := by decide +kernel
theorem dX7_host_34 : decode cX7_host 34 = .ok (.iconst 0, 1) := by decide +kernel
theorem dX7_host_35 : decode cX7_host 35 = .ok (.istore 5, 2) := by decide +kernel
theorem dX7_host_37 : decode cX7_host 37 = .ok (.aload_n 0, 1) := by decide +kernel
theorem dX7_host_38 : decode cX7_host 38 = .ok (.getfield 15, 3) := by decide +kernel
theorem dX7_host_41 : decode cX7_host 41 = .ok (.iload 4, 2) := by decide +kernel
theorem dX7_host_43 : decode cX7_host 43 = .ok (.iaload, 1) := by decide +kernel
theorem dX7_host_44 : decode cX7_host 44 = .ok (.iload_n 3, 1) := by decide +kernel
theorem dX7_host_45 : decode cX7_host 45 = .ok (.if_icmp .ne 7, 3) := by decide +kernel
theorem dX7_host_48 : decode cX7_host 48 = .ok (.iconst 1, 1) := by decide +kernel
theorem dX7_host_49 : decode cX7_host 49 = .ok (.goto 4, 3) := by decide +kernel
theorem dX7_host_52 : decode cX7_host 52 = .ok (.iconst 0, 1) := by decide +kernel
theorem dX7_host_53 : decode cX7_host 53 = .ok (.istore 6, 2) := by decide +kernel
theorem dX7_host_55 : decode cX7_host 55 = .ok (.iload_n 1, 1) := by decide +kernel
theorem dX7_host_56 : decode cX7_host 56 = .ok (.iconst 1, 1) := by decide +kernel
theorem dX7_host_57 : decode cX7_host 57 = .ok (.if_icmp .ne 25, 3) := by decide +kernel
theorem dX7_host_60 : decode cX7_host 60 = .ok (.aload_n 0, 1) := by decide +kernel
theorem dX7_host_61 : decode cX7_host 61 = .ok (.getfield 9, 3) := by decide +kernel
theorem dX7_host_64 : decode cX7_host 64 = .ok (.iload 4, 2) := by decide +kernel
theorem dX7_host_66 : decode cX7_host 66 = .ok (.iaload, 1) := by decide +kernel
theorem dX7_host_67 : decode cX7_host 67 = .ok (.iload_n 2, 1) := by decide +kernel
theorem dX7_host_68 : decode cX7_host 68 = .ok (.if_icmp .gt 14, 3) := by decide +kernel
theorem dX7_host_71 : decode cX7_host 71 = .ok (.iload_n 3, 1) := by decide +kernel
theorem dX7_host_72 : decode cX7_host 72 = .ok (.aload_n 0, 1) := by decide +kernel
theorem dX7_host_73 : decode cX7_host 73 = .ok (.getfield 15, 3) := by decide +kernel
theorem dX7_host_76 : decode cX7_host 76 = .ok (.iload 4, 2) := by decide +kernel
theorem dX7_host_78 : decode cX7_host 78 = .ok (.iaload, 1) := by decide +kernel
theorem dX7_host_79 : decode cX7_host 79 = .ok (.if_icmp .le 28, 3) := by decide +kernel
theorem dX7_host_82 : decode cX7_host 82 = .ok (.iload_n 1, 1) := by decide +kernel
theorem dX7_host_83 : decode cX7_host 83 = .ok (.iconst 2, 1) := by decide +kernel
theorem dX7_host_84 : decode cX7_host 84 = .ok (.if_icmp .ne 13, 3) := by decide +kernel
theorem dX7_host_87 : decode cX7_host 87 = .ok (.iload 5, 2) := by decide +kernel
theorem dX7_host_89 : decode cX7_host 89 = .ok (.ifCond .eq 8, 3) := by decide +kernel
theorem dX7_host_92 : decode cX7_host 92 = .ok (.iload 6, 2) := by decide +kernel
theorem dX7_host_94 : decode cX7_host 94 = .ok (.ifCond .ne 13, 3) := by decide +kernel
theorem dX7_host_97 : decode cX7_host 97 = .ok (.iload_n 1, 1) := by decide +kernel
theorem dX7_host_98 : decode cX7_host 98 = .ok (.iconst 3, 1) := by decide +kernel
theorem dX7_host_99 : decode cX7_host 99 = .ok (.if_icmp .ne 11, 3) := by decide +kernel
theorem dX7_host_102 : decode cX7_host 102 = .ok (.iload 5, 2) := by decide +kernel
theorem dX7_host_104 : decode cX7_host 104 = .ok (.ifCond .eq 6, 3) := by decide +kernel
theorem dX7_host_107 : decode cX7_host 107 = .ok (.iload 4, 2) := by decide +kernel
theorem dX7_host_109 : decode cX7_host 109 = .ok (.ireturn, 1) := by decide +kernel
theorem dX7_host_110 : decode cX7_host 110 = .ok (.iinc 4 1, 3) := by decide +kernel
theorem dX7_host_113 : decode cX7_host 113 = .ok (.goto (-110), 3) := by decide +kernel
theorem dX7_host_116 : decode cX7_host 116 = .ok (.iconst (-1), 1) := by decide +kernel
theorem dX7_host_117 : decode cX7_host 117 = .ok (.ireturn, 1) := by decide +kernel
theorem dX7_frameSum_0 : decode cX7_frameSum 0 = .ok (.iconst 0, 1) := by decide +kernel
theorem dX7_frameSum_1 : decode cX7_frameSum 1 = .ok (.istore_n 1, 1) := by decide +kernel
theorem dX7_frameSum_2 : decode cX7_frameSum 2 = .ok (.iconst 0, 1) := by decide +kernel
theorem dX7_frameSum_3 : decode cX7_frameSum 3 = .ok (.istore_n 2, 1) := by decide +kernel
theorem dX7_frameSum_4 : decode cX7_frameSum 4 = .ok (.iload_n 2, 1) := by decide +kernel
theorem dX7_frameSum_5 : decode cX7_frameSum 5 = .ok (.aload_n 0, 1) := by decide +kernel
theorem dX7_frameSum_6 : decode cX7_frameSum 6 = .ok (.getfield 29, 3) := by decide +kernel
theorem dX7_frameSum_9 : decode cX7_frameSum 9 = .ok (.if_icmp .ge 17, 3) := by decide +kernel
theorem dX7_frameSum_12 : decode cX7_frameSum 12 = .ok (.iload_n 1, 1) := by decide +kernel
theorem dX7_frameSum_13 : decode cX7_frameSum 13 = .ok (.aload_n 0, 1) := by decide +kernel
theorem dX7_frameSum_14 : decode cX7_frameSum 14 = .ok (.iload_n 2, 1) := by decide +kernel
theorem dX7_frameSum_15 : decode cX7_frameSum 15 = .ok (.invokevirtual 55, 3) := by decide +kernel
theorem dX7_frameSum_18 : decode cX7_frameSum 18 = .ok (.iadd, 1) := by decide +kernel
theorem dX7_frameSum_19 : decode cX7_frameSum 19 = .ok (.istore_n 1, 1) := by decide +kernel
theorem dX7_frameSum_20 : decode cX7_frameSum 20 = .ok (.iinc 2 1, 3) := by decide +kernel
theorem dX7_frameSum_23 : decode cX7_frameSum 23 = .ok (.goto (-19), 3) := by decide +kernel
theorem dX7_frameSum_26 : decode cX7_frameSum 26 = .ok (.iload_n 1, 1) := by decide +kernel
theorem dX7_frameSum_27 : decode cX7_frameSum 27 = .ok (.ireturn, 1) := by decide +kernel
theorem dX7_labelCount_0 : decode cX7_labelCount 0 = .ok (.iconst 0, 1) := by decide +kernel
theorem dX7_labelCount_1 : decode cX7_labelCount 1 = .ok (.istore_n 1, 1) := by decide +kernel
theorem dX7_labelCount_2 : decode cX7_labelCount 2 = .ok (.iconst 0, 1) := by decide +kernel
theorem dX7_labelCount_3 : decode cX7_labelCount 3 = .ok (.istore_n 2, 1) := by decide +kernel
theorem dX7_labelCount_4 : decode cX7_labelCount 4 = .ok (.iload_n 2, 1) := by decide +kernel
theorem dX7_labelCount_5 : decode cX7_labelCount 5 = .ok (.aload_n 0, 1) := by decide +kernel
theorem dX7_labelCount_6 : decode cX7_labelCount 6 = .ok (.getfield 29, 3) := by decide +kernel
theorem dX7_labelCount_9 : decode cX7_labelCount 9 = .ok (.if_icmp .ge 25, 3) := by decide +kernel
theorem dX7_labelCount_12 : decode cX7_labelCount 12 = .ok (.iload_n 1, 1) := by decide +kernel
theorem dX7_labelCount_13 : decode cX7_labelCount 13 = .ok (.aload_n 0, 1) := by decide +kernel
theorem dX7_labelCount_14 : decode cX7_labelCount 14 = .ok (.iload_n 2, 1) := by decide +kernel
theorem dX7_labelCount_15 : decode cX7_labelCount 15 = .ok (.invokevirtual 58, 3) := by decide +kernel
theorem dX7_labelCount_18 : decode cX7_labelCount 18 = .ok (.ifCond .eq 7, 3) := by decide +kernel
theorem dX7_labelCount_21 : decode cX7_labelCount 21 = .ok (.iconst 1, 1) := by decide +kernel
theorem dX7_labelCount_22 : decode cX7_labelCount 22 = .ok (.goto 4, 3) := by decide +kernel
theorem dX7_labelCount_25 : decode cX7_labelCount 25 = .ok (.iconst 0, 1) := by decide +kernel
theorem dX7_labelCount_26 : decode cX7_labelCount 26 = .ok (.iadd, 1) := by decide +kernel
theorem dX7_labelCount_27 : decode cX7_labelCount 27 = .ok (.istore_n 1, 1) := by decide +kernel
theorem dX7_labelCount_28 : decode cX7_labelCount 28 = .ok (.iinc 2 1, 3) := by decide +kernel
theorem dX7_labelCount_31 : decode cX7_labelCount 31 = .ok (.goto (-27), 3) := by decide +kernel
theorem dX7_labelCount_34 : decode cX7_labelCount 34 = .ok (.iload_n 1, 1) := by decide +kernel
theorem dX7_labelCount_35 : decode cX7_labelCount 35 = .ok (.ireturn, 1) := by decide +kernel
theorem dX7_isLabelNew_0 : decode cX7_isLabelNew 0 = .ok (.iconst 0, 1) := by decide +kernel
theorem dX7_isLabelNew_1 : decode cX7_isLabelNew 1 = .ok (.istore_n 2, 1) := by decide +kernel
theorem dX7_isLabelNew_2 : decode cX7_isLabelNew 2 = .ok (.iload_n 2, 1) := by decide +kernel
theorem dX7_isLabelNew_3 : decode cX7_isLabelNew 3 = .ok (.iload_n 1, 1) := by decide +kernel
theorem dX7_isLabelNew_4 : decode cX7_isLabelNew 4 = .ok (.if_icmp .ge 25, 3) := by decide +kernel
theorem dX7_isLabelNew_7 : decode cX7_isLabelNew 7 = .ok (.aload_n 0, 1) := by decide +kernel
theorem dX7_isLabelNew_8 : decode cX7_isLabelNew 8 = .ok (.iload_n 2, 1) := by decide +kernel
theorem dX7_isLabelNew_9 : decode cX7_isLabelNew 9 = .ok (.invokevirtual 43, 3) := by decide +kernel
theorem dX7_isLabelNew_12 : decode cX7_isLabelNew 12 = .ok (.aload_n 0, 1) := by decide +kernel
theorem dX7_isLabelNew_13 : decode cX7_isLabelNew 13 = .ok (.iload_n 1, 1) := by decide +kernel
theorem dX7_isLabelNew_14 : decode cX7_isLabelNew 14 = .ok (.invokevirtual 43, 3) := by decide +kernel
theorem dX7_isLabelNew_17 : decode cX7_isLabelNew 17 = .ok (.lcmp, 1) := by decide +kernel
theorem dX7_isLabelNew_18 : decode cX7_isLabelNew 18 = .ok (.ifCond .ne 5, 3) := by decide +kernel
theorem dX7_isLabelNew_21 : decode cX7_isLabelNew 21 = .ok (.iconst 0, 1) := by decide +kernel
theorem dX7_isLabelNew_22 : decode cX7_isLabelNew 22 = .ok (.ireturn, 1) := by decide +kernel
theorem dX7_isLabelNew_23 : decode cX7_isLabelNew 23 = .ok (.iinc 2 1, 3) := by decide +kernel
theorem dX7_isLabelNew_26 : decode cX7_isLabelNew 26 = .ok (.goto (-24), 3) := by decide +kernel
theorem dX7_isLabelNew_29 : decode cX7_isLabelNew 29 = .ok (.iconst 1, 1) := by decide +kernel
theorem dX7_isLabelNew_30 : decode cX7_isLabelNew 30 = .ok (.ireturn, 1) := by decide +kernel
theorem dX7_isInOrder_0 : decode cX7_isInOrder 0 = .ok (.iconst 0, 1) := by decide +kernel
theorem dX7_isInOrder_1 : decode cX7_isInOrder 1 = .ok (.istore_n 1, 1) := by decide +kernel
theorem dX7_isInOrder_2 : decode cX7_isInOrder 2 = .ok (.iconst 0, 1) := by decide +kernel
theorem dX7_isInOrder_3 : decode cX7_isInOrder 3 = .ok (.istore_n 2, 1) := by decide +kernel
theorem dX7_isInOrder_4 : decode cX7_isInOrder 4 = .ok (.iload_n 2, 1) := by decide +kernel
theorem dX7_isInOrder_5 : decode cX7_isInOrder 5 = .ok (.aload_n 0, 1) := by decide +kernel
theorem dX7_isInOrder_6 : decode cX7_isInOrder 6 = .ok (.getfield 29, 3) := by decide +kernel
theorem dX7_isInOrder_9 : decode cX7_isInOrder 9 = .ok (.if_icmp .ge 50, 3) := by decide +kernel
theorem dX7_isInOrder_12 : decode cX7_isInOrder 12 = .ok (.aload_n 0, 1) := by decide +kernel
theorem dX7_isInOrder_13 : decode cX7_isInOrder 13 = .ok (.iload_n 2, 1) := by decide +kernel
theorem dX7_isInOrder_14 : decode cX7_isInOrder 14 = .ok (.invokevirtual 26, 3) := by decide +kernel
theorem dX7_isInOrder_17 : decode cX7_isInOrder 17 = .ok (.iload_n 1, 1) := by decide +kernel
theorem dX7_isInOrder_18 : decode cX7_isInOrder 18 = .ok (.if_icmp .lt 27, 3) := by decide +kernel
theorem dX7_isInOrder_21 : decode cX7_isInOrder 21 = .ok (.aload_n 0, 1) := by decide +kernel
theorem dX7_isInOrder_22 : decode cX7_isInOrder 22 = .ok (.iload_n 2, 1) := by decide +kernel
theorem dX7_isInOrder_23 : decode cX7_isInOrder 23 = .ok (.invokevirtual 22, 3) := by decide +kernel
theorem dX7_isInOrder_26 : decode cX7_isInOrder 26 = .ok (.aload_n 0, 1) := by decide +kernel
theorem dX7_isInOrder_27 : decode cX7_isInOrder 27 = .ok (.iload_n 2, 1) := by decide +kernel
theorem dX7_isInOrder_28 : decode cX7_isInOrder 28 = .ok (.invokevirtual 26, 3) := by decide +kernel
theorem dX7_isInOrder_31 : decode cX7_isInOrder 31 = .ok (.if_icmp .le 14, 3) := by decide +kernel
theorem dX7_isInOrder_34 : decode cX7_isInOrder 34 = .ok (.aload_n 0, 1) := by decide +kernel
theorem dX7_isInOrder_35 : decode cX7_isInOrder 35 = .ok (.iload_n 2, 1) := by decide +kernel
theorem dX7_isInOrder_36 : decode cX7_isInOrder 36 = .ok (.invokevirtual 22, 3) := by decide +kernel
theorem dX7_isInOrder_39 : decode cX7_isInOrder 39 = .ok (.sipush 1000, 3) := by decide +kernel
theorem dX7_isInOrder_42 : decode cX7_isInOrder 42 = .ok (.if_icmp .le 5, 3) := by decide +kernel
theorem dX7_isInOrder_45 : decode cX7_isInOrder 45 = .ok (.iconst 0, 1) := by decide +kernel
theorem dX7_isInOrder_46 : decode cX7_isInOrder 46 = .ok (.ireturn, 1) := by decide +kernel
theorem dX7_isInOrder_47 : decode cX7_isInOrder 47 = .ok (.aload_n 0, 1) := by decide +kernel
theorem dX7_isInOrder_48 : decode cX7_isInOrder 48 = .ok (.iload_n 2, 1) := by decide +kernel
theorem dX7_isInOrder_49 : decode cX7_isInOrder 49 = .ok (.invokevirtual 22, 3) := by decide +kernel
theorem dX7_isInOrder_52 : decode cX7_isInOrder 52 = .ok (.istore_n 1, 1) := by decide +kernel
theorem dX7_isInOrder_53 : decode cX7_isInOrder 53 = .ok (.iinc 2 1, 3) := by decide +kernel
theorem dX7_isInOrder_56 : decode cX7_isInOrder 56 = .ok (.goto (-52), 3) := by decide +kernel
theorem dX7_isInOrder_59 : decode cX7_isInOrder 59 = .ok (.iconst 1, 1) := by decide +kernel
theorem dX7_isInOrder_60 : decode cX7_isInOrder 60 = .ok (.ireturn, 1) := by decide +kernel
theorem dX7_coveredFrames_0 : decode cX7_coveredFrames 0 = .ok (.iconst 0, 1) := by decide +kernel
theorem dX7_coveredFrames_1 : decode cX7_coveredFrames 1 = .ok (.istore_n 1, 1) := by decide +kernel
theorem dX7_coveredFrames_2 : decode cX7_coveredFrames 2 = .ok (.iconst 0, 1) := by decide +kernel
theorem dX7_coveredFrames_3 : decode cX7_coveredFrames 3 = .ok (.istore_n 2, 1) := by decide +kernel
theorem dX7_coveredFrames_4 : decode cX7_coveredFrames 4 = .ok (.iconst 0, 1) := by decide +kernel
theorem dX7_coveredFrames_5 : decode cX7_coveredFrames 5 = .ok (.istore_n 3, 1) := by decide +kernel
theorem dX7_coveredFrames_6 : decode cX7_coveredFrames 6 = .ok (.iload_n 3, 1) := by decide +kernel
theorem dX7_coveredFrames_7 : decode cX7_coveredFrames 7 = .ok (.aload_n 0, 1) := by decide +kernel
theorem dX7_coveredFrames_8 : decode cX7_coveredFrames 8 = .ok (.getfield 29, 3) := by decide +kernel
theorem dX7_coveredFrames_11 : decode cX7_coveredFrames 11 = .ok (.if_icmp .ge 41, 3) := by decide +kernel
theorem dX7_coveredFrames_14 : decode cX7_coveredFrames 14 = .ok (.iload_n 1, 1) := by decide +kernel
theorem dX7_coveredFrames_15 : decode cX7_coveredFrames 15 = .ok (.iconst 0, 1) := by decide +kernel
theorem dX7_coveredFrames_16 : decode cX7_coveredFrames 16 = .ok (.aload_n 0, 1) := by decide +kernel
theorem dX7_coveredFrames_17 : decode cX7_coveredFrames 17 = .ok (.iload_n 3, 1) := by decide +kernel
theorem dX7_coveredFrames_18 : decode cX7_coveredFrames 18 = .ok (.invokevirtual 22, 3) := by decide +kernel
theorem dX7_coveredFrames_21 : decode cX7_coveredFrames 21 = .ok (.aload_n 0, 1) := by decide +kernel
theorem dX7_coveredFrames_22 : decode cX7_coveredFrames 22 = .ok (.iload_n 3, 1) := by decide +kernel
theorem dX7_coveredFrames_23 : decode cX7_coveredFrames 23 = .ok (.invokevirtual 26, 3) := by decide +kernel
theorem dX7_coveredFrames_26 : decode cX7_coveredFrames 26 = .ok (.iload_n 2, 1) := by decide +kernel
theorem dX7_coveredFrames_27 : decode cX7_coveredFrames 27 = .ok (.invokestatic 62, 3) := by decide +kernel
theorem dX7_coveredFrames_30 : decode cX7_coveredFrames 30 = .ok (.isub, 1) := by decide +kernel
theorem dX7_coveredFrames_31 : decode cX7_coveredFrames 31 = .ok (.invokestatic 62, 3) := by decide +kernel
theorem dX7_coveredFrames_34 : decode cX7_coveredFrames 34 = .ok (.iadd, 1) := by decide +kernel
theorem dX7_coveredFrames_35 : decode cX7_coveredFrames 35 = .ok (.istore_n 1, 1) := by decide +kernel
theorem dX7_coveredFrames_36 : decode cX7_coveredFrames 36 = .ok (.iload_n 2, 1) := by decide +kernel
theorem dX7_coveredFrames_37 : decode cX7_coveredFrames 37 = .ok (.aload_n 0, 1) := by decide +kernel
theorem dX7_coveredFrames_38 : decode cX7_coveredFrames 38 = .ok (.iload_n 3, 1) := by decide +kernel
theorem dX7_coveredFrames_39 : decode cX7_coveredFrames 39 = .ok (.invokevirtual 22, 3) := by decide +kernel
theorem dX7_coveredFrames_42 : decode cX7_coveredFrames 42 = .ok (.invokestatic 62, 3) := by decide +kernel
theorem dX7_coveredFrames_45 : decode cX7_coveredFrames 45 = .ok (.istore_n 2, 1) := by decide +kernel
theorem dX7_coveredFrames_46 : decode cX7_coveredFrames 46 = .ok (.iinc 3 1, 3) := by decide +kernel
theorem dX7_coveredFrames_49 : decode cX7_coveredFrames 49 = .ok (.goto (-43), 3) := by decide +kernel
theorem dX7_coveredFrames_52 : decode cX7_coveredFrames 52 = .ok (.iload_n 1, 1) := by decide +kernel
theorem dX7_coveredFrames_53 : decode cX7_coveredFrames 53 = .ok (.ireturn, 1) := by decide +kernel
theorem dX7_commonFrames_0 : decode cX7_commonFrames 0 = .ok (.iconst 0, 1) := by decide +kernel
theorem dX7_commonFrames_1 : decode cX7_commonFrames 1 = .ok (.istore_n 3, 1) := by decide +kernel
theorem dX7_commonFrames_2 : decode cX7_commonFrames 2 = .ok (.iconst 0, 1) := by decide +kernel
theorem dX7_commonFrames_3 : decode cX7_commonFrames 3 = .ok (.istore 4, 2) := by decide +kernel
theorem dX7_commonFrames_5 : decode cX7_commonFrames 5 = .ok (.iload 4, 2) := by decide +kernel
theorem dX7_commonFrames_7 : decode cX7_commonFrames 7 = .ok (.aload_n 0, 1) := by decide +kernel
theorem dX7_commonFrames_8 : decode cX7_commonFrames 8 = .ok (.getfield 29, 3) := by decide +kernel
theorem dX7_commonFrames_11 : decode cX7_commonFrames 11 = .ok (.if_icmp .ge 89, 3) := by decide +kernel
theorem dX7_commonFrames_14 : decode cX7_commonFrames 14 = .ok (.iconst 0, 1) := by decide +kernel
theorem dX7_commonFrames_15 : decode cX7_commonFrames 15 = .ok (.istore 5, 2) := by decide +kernel
theorem dX7_commonFrames_17 : decode cX7_commonFrames 17 = .ok (.iload 5, 2) := by decide +kernel
theorem dX7_commonFrames_19 : decode cX7_commonFrames 19 = .ok (.aload_n 1, 1) := by decide +kernel
theorem dX7_commonFrames_20 : decode cX7_commonFrames 20 = .ok (.getfield 29, 3) := by decide +kernel
theorem dX7_commonFrames_23 : decode cX7_commonFrames 23 = .ok (.if_icmp .ge 71, 3) := by decide +kernel
theorem dX7_commonFrames_26 : decode cX7_commonFrames 26 = .ok (.iload_n 2, 1) := by decide +kernel
theorem dX7_commonFrames_27 : decode cX7_commonFrames 27 = .ok (.ifCond .eq 19, 3) := by decide +kernel
theorem dX7_commonFrames_30 : decode cX7_commonFrames 30 = .ok (.aload_n 0, 1) := by decide +kernel
theorem dX7_commonFrames_31 : decode cX7_commonFrames 31 = .ok (.iload 4, 2) := by decide +kernel
theorem dX7_commonFrames_33 : decode cX7_commonFrames 33 = .ok (.invokevirtual 43, 3) := by decide +kernel
theorem dX7_commonFrames_36 : decode cX7_commonFrames 36 = .ok (.aload_n 1, 1) := by decide +kernel
theorem dX7_commonFrames_37 : decode cX7_commonFrames 37 = .ok (.iload 5, 2) := by decide +kernel
theorem dX7_commonFrames_39 : decode cX7_commonFrames 39 = .ok (.invokevirtual 43, 3) := by decide +kernel
theorem dX7_commonFrames_42 : decode cX7_commonFrames 42 = .ok (.lcmp, 1) := by decide +kernel
theorem dX7_commonFrames_43 : decode cX7_commonFrames 43 = .ok (.ifCond .ne 45, 3) := by decide +kernel
theorem dX7_commonFrames_46 : decode cX7_commonFrames 46 = .ok (.aload_n 0, 1) := by decide +kernel
theorem dX7_commonFrames_47 : decode cX7_commonFrames 47 = .ok (.iload 4, 2) := by decide +kernel
theorem dX7_commonFrames_49 : decode cX7_commonFrames 49 = .ok (.invokevirtual 26, 3) := by decide +kernel
theorem dX7_commonFrames_52 : decode cX7_commonFrames 52 = .ok (.aload_n 1, 1) := by decide +kernel
theorem dX7_commonFrames_53 : decode cX7_commonFrames 53 = .ok (.iload 5, 2) := by decide +kernel
theorem dX7_commonFrames_55 : decode cX7_commonFrames 55 = .ok (.invokevirtual 26, 3) := by decide +kernel
theorem dX7_commonFrames_58 : decode cX7_commonFrames 58 = .ok (.invokestatic 62, 3) := by decide +kernel
theorem dX7_commonFrames_61 : decode cX7_commonFrames 61 = .ok (.istore 6, 2) := by decide +kernel
theorem dX7_commonFrames_63 : decode cX7_commonFrames 63 = .ok (.iload_n 3, 1) := by decide +kernel
theorem dX7_commonFrames_64 : decode cX7_commonFrames 64 = .ok (.iconst 0, 1) := by decide +kernel
theorem dX7_commonFrames_65 : decode cX7_commonFrames 65 = .ok (.aload_n 0, 1) := by decide +kernel
theorem dX7_commonFrames_66 : decode cX7_commonFrames 66 = .ok (.iload 4, 2) := by decide +kernel
theorem dX7_commonFrames_68 : decode cX7_commonFrames 68 = .ok (.invokevirtual 22, 3) := by decide +kernel
theorem dX7_commonFrames_71 : decode cX7_commonFrames 71 = .ok (.aload_n 1, 1) := by decide +kernel
theorem dX7_commonFrames_72 : decode cX7_commonFrames 72 = .ok (.iload 5, 2) := by decide +kernel
theorem dX7_commonFrames_74 : decode cX7_commonFrames 74 = .ok (.invokevirtual 22, 3) := by decide +kernel
theorem dX7_commonFrames_77 : decode cX7_commonFrames 77 = .ok (.invokestatic 68, 3) := by decide +kernel
theorem dX7_commonFrames_80 : decode cX7_commonFrames 80 = .ok (.iload 6, 2) := by decide +kernel
theorem dX7_commonFrames_82 : decode cX7_commonFrames 82 = .ok (.isub, 1) := by decide +kernel
theorem dX7_commonFrames_83 : decode cX7_commonFrames 83 = .ok (.invokestatic 62, 3) := by decide +kernel
theorem dX7_commonFrames_86 : decode cX7_commonFrames 86 = .ok (.iadd, 1) := by decide +kernel
theorem dX7_commonFrames_87 : decode cX7_commonFrames 87 = .ok (.istore_n 3, 1) := by decide +kernel
theorem dX7_commonFrames_88 : decode cX7_commonFrames 88 = .ok (.iinc 5 1, 3) := by decide +kernel
theorem dX7_commonFrames_91 : decode cX7_commonFrames 91 = .ok (.goto (-74), 3) := by decide +kernel
theorem dX7_commonFrames_94 : decode cX7_commonFrames 94 = .ok (.iinc 4 1, 3) := by decide +kernel
theorem dX7_commonFrames_97 : decode cX7_commonFrames 97 = .ok (.goto (-92), 3) := by decide +kernel
theorem dX7_commonFrames_100 : decode cX7_commonFrames 100 = .ok (.iload_n 3, 1) := by decide +kernel
theorem dX7_commonFrames_101 : decode cX7_commonFrames 101 = .ok (.ireturn, 1) := by decide +kernel
theorem dX7_framesWith_0 : decode cX7_framesWith 0 = .ok (.aload_n 0, 1) := by decide +kernel
theorem dX7_framesWith_1 : decode cX7_framesWith 1 = .ok (.invokevirtual 71, 3) := by decide +kernel
theorem dX7_framesWith_4 : decode cX7_framesWith 4 = .ok (.aload_n 1, 1) := by decide +kernel
theorem dX7_framesWith_5 : decode cX7_framesWith 5 = .ok (.invokevirtual 71, 3) := by decide +kernel
theorem dX7_framesWith_8 : decode cX7_framesWith 8 = .ok (.iadd, 1) := by decide +kernel
theorem dX7_framesWith_9 : decode cX7_framesWith 9 = .ok (.aload_n 0, 1) := by decide +kernel
theorem dX7_framesWith_10 : decode cX7_framesWith 10 = .ok (.aload_n 1, 1) := by decide +kernel
theorem dX7_framesWith_11 : decode cX7_framesWith 11 = .ok (.iconst 0, 1) := by decide +kernel
theorem dX7_framesWith_12 : decode cX7_framesWith 12 = .ok (.invokevirtual 75, 3) := by decide +kernel
theorem dX7_framesWith_15 : decode cX7_framesWith 15 = .ok (.isub, 1) := by decide +kernel
theorem dX7_framesWith_16 : decode cX7_framesWith 16 = .ok (.ireturn, 1) := by decide +kernel
theorem dX7_labelProducts_0 : decode cX7_labelProducts 0 = .ok (.iconst 0, 1) := by decide +kernel
theorem dX7_labelProducts_1 : decode cX7_labelProducts 1 = .ok (.istore_n 2, 1) := by decide +kernel
theorem dX7_labelProducts_2 : decode cX7_labelProducts 2 = .ok (.iconst 0, 1) := by decide +kernel
theorem dX7_labelProducts_3 : decode cX7_labelProducts 3 = .ok (.istore_n 3, 1) := by decide +kernel
theorem dX7_labelProducts_4 : decode cX7_labelProducts 4 = .ok (.iload_n 3, 1) := by decide +kernel
theorem dX7_labelProducts_5 : decode cX7_labelProducts 5 = .ok (.aload_n 0, 1) := by decide +kernel
theorem dX7_labelProducts_6 : decode cX7_labelProducts 6 = .ok (.getfield 29, 3) := by decide +kernel
theorem dX7_labelProducts_9 : decode cX7_labelProducts 9 = .ok (.if_icmp .ge 61, 3) := by decide +kernel
theorem dX7_labelProducts_12 : decode cX7_labelProducts 12 = .ok (.iconst 0, 1) := by decide +kernel
theorem dX7_labelProducts_13 : decode cX7_labelProducts 13 = .ok (.istore 4, 2) := by decide +kernel
theorem dX7_labelProducts_15 : decode cX7_labelProducts 15 = .ok (.iload 4, 2) := by decide +kernel
theorem dX7_labelProducts_17 : decode cX7_labelProducts 17 = .ok (.aload_n 1, 1) := by decide +kernel
theorem dX7_labelProducts_18 : decode cX7_labelProducts 18 = .ok (.getfield 29, 3) := by decide +kernel
theorem dX7_labelProducts_21 : decode cX7_labelProducts 21 = .ok (.if_icmp .ge 43, 3) := by decide +kernel
theorem dX7_labelProducts_24 : decode cX7_labelProducts 24 = .ok (.iload_n 2, 1) := by decide +kernel
theorem dX7_labelProducts_25 : decode cX7_labelProducts 25 = .ok (.aload_n 0, 1) := by decide +kernel
theorem dX7_labelProducts_26 : decode cX7_labelProducts 26 = .ok (.iload_n 3, 1) := by decide +kernel
theorem dX7_labelProducts_27 : decode cX7_labelProducts 27 = .ok (.invokevirtual 43, 3) := by decide +kernel
theorem dX7_labelProducts_30 : decode cX7_labelProducts 30 = .ok (.aload_n 1, 1) := by decide +kernel
theorem dX7_labelProducts_31 : decode cX7_labelProducts 31 = .ok (.iload 4, 2) := by decide +kernel
theorem dX7_labelProducts_33 : decode cX7_labelProducts 33 = .ok (.invokevirtual 43, 3) := by decide +kernel
theorem dX7_labelProducts_36 : decode cX7_labelProducts 36 = .ok (.lcmp, 1) := by decide +kernel
theorem dX7_labelProducts_37 : decode cX7_labelProducts 37 = .ok (.ifCond .ne 18, 3) := by decide +kernel
theorem dX7_labelProducts_40 : decode cX7_labelProducts 40 = .ok (.aload_n 0, 1) := by decide +kernel
theorem dX7_labelProducts_41 : decode cX7_labelProducts 41 = .ok (.iload_n 3, 1) := by decide +kernel
theorem dX7_labelProducts_42 : decode cX7_labelProducts 42 = .ok (.invokevirtual 55, 3) := by decide +kernel
theorem dX7_labelProducts_45 : decode cX7_labelProducts 45 = .ok (.aload_n 1, 1) := by decide +kernel
theorem dX7_labelProducts_46 : decode cX7_labelProducts 46 = .ok (.iload 4, 2) := by decide +kernel
theorem dX7_labelProducts_48 : decode cX7_labelProducts 48 = .ok (.invokevirtual 55, 3) := by decide +kernel
theorem dX7_labelProducts_51 : decode cX7_labelProducts 51 = .ok (.imul, 1) := by decide +kernel
theorem dX7_labelProducts_52 : decode cX7_labelProducts 52 = .ok (.goto 4, 3) := by decide +kernel
theorem dX7_labelProducts_55 : decode cX7_labelProducts 55 = .ok (.iconst 0, 1) := by decide +kernel
theorem dX7_labelProducts_56 : decode cX7_labelProducts 56 = .ok (.iadd, 1) := by decide +kernel
theorem dX7_labelProducts_57 : decode cX7_labelProducts 57 = .ok (.istore_n 2, 1) := by decide +kernel
theorem dX7_labelProducts_58 : decode cX7_labelProducts 58 = .ok (.iinc 4 1, 3) := by decide +kernel
theorem dX7_labelProducts_61 : decode cX7_labelProducts 61 = .ok (.goto (-46), 3) := by decide +kernel
theorem dX7_labelProducts_64 : decode cX7_labelProducts 64 = .ok (.iinc 3 1, 3) := by decide +kernel
theorem dX7_labelProducts_67 : decode cX7_labelProducts 67 = .ok (.goto (-63), 3) := by decide +kernel
theorem dX7_labelProducts_70 : decode cX7_labelProducts 70 = .ok (.iload_n 2, 1) := by decide +kernel
theorem dX7_labelProducts_71 : decode cX7_labelProducts 71 = .ok (.ireturn, 1) := by decide +kernel
theorem dX8_init_0 : decode cX8_init 0 = .ok (.aload_n 0, 1) := by decide +kernel
theorem dX8_init_1 : decode cX8_init 1 = .ok (.invokespecial 1, 3) := by decide +kernel
theorem dX8_init_4 : decode cX8_init 4 = .ok (.aload_n 0, 1) := by decide +kernel
theorem dX8_init_5 : decode cX8_init 5 = .ok (.new 7, 3) := by decide +kernel
theorem dX8_init_8 : decode cX8_init 8 = .ok (.dup, 1) := by decide +kernel
theorem dX8_init_9 : decode cX8_init 9 = .ok (.invokespecial 9, 3) := by decide +kernel
theorem dX8_init_12 : decode cX8_init 12 = .ok (.putfield 10, 3) := by decide +kernel
theorem dX8_init_15 : decode cX8_init 15 = .ok (.aload_n 0, 1) := by decide +kernel
theorem dX8_init_16 : decode cX8_init 16 = .ok (.new 7, 3) := by decide +kernel
theorem dX8_init_19 : decode cX8_init 19 = .ok (.dup, 1) := by decide +kernel
theorem dX8_init_20 : decode cX8_init 20 = .ok (.invokespecial 9, 3) := by decide +kernel
theorem dX8_init_23 : decode cX8_init 23 = .ok (.putfield 16, 3) := by decide +kernel
theorem dX8_init_26 : decode cX8_init 26 = .ok (.aload_n 0, 1) := by decide +kernel
theorem dX8_init_27 : decode cX8_init 27 = .ok (.new 7, 3) := by decide +kernel
theorem dX8_init_30 : decode cX8_init 30 = .ok (.dup, 1) := by decide +kernel
theorem dX8_init_31 : decode cX8_init 31 = .ok (.invokespecial 9, 3) := by decide +kernel
theorem dX8_init_34 : decode cX8_init 34 = .ok (.putfield 19, 3) := by decide +kernel
theorem dX8_init_37 : decode cX8_init 37 = .ok (.aload_n 0, 1) := by decide +kernel
theorem dX8_init_38 : decode cX8_init 38 = .ok (.new 22, 3) := by decide +kernel
theorem dX8_init_41 : decode cX8_init 41 = .ok (.dup, 1) := by decide +kernel
theorem dX8_init_42 : decode cX8_init 42 = .ok (.invokespecial 24, 3) := by decide +kernel
theorem dX8_init_45 : decode cX8_init 45 = .ok (.putfield 25, 3) := by decide +kernel
theorem dX8_init_48 : decode cX8_init 48 = .ok (.aload_n 0, 1) := by decide +kernel
theorem dX8_init_49 : decode cX8_init 49 = .ok (.new 29, 3) := by decide +kernel
theorem dX8_init_52 : decode cX8_init 52 = .ok (.dup, 1) := by decide +kernel
theorem dX8_init_53 : decode cX8_init 53 = .ok (.invokespecial 31, 3) := by decide +kernel
theorem dX8_init_56 : decode cX8_init 56 = .ok (.putfield 32, 3) := by decide +kernel
theorem dX8_init_59 : decode cX8_init 59 = .ok (.aload_n 0, 1) := by decide +kernel
theorem dX8_init_60 : decode cX8_init 60 = .ok (.new 36, 3) := by decide +kernel
theorem dX8_init_63 : decode cX8_init 63 = .ok (.dup, 1) := by decide +kernel
theorem dX8_init_64 : decode cX8_init 64 = .ok (.invokespecial 38, 3) := by decide +kernel
theorem dX8_init_67 : decode cX8_init 67 = .ok (.putfield 39, 3) := by decide +kernel
theorem dX8_init_70 : decode cX8_init 70 = .ok (.aload_n 0, 1) := by decide +kernel
theorem dX8_init_71 : decode cX8_init 71 = .ok (.new 43, 3) := by decide +kernel
theorem dX8_init_74 : decode cX8_init 74 = .ok (.dup, 1) := by decide +kernel
theorem dX8_init_75 : decode cX8_init 75 = .ok (.invokespecial 45, 3) := by decide +kernel
theorem dX8_init_78 : decode cX8_init 78 = .ok (.putfield 46, 3) := by decide +kernel
theorem dX8_init_81 : decode cX8_init 81 = .ok (.aload_n 0, 1) := by decide +kernel
theorem dX8_init_82 : decode cX8_init 82 = .ok (.new 50, 3) := by decide +kernel
theorem dX8_init_85 : decode cX8_init 85 = .ok (.dup, 1) := by decide +kernel
theorem dX8_init_86 : decode cX8_init 86 = .ok (.invokespecial 52, 3) := by decide +kernel
theorem dX8_init_89 : decode cX8_init 89 = .ok (.putfield 53, 3) := by decide +kernel
theorem dX8_init_92 : decode cX8_init 92 = .ok (.aload_n 0, 1) := by decide +kernel
theorem dX8_init_93 : decode cX8_init 93 = .ok (.new 57, 3) := by decide +kernel
theorem dX8_init_96 : decode cX8_init 96 = .ok (.dup, 1) := by decide +kernel
theorem dX8_init_97 : decode cX8_init 97 = .ok (.invokespecial 59, 3) := by decide +kernel
theorem dX8_init_100 : decode cX8_init 100 = .ok (.putfield 60, 3) := by decide +kernel
theorem dX8_init_103 : decode cX8_init 103 = .ok (.aload_n 0, 1) := by decide +kernel
theorem dX8_init_104 : decode cX8_init 104 = .ok (.new 57, 3) := by decide +kernel
theorem dX8_init_107 : decode cX8_init 107 = .ok (.dup, 1) := by decide +kernel
theorem dX8_init_108 : decode cX8_init 108 = .ok (.invokespecial 59, 3) := by decide +kernel
theorem dX8_init_111 : decode cX8_init 111 = .ok (.putfield 64, 3) := by decide +kernel
theorem dX8_init_114 : decode cX8_init 114 = .ok (.aload_n 0, 1) := by decide +kernel
theorem dX8_init_115 : decode cX8_init 115 = .ok (.iconst (-1), 1) := by decide +kernel
theorem dX8_init_116 : decode cX8_init 116 = .ok (.putfield 67, 3) := by decide +kernel
theorem dX8_init_119 : decode cX8_init 119 = .ok (.aload_n 0, 1) := by decide +kernel
theorem dX8_init_120 : decode cX8_init 120 = .ok (.iconst (-1), 1) := by decide +kernel
theorem dX8_init_121 : decode cX8_init 121 = .ok (.putfield 71, 3) := by decide +kernel
theorem dX8_init_124 : decode cX8_init 124 = .ok (.return_, 1) := by decide +kernel
theorem dX8_clear_0 : decode cX8_clear 0 = .ok (.aload_n 0, 1) := by decide +kernel
theorem dX8_clear_1 : decode cX8_clear 1 = .ok (.getfield 10, 3) := by decide +kernel
theorem dX8_clear_4 : decode cX8_clear 4 = .ok (.getfield 74, 3) := by decide +kernel
theorem dX8_clear_7 : decode cX8_clear 7 = .ok (.istore_n 1, 1) := by decide +kernel
theorem dX8_clear_8 : decode cX8_clear 8 = .ok (.aload_n 0, 1) := by decide +kernel
theorem dX8_clear_9 : decode cX8_clear 9 = .ok (.getfield 10, 3) := by decide +kernel
theorem dX8_clear_12 : decode cX8_clear 12 = .ok (.invokevirtual 77, 3) := by decide +kernel
theorem dX8_clear_15 : decode cX8_clear 15 = .ok (.aload_n 0, 1) := by decide +kernel
theorem dX8_clear_16 : decode cX8_clear 16 = .ok (.getfield 25, 3) := by decide +kernel
theorem dX8_clear_19 : decode cX8_clear 19 = .ok (.invokevirtual 80, 3) := by decide +kernel
theorem dX8_clear_22 : decode cX8_clear 22 = .ok (.aload_n 0, 1) := by decide +kernel
theorem dX8_clear_23 : decode cX8_clear 23 = .ok (.getfield 60, 3) := by decide +kernel
theorem dX8_clear_26 : decode cX8_clear 26 = .ok (.iconst 0, 1) := by decide +kernel
theorem dX8_clear_27 : decode cX8_clear 27 = .ok (.putfield 83, 3) := by decide +kernel
theorem dX8_clear_30 : decode cX8_clear 30 = .ok (.iload_n 1, 1) := by decide +kernel
theorem dX8_clear_31 : decode cX8_clear 31 = .ok (.ireturn, 1) := by decide +kernel
theorem dX8_addTier_0 : decode cX8_addTier 0 = .ok (.iload_n 1, 1) := by decide +kernel
theorem dX8_addTier_1 : decode cX8_addTier 1 = .ok (.ifCond .lt 17, 3) := by decide +kernel
theorem dX8_addTier_4 : decode cX8_addTier 4 = .ok (.iload_n 1, 1) := by decide +kernel
theorem dX8_addTier_5 : decode cX8_addTier 5 = .ok (.iconst 3, 1) := by decide +kernel
theorem dX8_addTier_6 : decode cX8_addTier 6 = .ok (.if_icmp .gt 12, 3) := by decide +kernel
theorem dX8_addTier_9 : decode cX8_addTier 9 = .ok (.iload_n 2, 1) := by decide +kernel
theorem dX8_addTier_10 : decode cX8_addTier 10 = .ok (.ifCond .lt 8, 3) := by decide +kernel
theorem dX8_addTier_13 : decode cX8_addTier 13 = .ok (.iload_n 2, 1) := by decide +kernel
theorem dX8_addTier_14 : decode cX8_addTier 14 = .ok (.iconst 3, 1) := by decide +kernel
theorem dX8_addTier_15 : decode cX8_addTier 15 = .ok (.if_icmp .le 11, 3) := by decide +kernel
theorem dX8_addTier_18 : decode cX8_addTier 18 = .ok (.new 86, 3) := by decide +kernel
theorem dX8_addTier_21 : decode cX8_addTier 21 = .ok (.dup, 1) := by decide +kernel
theorem dX8_addTier_22 : decode cX8_addTier 22 = .ok (.invokespecial 88, 3) := by decide +kernel
theorem dX8_addTier_25 : decode cX8_addTier 25 = .ok (.athrow, 1) := by decide +kernel
theorem dX8_addTier_26 : decode cX8_addTier 26 = .ok (.iload_n 2, 1) := by decide +kernel
theorem dX8_addTier_27 : decode cX8_addTier 27 = .ok (.ifCond .eq 22, 3) := by decide +kernel
theorem dX8_addTier_30 : decode cX8_addTier 30 = .ok (.aload_n 0, 1) := by decide +kernel
theorem dX8_addTier_31 : decode cX8_addTier 31 = .ok (.getfield 10, 3) := by decide +kernel
theorem dX8_addTier_34 : decode cX8_addTier 34 = .ok (.iload_n 3, 1) := by decide +kernel
theorem dX8_addTier_35 : decode cX8_addTier 35 = .ok (.invokevirtual 89, 3) := by decide +kernel
theorem dX8_addTier_38 : decode cX8_addTier 38 = .ok (.ifCond .ne 11, 3) := by decide +kernel
theorem dX8_addTier_41 : decode cX8_addTier 41 = .ok (.new 93, 3) := by decide +kernel
theorem dX8_addTier_44 : decode cX8_addTier 44 = .ok (.dup, 1) := by decide +kernel
theorem dX8_addTier_45 : decode cX8_addTier 45 = .ok (.invokespecial 95, 3) := by decide +kernel
theorem dX8_addTier_48 : decode cX8_addTier 48 = .ok (.athrow, 1) := by decide +kernel
theorem dX8_addTier_49 : decode cX8_addTier 49 = .ok (.aload_n 0, 1) := by decide +kernel
theorem dX8_addTier_50 : decode cX8_addTier 50 = .ok (.getfield 10, 3) := by decide +kernel
theorem dX8_addTier_53 : decode cX8_addTier 53 = .ok (.getfield 74, 3) := by decide +kernel
theorem dX8_addTier_56 : decode cX8_addTier 56 = .ok (.bipush 6, 2) := by decide +kernel
theorem dX8_addTier_58 : decode cX8_addTier 58 = .ok (.if_icmp .lt 11, 3) := by decide +kernel
theorem dX8_addTier_61 : decode cX8_addTier 61 = .ok (.new 96, 3) := by decide +kernel
theorem dX8_addTier_64 : decode cX8_addTier 64 = .ok (.dup, 1) := by decide +kernel
theorem dX8_addTier_65 : decode cX8_addTier 65 = .ok (.invokespecial 98, 3) := by decide +kernel
theorem dX8_addTier_68 : decode cX8_addTier 68 = .ok (.athrow, 1) := by decide +kernel
theorem dX8_addTier_69 : decode cX8_addTier 69 = .ok (.aload_n 0, 1) := by decide +kernel
theorem dX8_addTier_70 : decode cX8_addTier 70 = .ok (.getfield 25, 3) := by decide +kernel
theorem dX8_addTier_73 : decode cX8_addTier 73 = .ok (.aload_n 0, 1) := by decide +kernel
theorem dX8_addTier_74 : decode cX8_addTier 74 = .ok (.getfield 10, 3) := by decide +kernel
theorem dX8_addTier_77 : decode cX8_addTier 77 = .ok (.invokevirtual 99, 3) := by decide +kernel
theorem dX8_addTier_80 : decode cX8_addTier 80 = .ok (.aload_n 0, 1) := by decide +kernel
theorem dX8_addTier_81 : decode cX8_addTier 81 = .ok (.getfield 10, 3) := by decide +kernel
theorem dX8_addTier_84 : decode cX8_addTier 84 = .ok (.iload_n 1, 1) := by decide +kernel
theorem dX8_addTier_85 : decode cX8_addTier 85 = .ok (.iload_n 2, 1) := by decide +kernel
theorem dX8_addTier_86 : decode cX8_addTier 86 = .ok (.iload_n 3, 1) := by decide +kernel
theorem dX8_addTier_87 : decode cX8_addTier 87 = .ok (.invokevirtual 103, 3) := by decide +kernel
theorem dX8_addTier_90 : decode cX8_addTier 90 = .ok (.ireturn, 1) := by decide +kernel
theorem dX8_select_0 : decode cX8_select 0 = .ok (.iload_n 1, 1) := by decide +kernel
theorem dX8_select_1 : decode cX8_select 1 = .ok (.ifCond .lt 8, 3) := by decide +kernel
theorem dX8_select_4 : decode cX8_select 4 = .ok (.iload_n 1, 1) := by decide +kernel
theorem dX8_select_5 : decode cX8_select 5 = .ok (.iconst 2, 1) := by decide +kernel
theorem dX8_select_6 : decode cX8_select 6 = .ok (.if_icmp .lt 11, 3) := by decide +kernel
theorem dX8_select_9 : decode cX8_select 9 = .ok (.new 86, 3) := by decide +kernel
theorem dX8_select_12 : decode cX8_select 12 = .ok (.dup, 1) := by decide +kernel
theorem dX8_select_13 : decode cX8_select 13 = .ok (.invokespecial 88, 3) := by decide +kernel
theorem dX8_select_16 : decode cX8_select 16 = .ok (.athrow, 1) := by decide +kernel
theorem dX8_select_17 : decode cX8_select 17 = .ok (.aload_n 0, 1) := by decide +kernel
theorem dX8_select_18 : decode cX8_select 18 = .ok (.getfield 25, 3) := by decide +kernel
theorem dX8_select_21 : decode cX8_select 21 = .ok (.aload_n 0, 1) := by decide +kernel
theorem dX8_select_22 : decode cX8_select 22 = .ok (.getfield 10, 3) := by decide +kernel
theorem dX8_select_25 : decode cX8_select 25 = .ok (.invokevirtual 99, 3) := by decide +kernel
theorem dX8_select_28 : decode cX8_select 28 = .ok (.aload_n 0, 1) := by decide +kernel
theorem dX8_select_29 : decode cX8_select 29 = .ok (.getfield 10, 3) := by decide +kernel
theorem dX8_select_32 : decode cX8_select 32 = .ok (.getfield 107, 3) := by decide +kernel
theorem dX8_select_35 : decode cX8_select 35 = .ok (.istore_n 2, 1) := by decide +kernel
theorem dX8_select_36 : decode cX8_select 36 = .ok (.aload_n 0, 1) := by decide +kernel
theorem dX8_select_37 : decode cX8_select 37 = .ok (.getfield 10, 3) := by decide +kernel
theorem dX8_select_40 : decode cX8_select 40 = .ok (.iload_n 1, 1) := by decide +kernel
theorem dX8_select_41 : decode cX8_select 41 = .ok (.putfield 107, 3) := by decide +kernel
theorem dX8_select_44 : decode cX8_select 44 = .ok (.iload_n 2, 1) := by decide +kernel
theorem dX8_select_45 : decode cX8_select 45 = .ok (.ireturn, 1) := by decide +kernel
theorem dX8_setSetting_0 : decode cX8_setSetting 0 = .ok (.iload_n 1, 1) := by decide +kernel
theorem dX8_setSetting_1 : decode cX8_setSetting 1 = .ok (.ifCond .lt 8, 3) := by decide +kernel
theorem dX8_setSetting_4 : decode cX8_setSetting 4 = .ok (.iload_n 1, 1) := by decide +kernel
theorem dX8_setSetting_5 : decode cX8_setSetting 5 = .ok (.iconst 1, 1) := by decide +kernel
theorem dX8_setSetting_6 : decode cX8_setSetting 6 = .ok (.if_icmp .le 11, 3) := by decide +kernel
theorem dX8_setSetting_9 : decode cX8_setSetting 9 = .ok (.new 93, 3) := by decide +kernel
theorem dX8_setSetting_12 : decode cX8_setSetting 12 = .ok (.dup, 1) := by decide +kernel
theorem dX8_setSetting_13 : decode cX8_setSetting 13 = .ok (.invokespecial 95, 3) := by decide +kernel
theorem dX8_setSetting_16 : decode cX8_setSetting 16 = .ok (.athrow, 1) := by decide +kernel
theorem dX8_setSetting_17 : decode cX8_setSetting 17 = .ok (.iload_n 2, 1) := by decide +kernel
theorem dX8_setSetting_18 : decode cX8_setSetting 18 = .ok (.ifCond .lt 10, 3) := by decide +kernel
theorem dX8_setSetting_21 : decode cX8_setSetting 21 = .ok (.iload_n 2, 1) := by decide +kernel
theorem dX8_setSetting_22 : decode cX8_setSetting 22 = .ok (.sipush 200, 3) := by decide +kernel
theorem dX8_setSetting_25 : decode cX8_setSetting 25 = .ok (.if_icmp .le 11, 3) := by decide +kernel
theorem dX8_setSetting_28 : decode cX8_setSetting 28 = .ok (.new 86, 3) := by decide +kernel
theorem dX8_setSetting_31 : decode cX8_setSetting 31 = .ok (.dup, 1) := by decide +kernel
theorem dX8_setSetting_32 : decode cX8_setSetting 32 = .ok (.invokespecial 88, 3) := by decide +kernel
theorem dX8_setSetting_35 : decode cX8_setSetting 35 = .ok (.athrow, 1) := by decide +kernel
theorem dX8_setSetting_36 : decode cX8_setSetting 36 = .ok (.aload_n 0, 1) := by decide +kernel
theorem dX8_setSetting_37 : decode cX8_setSetting 37 = .ok (.getfield 25, 3) := by decide +kernel
theorem dX8_setSetting_40 : decode cX8_setSetting 40 = .ok (.aload_n 0, 1) := by decide +kernel
theorem dX8_setSetting_41 : decode cX8_setSetting 41 = .ok (.getfield 10, 3) := by decide +kernel
theorem dX8_setSetting_44 : decode cX8_setSetting 44 = .ok (.invokevirtual 99, 3) := by decide +kernel
theorem dX8_setSetting_47 : decode cX8_setSetting 47 = .ok (.iload_n 1, 1) := by decide +kernel
theorem dX8_setSetting_48 : decode cX8_setSetting 48 = .ok (.ifCond .ne 13, 3) := by decide +kernel
theorem dX8_setSetting_51 : decode cX8_setSetting 51 = .ok (.aload_n 0, 1) := by decide +kernel
theorem dX8_setSetting_52 : decode cX8_setSetting 52 = .ok (.getfield 10, 3) := by decide +kernel
theorem dX8_setSetting_55 : decode cX8_setSetting 55 = .ok (.getfield 110, 3) := by decide +kernel
theorem dX8_setSetting_58 : decode cX8_setSetting 58 = .ok (.goto 10, 3) := by decide +kernel
theorem dX8_setSetting_61 : decode cX8_setSetting 61 = .ok (.aload_n 0, 1) := by decide +kernel
theorem dX8_setSetting_62 : decode cX8_setSetting 62 = .ok (.getfield 10, 3) := by decide +kernel
theorem dX8_setSetting_65 : decode cX8_setSetting 65 = .ok (.getfield 113, 3) := by decide +kernel
theorem dX8_setSetting_68 : decode cX8_setSetting 68 = .ok (.istore_n 3, 1) := by decide +kernel
theorem dX8_setSetting_69 : decode cX8_setSetting 69 = .ok (.iload_n 1, 1) := by decide +kernel
theorem dX8_setSetting_70 : decode cX8_setSetting 70 = .ok (.ifCond .ne 14, 3) := by decide +kernel
theorem dX8_setSetting_73 : decode cX8_setSetting 73 = .ok (.aload_n 0, 1) := by decide +kernel
theorem dX8_setSetting_74 : decode cX8_setSetting 74 = .ok (.getfield 10, 3) := by decide +kernel
theorem dX8_setSetting_77 : decode cX8_setSetting 77 = .ok (.iload_n 2, 1) := by decide +kernel
theorem dX8_setSetting_78 : decode cX8_setSetting 78 = .ok (.putfield 110, 3) := by decide +kernel
theorem dX8_setSetting_81 : decode cX8_setSetting 81 = .ok (.goto 11, 3) := by decide +kernel
theorem dX8_setSetting_84 : decode cX8_setSetting 84 = .ok (.aload_n 0, 1) := by decide +kernel
theorem dX8_setSetting_85 : decode cX8_setSetting 85 = .ok (.getfield 10, 3) := by decide +kernel
theorem dX8_setSetting_88 : decode cX8_setSetting 88 = .ok (.iload_n 2, 1) := by decide +kernel
theorem dX8_setSetting_89 : decode cX8_setSetting 89 = .ok (.putfield 113, 3) := by decide +kernel
theorem dX8_setSetting_92 : decode cX8_setSetting 92 = .ok (.iload_n 3, 1) := by decide +kernel
theorem dX8_setSetting_93 : decode cX8_setSetting 93 = .ok (.ireturn, 1) := by decide +kernel
theorem dX8_tier_0 : decode cX8_tier 0 = .ok (.aload_n 0, 1) := by decide +kernel
theorem dX8_tier_1 : decode cX8_tier 1 = .ok (.getfield 10, 3) := by decide +kernel
theorem dX8_tier_4 : decode cX8_tier 4 = .ok (.iload_n 1, 1) := by decide +kernel
theorem dX8_tier_5 : decode cX8_tier 5 = .ok (.invokevirtual 89, 3) := by decide +kernel
theorem dX8_tier_8 : decode cX8_tier 8 = .ok (.ifCond .ne 11, 3) := by decide +kernel
theorem dX8_tier_11 : decode cX8_tier 11 = .ok (.new 93, 3) := by decide +kernel
theorem dX8_tier_14 : decode cX8_tier 14 = .ok (.dup, 1) := by decide +kernel
theorem dX8_tier_15 : decode cX8_tier 15 = .ok (.invokespecial 95, 3) := by decide +kernel
theorem dX8_tier_18 : decode cX8_tier 18 = .ok (.athrow, 1) := by decide +kernel
theorem dX8_tier_19 : decode cX8_tier 19 = .ok (.iload_n 2, 1) := by decide +kernel
theorem dX8_tier_20 : decode cX8_tier 20 = .ok (.tableswitch 141 0 7 #[48, 57, 66, 75, 87, 99, 120, 129], 48) := by decide +kernel
theorem dX8_tier_68 : decode cX8_tier 68 = .ok (.aload_n 0, 1) := by decide +kernel
theorem dX8_tier_69 : decode cX8_tier 69 = .ok (.getfield 10, 3) := by decide +kernel
theorem dX8_tier_72 : decode cX8_tier 72 = .ok (.iload_n 1, 1) := by decide +kernel
theorem dX8_tier_73 : decode cX8_tier 73 = .ok (.invokevirtual 116, 3) := by decide +kernel
theorem dX8_tier_76 : decode cX8_tier 76 = .ok (.ireturn, 1) := by decide +kernel
theorem dX8_tier_77 : decode cX8_tier 77 = .ok (.aload_n 0, 1) := by decide +kernel
theorem dX8_tier_78 : decode cX8_tier 78 = .ok (.getfield 10, 3) := by decide +kernel
theorem dX8_tier_81 : decode cX8_tier 81 = .ok (.iload_n 1, 1) := by decide +kernel
theorem dX8_tier_82 : decode cX8_tier 82 = .ok (.invokevirtual 120, 3) := by decide +kernel
theorem dX8_tier_85 : decode cX8_tier 85 = .ok (.ireturn, 1) := by decide +kernel
theorem dX8_tier_86 : decode cX8_tier 86 = .ok (.aload_n 0, 1) := by decide +kernel
theorem dX8_tier_87 : decode cX8_tier 87 = .ok (.getfield 10, 3) := by decide +kernel
theorem dX8_tier_90 : decode cX8_tier 90 = .ok (.iload_n 1, 1) := by decide +kernel
theorem dX8_tier_91 : decode cX8_tier 91 = .ok (.invokevirtual 123, 3) := by decide +kernel
theorem dX8_tier_94 : decode cX8_tier 94 = .ok (.ireturn, 1) := by decide +kernel
theorem dX8_tier_95 : decode cX8_tier 95 = .ok (.aload_n 0, 1) := by decide +kernel
theorem dX8_tier_96 : decode cX8_tier 96 = .ok (.getfield 10, 3) := by decide +kernel
theorem dX8_tier_99 : decode cX8_tier 99 = .ok (.iload_n 1, 1) := by decide +kernel
theorem dX8_tier_100 : decode cX8_tier 100 = .ok (.invokevirtual 126, 3) := by decide +kernel
theorem dX8_tier_103 : decode cX8_tier 103 = .ok (.getfield 130, 3) := by decide +kernel
theorem dX8_tier_106 : decode cX8_tier 106 = .ok (.ireturn, 1) := by decide +kernel
theorem dX8_tier_107 : decode cX8_tier 107 = .ok (.aload_n 0, 1) := by decide +kernel
theorem dX8_tier_108 : decode cX8_tier 108 = .ok (.getfield 10, 3) := by decide +kernel
theorem dX8_tier_111 : decode cX8_tier 111 = .ok (.iload_n 1, 1) := by decide +kernel
theorem dX8_tier_112 : decode cX8_tier 112 = .ok (.invokevirtual 126, 3) := by decide +kernel
theorem dX8_tier_115 : decode cX8_tier 115 = .ok (.invokevirtual 135, 3) := by decide +kernel
theorem dX8_tier_118 : decode cX8_tier 118 = .ok (.ireturn, 1) := by decide +kernel
theorem dX8_tier_119 : decode cX8_tier 119 = .ok (.aload_n 0, 1) := by decide +kernel
theorem dX8_tier_120 : decode cX8_tier 120 = .ok (.getfield 10, 3) := by decide +kernel
theorem dX8_tier_123 : decode cX8_tier 123 = .ok (.iconst 1, 1) := by decide +kernel
theorem dX8_tier_124 : decode cX8_tier 124 = .ok (.aload_n 0, 1) := by decide +kernel
theorem dX8_tier_125 : decode cX8_tier 125 = .ok (.getfield 10, 3) := by decide +kernel
theorem dX8_tier_128 : decode cX8_tier 128 = .ok (.getfield 107, 3) := by decide +kernel
theorem dX8_tier_131 : decode cX8_tier 131 = .ok (.isub, 1) := by decide +kernel
theorem dX8_tier_132 : decode cX8_tier 132 = .ok (.iload_n 1, 1) := by decide +kernel
theorem dX8_tier_133 : decode cX8_tier 133 = .ok (.invokevirtual 139, 3) := by decide +kernel
theorem dX8_tier_136 : decode cX8_tier 136 = .ok (.getfield 130, 3) := by decide +kernel
theorem dX8_tier_139 : decode cX8_tier 139 = .ok (.ireturn, 1) := by decide +kernel
theorem dX8_tier_140 : decode cX8_tier 140 = .ok (.aload_n 0, 1) := by decide +kernel
theorem dX8_tier_141 : decode cX8_tier 141 = .ok (.getfield 10, 3) := by decide +kernel
theorem dX8_tier_144 : decode cX8_tier 144 = .ok (.iload_n 1, 1) := by decide +kernel
theorem dX8_tier_145 : decode cX8_tier 145 = .ok (.invokevirtual 143, 3) := by decide +kernel
theorem dX8_tier_148 : decode cX8_tier 148 = .ok (.ireturn, 1) := by decide +kernel
theorem dX8_tier_149 : decode cX8_tier 149 = .ok (.aload_n 0, 1) := by decide +kernel
theorem dX8_tier_150 : decode cX8_tier 150 = .ok (.getfield 10, 3) := by decide +kernel
theorem dX8_tier_153 : decode cX8_tier 153 = .ok (.iload_n 1, 1) := by decide +kernel
theorem dX8_tier_154 : decode cX8_tier 154 = .ok (.invokevirtual 126, 3) := by decide +kernel
theorem dX8_tier_157 : decode cX8_tier 157 = .ok (.invokevirtual 146, 3) := by decide +kernel
theorem dX8_tier_160 : decode cX8_tier 160 = .ok (.ireturn, 1) := by decide +kernel
theorem dX8_tier_161 : decode cX8_tier 161 = .ok (.new 86, 3) := by decide +kernel
theorem dX8_tier_164 : decode cX8_tier 164 = .ok (.dup, 1) := by decide +kernel
theorem dX8_tier_165 : decode cX8_tier 165 = .ok (.invokespecial 88, 3) := by decide +kernel
theorem dX8_tier_168 : decode cX8_tier 168 = .ok (.athrow, 1) := by decide +kernel
theorem dX8_book_0 : decode cX8_book 0 = .ok (.iload_n 1, 1) := by decide +kernel
theorem dX8_book_1 : decode cX8_book 1 = .ok (.tableswitch 111 0 7 #[47, 55, 63, 71, 79, 87, 95, 103], 47) := by decide +kernel
theorem dX8_book_48 : decode cX8_book 48 = .ok (.aload_n 0, 1) := by decide +kernel
theorem dX8_book_49 : decode cX8_book 49 = .ok (.getfield 10, 3) := by decide +kernel
theorem dX8_book_52 : decode cX8_book 52 = .ok (.getfield 74, 3) := by decide +kernel
theorem dX8_book_55 : decode cX8_book 55 = .ok (.ireturn, 1) := by decide +kernel
theorem dX8_book_56 : decode cX8_book 56 = .ok (.aload_n 0, 1) := by decide +kernel
theorem dX8_book_57 : decode cX8_book 57 = .ok (.getfield 10, 3) := by decide +kernel
theorem dX8_book_60 : decode cX8_book 60 = .ok (.getfield 107, 3) := by decide +kernel
theorem dX8_book_63 : decode cX8_book 63 = .ok (.ireturn, 1) := by decide +kernel
theorem dX8_book_64 : decode cX8_book 64 = .ok (.aload_n 0, 1) := by decide +kernel
theorem dX8_book_65 : decode cX8_book 65 = .ok (.getfield 10, 3) := by decide +kernel
theorem dX8_book_68 : decode cX8_book 68 = .ok (.getfield 110, 3) := by decide +kernel
theorem dX8_book_71 : decode cX8_book 71 = .ok (.ireturn, 1) := by decide +kernel
theorem dX8_book_72 : decode cX8_book 72 = .ok (.aload_n 0, 1) := by decide +kernel
theorem dX8_book_73 : decode cX8_book 73 = .ok (.getfield 10, 3) := by decide +kernel
theorem dX8_book_76 : decode cX8_book 76 = .ok (.getfield 113, 3) := by decide +kernel
theorem dX8_book_79 : decode cX8_book 79 = .ok (.ireturn, 1) := by decide +kernel
theorem dX8_book_80 : decode cX8_book 80 = .ok (.aload_n 0, 1) := by decide +kernel
theorem dX8_book_81 : decode cX8_book 81 = .ok (.getfield 10, 3) := by decide +kernel
theorem dX8_book_84 : decode cX8_book 84 = .ok (.invokevirtual 149, 3) := by decide +kernel
theorem dX8_book_87 : decode cX8_book 87 = .ok (.ireturn, 1) := by decide +kernel
theorem dX8_book_88 : decode cX8_book 88 = .ok (.aload_n 0, 1) := by decide +kernel
theorem dX8_book_89 : decode cX8_book 89 = .ok (.getfield 32, 3) := by decide +kernel
theorem dX8_book_92 : decode cX8_book 92 = .ok (.getfield 152, 3) := by decide +kernel
theorem dX8_book_95 : decode cX8_book 95 = .ok (.ireturn, 1) := by decide +kernel
theorem dX8_book_96 : decode cX8_book 96 = .ok (.aload_n 0, 1) := by decide +kernel
theorem dX8_book_97 : decode cX8_book 97 = .ok (.getfield 25, 3) := by decide +kernel
theorem dX8_book_100 : decode cX8_book 100 = .ok (.getfield 155, 3) := by decide +kernel
theorem dX8_book_103 : decode cX8_book 103 = .ok (.ireturn, 1) := by decide +kernel
theorem dX8_book_104 : decode cX8_book 104 = .ok (.aload_n 0, 1) := by decide +kernel
theorem dX8_book_105 : decode cX8_book 105 = .ok (.getfield 60, 3) := by decide +kernel
theorem dX8_book_108 : decode cX8_book 108 = .ok (.getfield 83, 3) := by decide +kernel
theorem dX8_book_111 : decode cX8_book 111 = .ok (.ireturn, 1) := by decide +kernel
theorem dX8_book_112 : decode cX8_book 112 = .ok (.new 86, 3) := by decide +kernel
theorem dX8_book_115 : decode cX8_book 115 = .ok (.dup, 1) := by decide +kernel
theorem dX8_book_116 : decode cX8_book 116 = .ok (.invokespecial 88, 3) := by decide +kernel
theorem dX8_book_119 : decode cX8_book 119 = .ok (.athrow, 1) := by decide +kernel
theorem dX8_append_0 : decode cX8_append 0 = .ok (.iconst 0, 1) := by decide +kernel
theorem dX8_append_1 : decode cX8_append 1 = .ok (.istore_n 2, 1) := by decide +kernel
theorem dX8_append_2 : decode cX8_append 2 = .ok (.bipush 24, 2) := by decide +kernel
theorem dX8_append_4 : decode cX8_append 4 = .ok (.istore_n 3, 1) := by decide +kernel
theorem dX8_append_5 : decode cX8_append 5 = .ok (.iload_n 3, 1) := by decide +kernel
theorem dX8_append_6 : decode cX8_append 6 = .ok (.ifCond .lt 58, 3) := by decide +kernel
theorem dX8_append_9 : decode cX8_append 9 = .ok (.iload_n 1, 1) := by decide +kernel
theorem dX8_append_10 : decode cX8_append 10 = .ok (.iload_n 3, 1) := by decide +kernel
theorem dX8_append_11 : decode cX8_append 11 = .ok (.iushr, 1) := by decide +kernel
theorem dX8_append_12 : decode cX8_append 12 = .ok (.sipush 255, 3) := by decide +kernel
theorem dX8_append_15 : decode cX8_append 15 = .ok (.iand, 1) := by decide +kernel
theorem dX8_append_16 : decode cX8_append 16 = .ok (.istore 4, 2) := by decide +kernel
theorem dX8_append_18 : decode cX8_append 18 = .ok (.iload 4, 2) := by decide +kernel
theorem dX8_append_20 : decode cX8_append 20 = .ok (.ifCond .eq 25, 3) := by decide +kernel
theorem dX8_append_23 : decode cX8_append 23 = .ok (.iload 4, 2) := by decide +kernel
theorem dX8_append_25 : decode cX8_append 25 = .ok (.bipush 32, 2) := by decide +kernel
theorem dX8_append_27 : decode cX8_append 27 = .ok (.if_icmp .lt 10, 3) := by decide +kernel
theorem dX8_append_30 : decode cX8_append 30 = .ok (.iload 4, 2) := by decide +kernel
theorem dX8_append_32 : decode cX8_append 32 = .ok (.bipush 126, 2) := by decide +kernel
theorem dX8_append_34 : decode cX8_append 34 = .ok (.if_icmp .le 11, 3) := by decide +kernel
theorem dX8_append_37 : decode cX8_append 37 = .ok (.new 86, 3) := by decide +kernel
theorem dX8_append_40 : decode cX8_append 40 = .ok (.dup, 1) := by decide +kernel
theorem dX8_append_41 : decode cX8_append 41 = .ok (.invokespecial 88, 3) := by decide +kernel
theorem dX8_append_44 : decode cX8_append 44 = .ok (.athrow, 1) := by decide +kernel
theorem dX8_append_45 : decode cX8_append 45 = .ok (.iload_n 2, 1) := by decide +kernel
theorem dX8_append_46 : decode cX8_append 46 = .ok (.iload 4, 2) := by decide +kernel
theorem dX8_append_48 : decode cX8_append 48 = .ok (.ifCond .eq 7, 3) := by decide +kernel
theorem dX8_append_51 : decode cX8_append 51 = .ok (.iconst 1, 1) := by decide +kernel
theorem dX8_append_52 : decode cX8_append 52 = .ok (.goto 4, 3) := by decide +kernel
theorem dX8_append_55 : decode cX8_append 55 = .ok (.iconst 0, 1) := by decide +kernel
theorem dX8_append_56 : decode cX8_append 56 = .ok (.iadd, 1) := by decide +kernel
theorem dX8_append_57 : decode cX8_append 57 = .ok (.istore_n 2, 1) := by decide +kernel
theorem dX8_append_58 : decode cX8_append 58 = .ok (.iinc 3 (-8), 3) := by decide +kernel
theorem dX8_append_61 : decode cX8_append 61 = .ok (.goto (-56), 3) := by decide +kernel
theorem dX8_append_64 : decode cX8_append 64 = .ok (.aload_n 0, 1) := by decide +kernel
theorem dX8_append_65 : decode cX8_append 65 = .ok (.getfield 32, 3) := by decide +kernel
theorem dX8_append_68 : decode cX8_append 68 = .ok (.getfield 152, 3) := by decide +kernel
theorem dX8_append_71 : decode cX8_append 71 = .ok (.iload_n 2, 1) := by decide +kernel
theorem dX8_append_72 : decode cX8_append 72 = .ok (.iadd, 1) := by decide +kernel
theorem dX8_append_73 : decode cX8_append 73 = .ok (.bipush 100, 2) := by decide +kernel
theorem dX8_append_75 : decode cX8_append 75 = .ok (.if_icmp .le 11, 3) := by decide +kernel
theorem dX8_append_78 : decode cX8_append 78 = .ok (.new 96, 3) := by decide +kernel
theorem dX8_append_81 : decode cX8_append 81 = .ok (.dup, 1) := by decide +kernel
theorem dX8_append_82 : decode cX8_append 82 = .ok (.invokespecial 98, 3) := by decide +kernel
theorem dX8_append_85 : decode cX8_append 85 = .ok (.athrow, 1) := by decide +kernel
theorem dX8_append_86 : decode cX8_append 86 = .ok (.bipush 24, 2) := by decide +kernel
theorem dX8_append_88 : decode cX8_append 88 = .ok (.istore_n 3, 1) := by decide +kernel
theorem dX8_append_89 : decode cX8_append 89 = .ok (.iload_n 3, 1) := by decide +kernel
theorem dX8_append_90 : decode cX8_append 90 = .ok (.ifCond .lt 23, 3) := by decide +kernel
theorem dX8_append_93 : decode cX8_append 93 = .ok (.aload_n 0, 1) := by decide +kernel
theorem dX8_append_94 : decode cX8_append 94 = .ok (.getfield 32, 3) := by decide +kernel
theorem dX8_append_97 : decode cX8_append 97 = .ok (.iload_n 1, 1) := by decide +kernel
theorem dX8_append_98 : decode cX8_append 98 = .ok (.iload_n 3, 1) := by decide +kernel
theorem dX8_append_99 : decode cX8_append 99 = .ok (.iushr, 1) := by decide +kernel
theorem dX8_append_100 : decode cX8_append 100 = .ok (.sipush 255, 3) := by decide +kernel
theorem dX8_append_103 : decode cX8_append 103 = .ok (.iand, 1) := by decide +kernel
theorem dX8_append_104 : decode cX8_append 104 = .ok (.invokevirtual 156, 3) := by decide +kernel
theorem dX8_append_107 : decode cX8_append 107 = .ok (.iinc 3 (-8), 3) := by decide +kernel
theorem dX8_append_110 : decode cX8_append 110 = .ok (.goto (-21), 3) := by decide +kernel
theorem dX8_append_113 : decode cX8_append 113 = .ok (.aload_n 0, 1) := by decide +kernel
theorem dX8_append_114 : decode cX8_append 114 = .ok (.getfield 32, 3) := by decide +kernel
theorem dX8_append_117 : decode cX8_append 117 = .ok (.getfield 152, 3) := by decide +kernel
theorem dX8_append_120 : decode cX8_append 120 = .ok (.ireturn, 1) := by decide +kernel
theorem dX8_addSpan_0 : decode cX8_addSpan 0 = .ok (.aload_n 0, 1) := by decide +kernel
theorem dX8_addSpan_1 : decode cX8_addSpan 1 = .ok (.getfield 10, 3) := by decide +kernel
theorem dX8_addSpan_4 : decode cX8_addSpan 4 = .ok (.iload_n 1, 1) := by decide +kernel
theorem dX8_addSpan_5 : decode cX8_addSpan 5 = .ok (.invokevirtual 89, 3) := by decide +kernel
theorem dX8_addSpan_8 : decode cX8_addSpan 8 = .ok (.ifCond .ne 11, 3) := by decide +kernel
theorem dX8_addSpan_11 : decode cX8_addSpan 11 = .ok (.new 93, 3) := by decide +kernel
theorem dX8_addSpan_14 : decode cX8_addSpan 14 = .ok (.dup, 1) := by decide +kernel
theorem dX8_addSpan_15 : decode cX8_addSpan 15 = .ok (.invokespecial 95, 3) := by decide +kernel
theorem dX8_addSpan_18 : decode cX8_addSpan 18 = .ok (.athrow, 1) := by decide +kernel
theorem dX8_addSpan_19 : decode cX8_addSpan 19 = .ok (.aload_n 0, 1) := by decide +kernel
theorem dX8_addSpan_20 : decode cX8_addSpan 20 = .ok (.aload_n 0, 1) := by decide +kernel
theorem dX8_addSpan_21 : decode cX8_addSpan 21 = .ok (.getfield 10, 3) := by decide +kernel
theorem dX8_addSpan_24 : decode cX8_addSpan 24 = .ok (.iload_n 1, 1) := by decide +kernel
theorem dX8_addSpan_25 : decode cX8_addSpan 25 = .ok (.invokevirtual 116, 3) := by decide +kernel
theorem dX8_addSpan_28 : decode cX8_addSpan 28 = .ok (.invokevirtual 160, 3) := by decide +kernel
theorem dX8_addSpan_31 : decode cX8_addSpan 31 = .ok (.lstore 4, 2) := by decide +kernel
theorem dX8_addSpan_33 : decode cX8_addSpan 33 = .ok (.lload 4, 2) := by decide +kernel
theorem dX8_addSpan_35 : decode cX8_addSpan 35 = .ok (.lconst 0, 1) := by decide +kernel
theorem dX8_addSpan_36 : decode cX8_addSpan 36 = .ok (.lcmp, 1) := by decide +kernel
theorem dX8_addSpan_37 : decode cX8_addSpan 37 = .ok (.ifCond .ne 11, 3) := by decide +kernel
theorem dX8_addSpan_40 : decode cX8_addSpan 40 = .ok (.new 86, 3) := by decide +kernel
theorem dX8_addSpan_43 : decode cX8_addSpan 43 = .ok (.dup, 1) := by decide +kernel
theorem dX8_addSpan_44 : decode cX8_addSpan 44 = .ok (.invokespecial 88, 3) := by decide +kernel
theorem dX8_addSpan_47 : decode cX8_addSpan 47 = .ok (.athrow, 1) := by decide +kernel
theorem dX8_addSpan_48 : decode cX8_addSpan 48 = .ok (.aload_n 0, 1) := by decide +kernel
theorem dX8_addSpan_49 : decode cX8_addSpan 49 = .ok (.getfield 16, 3) := by decide +kernel
theorem dX8_addSpan_52 : decode cX8_addSpan 52 = .ok (.aload_n 0, 1) := by decide +kernel
theorem dX8_addSpan_53 : decode cX8_addSpan 53 = .ok (.getfield 10, 3) := by decide +kernel
theorem dX8_addSpan_56 : decode cX8_addSpan 56 = .ok (.invokevirtual 164, 3) := by decide +kernel
theorem dX8_addSpan_59 : decode cX8_addSpan 59 = .ok (.aload_n 0, 1) := by decide +kernel
theorem dX8_addSpan_60 : decode cX8_addSpan 60 = .ok (.getfield 16, 3) := by decide +kernel
theorem dX8_addSpan_63 : decode cX8_addSpan 63 = .ok (.iload_n 1, 1) := by decide +kernel
theorem dX8_addSpan_64 : decode cX8_addSpan 64 = .ok (.iload_n 2, 1) := by decide +kernel
theorem dX8_addSpan_65 : decode cX8_addSpan 65 = .ok (.iload_n 3, 1) := by decide +kernel
theorem dX8_addSpan_66 : decode cX8_addSpan 66 = .ok (.lload 4, 2) := by decide +kernel
theorem dX8_addSpan_68 : decode cX8_addSpan 68 = .ok (.aload_n 0, 1) := by decide +kernel
theorem dX8_addSpan_69 : decode cX8_addSpan 69 = .ok (.getfield 39, 3) := by decide +kernel
theorem dX8_addSpan_72 : decode cX8_addSpan 72 = .ok (.invokevirtual 167, 3) := by decide +kernel
theorem dX8_addSpan_75 : decode cX8_addSpan 75 = .ok (.istore 6, 2) := by decide +kernel
theorem dX8_addSpan_77 : decode cX8_addSpan 77 = .ok (.iload 6, 2) := by decide +kernel
theorem dX8_addSpan_79 : decode cX8_addSpan 79 = .ok (.ifCond .ge 11, 3) := by decide +kernel
theorem dX8_addSpan_82 : decode cX8_addSpan 82 = .ok (.new 171, 3) := by decide +kernel
theorem dX8_addSpan_85 : decode cX8_addSpan 85 = .ok (.dup, 1) := by decide +kernel
theorem dX8_addSpan_86 : decode cX8_addSpan 86 = .ok (.invokespecial 173, 3) := by decide +kernel
theorem dX8_addSpan_89 : decode cX8_addSpan 89 = .ok (.athrow, 1) := by decide +kernel
theorem dX8_addSpan_90 : decode cX8_addSpan 90 = .ok (.aload_n 0, 1) := by decide +kernel
theorem dX8_addSpan_91 : decode cX8_addSpan 91 = .ok (.invokevirtual 174, 3) := by decide +kernel
theorem dX8_addSpan_94 : decode cX8_addSpan 94 = .ok (.iload 6, 2) := by decide +kernel
theorem dX8_addSpan_96 : decode cX8_addSpan 96 = .ok (.ireturn, 1) := by decide +kernel
theorem dX8_removeSpan_0 : decode cX8_removeSpan 0 = .ok (.aload_n 0, 1) := by decide +kernel
theorem dX8_removeSpan_1 : decode cX8_removeSpan 1 = .ok (.getfield 10, 3) := by decide +kernel
theorem dX8_removeSpan_4 : decode cX8_removeSpan 4 = .ok (.iload_n 1, 1) := by decide +kernel
theorem dX8_removeSpan_5 : decode cX8_removeSpan 5 = .ok (.iload_n 2, 1) := by decide +kernel
theorem dX8_removeSpan_6 : decode cX8_removeSpan 6 = .ok (.invokevirtual 177, 3) := by decide +kernel
theorem dX8_removeSpan_9 : decode cX8_removeSpan 9 = .ok (.ifCond .ne 11, 3) := by decide +kernel
theorem dX8_removeSpan_12 : decode cX8_removeSpan 12 = .ok (.new 93, 3) := by decide +kernel
theorem dX8_removeSpan_15 : decode cX8_removeSpan 15 = .ok (.dup, 1) := by decide +kernel
theorem dX8_removeSpan_16 : decode cX8_removeSpan 16 = .ok (.invokespecial 95, 3) := by decide +kernel
theorem dX8_removeSpan_19 : decode cX8_removeSpan 19 = .ok (.athrow, 1) := by decide +kernel
theorem dX8_removeSpan_20 : decode cX8_removeSpan 20 = .ok (.aload_n 0, 1) := by decide +kernel
theorem dX8_removeSpan_21 : decode cX8_removeSpan 21 = .ok (.getfield 25, 3) := by decide +kernel
theorem dX8_removeSpan_24 : decode cX8_removeSpan 24 = .ok (.aload_n 0, 1) := by decide +kernel
theorem dX8_removeSpan_25 : decode cX8_removeSpan 25 = .ok (.getfield 10, 3) := by decide +kernel
theorem dX8_removeSpan_28 : decode cX8_removeSpan 28 = .ok (.invokevirtual 99, 3) := by decide +kernel
theorem dX8_removeSpan_31 : decode cX8_removeSpan 31 = .ok (.aload_n 0, 1) := by decide +kernel
theorem dX8_removeSpan_32 : decode cX8_removeSpan 32 = .ok (.getfield 10, 3) := by decide +kernel
theorem dX8_removeSpan_35 : decode cX8_removeSpan 35 = .ok (.iload_n 1, 1) := by decide +kernel
theorem dX8_removeSpan_36 : decode cX8_removeSpan 36 = .ok (.iload_n 2, 1) := by decide +kernel
theorem dX8_removeSpan_37 : decode cX8_removeSpan 37 = .ok (.invokevirtual 181, 3) := by decide +kernel
theorem dX8_removeSpan_40 : decode cX8_removeSpan 40 = .ok (.ireturn, 1) := by decide +kernel
theorem dX8_moveSpan_0 : decode cX8_moveSpan 0 = .ok (.aload_n 0, 1) := by decide +kernel
theorem dX8_moveSpan_1 : decode cX8_moveSpan 1 = .ok (.getfield 10, 3) := by decide +kernel
theorem dX8_moveSpan_4 : decode cX8_moveSpan 4 = .ok (.iload_n 1, 1) := by decide +kernel
theorem dX8_moveSpan_5 : decode cX8_moveSpan 5 = .ok (.iload_n 2, 1) := by decide +kernel
theorem dX8_moveSpan_6 : decode cX8_moveSpan 6 = .ok (.invokevirtual 177, 3) := by decide +kernel
theorem dX8_moveSpan_9 : decode cX8_moveSpan 9 = .ok (.ifCond .ne 11, 3) := by decide +kernel
theorem dX8_moveSpan_12 : decode cX8_moveSpan 12 = .ok (.new 93, 3) := by decide +kernel
theorem dX8_moveSpan_15 : decode cX8_moveSpan 15 = .ok (.dup, 1) := by decide +kernel
theorem dX8_moveSpan_16 : decode cX8_moveSpan 16 = .ok (.invokespecial 95, 3) := by decide +kernel
theorem dX8_moveSpan_19 : decode cX8_moveSpan 19 = .ok (.athrow, 1) := by decide +kernel
theorem dX8_moveSpan_20 : decode cX8_moveSpan 20 = .ok (.aload_n 0, 1) := by decide +kernel
theorem dX8_moveSpan_21 : decode cX8_moveSpan 21 = .ok (.getfield 16, 3) := by decide +kernel
theorem dX8_moveSpan_24 : decode cX8_moveSpan 24 = .ok (.aload_n 0, 1) := by decide +kernel
theorem dX8_moveSpan_25 : decode cX8_moveSpan 25 = .ok (.getfield 10, 3) := by decide +kernel
theorem dX8_moveSpan_28 : decode cX8_moveSpan 28 = .ok (.invokevirtual 164, 3) := by decide +kernel
theorem dX8_moveSpan_31 : decode cX8_moveSpan 31 = .ok (.aload_n 0, 1) := by decide +kernel
theorem dX8_moveSpan_32 : decode cX8_moveSpan 32 = .ok (.getfield 16, 3) := by decide +kernel
theorem dX8_moveSpan_35 : decode cX8_moveSpan 35 = .ok (.iload_n 1, 1) := by decide +kernel
theorem dX8_moveSpan_36 : decode cX8_moveSpan 36 = .ok (.iload_n 2, 1) := by decide +kernel
theorem dX8_moveSpan_37 : decode cX8_moveSpan 37 = .ok (.iload_n 3, 1) := by decide +kernel
theorem dX8_moveSpan_38 : decode cX8_moveSpan 38 = .ok (.iload 4, 2) := by decide +kernel
theorem dX8_moveSpan_40 : decode cX8_moveSpan 40 = .ok (.aload_n 0, 1) := by decide +kernel
theorem dX8_moveSpan_41 : decode cX8_moveSpan 41 = .ok (.getfield 39, 3) := by decide +kernel
theorem dX8_moveSpan_44 : decode cX8_moveSpan 44 = .ok (.invokevirtual 185, 3) := by decide +kernel
theorem dX8_moveSpan_47 : decode cX8_moveSpan 47 = .ok (.istore 5, 2) := by decide +kernel
theorem dX8_moveSpan_49 : decode cX8_moveSpan 49 = .ok (.iload 5, 2) := by decide +kernel
theorem dX8_moveSpan_51 : decode cX8_moveSpan 51 = .ok (.ifCond .ge 11, 3) := by decide +kernel
theorem dX8_moveSpan_54 : decode cX8_moveSpan 54 = .ok (.new 171, 3) := by decide +kernel
theorem dX8_moveSpan_57 : decode cX8_moveSpan 57 = .ok (.dup, 1) := by decide +kernel
theorem dX8_moveSpan_58 : decode cX8_moveSpan 58 = .ok (.invokespecial 173, 3) := by decide +kernel
theorem dX8_moveSpan_61 : decode cX8_moveSpan 61 = .ok (.athrow, 1) := by decide +kernel
theorem dX8_moveSpan_62 : decode cX8_moveSpan 62 = .ok (.aload_n 0, 1) := by decide +kernel
theorem dX8_moveSpan_63 : decode cX8_moveSpan 63 = .ok (.invokevirtual 174, 3) := by decide +kernel
theorem dX8_moveSpan_66 : decode cX8_moveSpan 66 = .ok (.iload 5, 2) := by decide +kernel
theorem dX8_moveSpan_68 : decode cX8_moveSpan 68 = .ok (.ireturn, 1) := by decide +kernel
theorem dX8_rename_0 : decode cX8_rename 0 = .ok (.aload_n 0, 1) := by decide +kernel
theorem dX8_rename_1 : decode cX8_rename 1 = .ok (.getfield 10, 3) := by decide +kernel
theorem dX8_rename_4 : decode cX8_rename 4 = .ok (.iload_n 1, 1) := by decide +kernel
theorem dX8_rename_5 : decode cX8_rename 5 = .ok (.iload_n 2, 1) := by decide +kernel
theorem dX8_rename_6 : decode cX8_rename 6 = .ok (.invokevirtual 177, 3) := by decide +kernel
theorem dX8_rename_9 : decode cX8_rename 9 = .ok (.ifCond .ne 11, 3) := by decide +kernel
theorem dX8_rename_12 : decode cX8_rename 12 = .ok (.new 93, 3) := by decide +kernel
theorem dX8_rename_15 : decode cX8_rename 15 = .ok (.dup, 1) := by decide +kernel
theorem dX8_rename_16 : decode cX8_rename 16 = .ok (.invokespecial 95, 3) := by decide +kernel
theorem dX8_rename_19 : decode cX8_rename 19 = .ok (.athrow, 1) := by decide +kernel
theorem dX8_rename_20 : decode cX8_rename 20 = .ok (.aload_n 0, 1) := by decide +kernel
theorem dX8_rename_21 : decode cX8_rename 21 = .ok (.aload_n 0, 1) := by decide +kernel
theorem dX8_rename_22 : decode cX8_rename 22 = .ok (.getfield 10, 3) := by decide +kernel
theorem dX8_rename_25 : decode cX8_rename 25 = .ok (.iload_n 1, 1) := by decide +kernel
theorem dX8_rename_26 : decode cX8_rename 26 = .ok (.invokevirtual 116, 3) := by decide +kernel
theorem dX8_rename_29 : decode cX8_rename 29 = .ok (.invokevirtual 160, 3) := by decide +kernel
theorem dX8_rename_32 : decode cX8_rename 32 = .ok (.lstore_n 3, 1) := by decide +kernel
theorem dX8_rename_33 : decode cX8_rename 33 = .ok (.lload_n 3, 1) := by decide +kernel
theorem dX8_rename_34 : decode cX8_rename 34 = .ok (.lconst 0, 1) := by decide +kernel
theorem dX8_rename_35 : decode cX8_rename 35 = .ok (.lcmp, 1) := by decide +kernel
theorem dX8_rename_36 : decode cX8_rename 36 = .ok (.ifCond .ne 11, 3) := by decide +kernel
theorem dX8_rename_39 : decode cX8_rename 39 = .ok (.new 86, 3) := by decide +kernel
theorem dX8_rename_42 : decode cX8_rename 42 = .ok (.dup, 1) := by decide +kernel
theorem dX8_rename_43 : decode cX8_rename 43 = .ok (.invokespecial 88, 3) := by decide +kernel
theorem dX8_rename_46 : decode cX8_rename 46 = .ok (.athrow, 1) := by decide +kernel
theorem dX8_rename_47 : decode cX8_rename 47 = .ok (.aload_n 0, 1) := by decide +kernel
theorem dX8_rename_48 : decode cX8_rename 48 = .ok (.getfield 25, 3) := by decide +kernel
theorem dX8_rename_51 : decode cX8_rename 51 = .ok (.aload_n 0, 1) := by decide +kernel
theorem dX8_rename_52 : decode cX8_rename 52 = .ok (.getfield 10, 3) := by decide +kernel
theorem dX8_rename_55 : decode cX8_rename 55 = .ok (.invokevirtual 99, 3) := by decide +kernel
theorem dX8_rename_58 : decode cX8_rename 58 = .ok (.aload_n 0, 1) := by decide +kernel
theorem dX8_rename_59 : decode cX8_rename 59 = .ok (.getfield 10, 3) := by decide +kernel
theorem dX8_rename_62 : decode cX8_rename 62 = .ok (.iload_n 1, 1) := by decide +kernel
theorem dX8_rename_63 : decode cX8_rename 63 = .ok (.invokevirtual 126, 3) := by decide +kernel
theorem dX8_rename_66 : decode cX8_rename 66 = .ok (.astore 5, 2) := by decide +kernel
theorem dX8_rename_68 : decode cX8_rename 68 = .ok (.aload 5, 2) := by decide +kernel
theorem dX8_rename_70 : decode cX8_rename 70 = .ok (.iload_n 2, 1) := by decide +kernel
theorem dX8_rename_71 : decode cX8_rename 71 = .ok (.invokevirtual 189, 3) := by decide +kernel
theorem dX8_rename_74 : decode cX8_rename 74 = .ok (.lload_n 3, 1) := by decide +kernel
theorem dX8_rename_75 : decode cX8_rename 75 = .ok (.lcmp, 1) := by decide +kernel
theorem dX8_rename_76 : decode cX8_rename 76 = .ok (.ifCond .eq 7, 3) := by decide +kernel
theorem dX8_rename_79 : decode cX8_rename 79 = .ok (.iconst 1, 1) := by decide +kernel
theorem dX8_rename_80 : decode cX8_rename 80 = .ok (.goto 4, 3) := by decide +kernel
theorem dX8_rename_83 : decode cX8_rename 83 = .ok (.iconst 0, 1) := by decide +kernel
theorem dX8_rename_84 : decode cX8_rename 84 = .ok (.istore 6, 2) := by decide +kernel
theorem dX8_rename_86 : decode cX8_rename 86 = .ok (.aload 5, 2) := by decide +kernel
theorem dX8_rename_88 : decode cX8_rename 88 = .ok (.iload_n 2, 1) := by decide +kernel
theorem dX8_rename_89 : decode cX8_rename 89 = .ok (.lload_n 3, 1) := by decide +kernel
theorem dX8_rename_90 : decode cX8_rename 90 = .ok (.invokevirtual 192, 3) := by decide +kernel
theorem dX8_rename_93 : decode cX8_rename 93 = .ok (.iload 6, 2) := by decide +kernel
theorem dX8_rename_95 : decode cX8_rename 95 = .ok (.ireturn, 1) := by decide +kernel
theorem dX8_split_0 : decode cX8_split 0 = .ok (.aload_n 0, 1) := by decide +kernel
theorem dX8_split_1 : decode cX8_split 1 = .ok (.getfield 10, 3) := by decide +kernel
theorem dX8_split_4 : decode cX8_split 4 = .ok (.iload_n 1, 1) := by decide +kernel
theorem dX8_split_5 : decode cX8_split 5 = .ok (.iload_n 2, 1) := by decide +kernel
theorem dX8_split_6 : decode cX8_split 6 = .ok (.invokevirtual 177, 3) := by decide +kernel
theorem dX8_split_9 : decode cX8_split 9 = .ok (.ifCond .ne 11, 3) := by decide +kernel
theorem dX8_split_12 : decode cX8_split 12 = .ok (.new 93, 3) := by decide +kernel
theorem dX8_split_15 : decode cX8_split 15 = .ok (.dup, 1) := by decide +kernel
theorem dX8_split_16 : decode cX8_split 16 = .ok (.invokespecial 95, 3) := by decide +kernel
theorem dX8_split_19 : decode cX8_split 19 = .ok (.athrow, 1) := by decide +kernel
theorem dX8_split_20 : decode cX8_split 20 = .ok (.aload_n 0, 1) := by decide +kernel
theorem dX8_split_21 : decode cX8_split 21 = .ok (.getfield 16, 3) := by decide +kernel
theorem dX8_split_24 : decode cX8_split 24 = .ok (.aload_n 0, 1) := by decide +kernel
theorem dX8_split_25 : decode cX8_split 25 = .ok (.getfield 10, 3) := by decide +kernel
theorem dX8_split_28 : decode cX8_split 28 = .ok (.invokevirtual 164, 3) := by decide +kernel
theorem dX8_split_31 : decode cX8_split 31 = .ok (.aload_n 0, 1) := by decide +kernel
theorem dX8_split_32 : decode cX8_split 32 = .ok (.getfield 16, 3) := by decide +kernel
theorem dX8_split_35 : decode cX8_split 35 = .ok (.iload_n 1, 1) := by decide +kernel
theorem dX8_split_36 : decode cX8_split 36 = .ok (.iload_n 2, 1) := by decide +kernel
theorem dX8_split_37 : decode cX8_split 37 = .ok (.iload_n 3, 1) := by decide +kernel
theorem dX8_split_38 : decode cX8_split 38 = .ok (.aload_n 0, 1) := by decide +kernel
theorem dX8_split_39 : decode cX8_split 39 = .ok (.getfield 39, 3) := by decide +kernel
theorem dX8_split_42 : decode cX8_split 42 = .ok (.invokevirtual 196, 3) := by decide +kernel
theorem dX8_split_45 : decode cX8_split 45 = .ok (.istore 4, 2) := by decide +kernel
theorem dX8_split_47 : decode cX8_split 47 = .ok (.iload 4, 2) := by decide +kernel
theorem dX8_split_49 : decode cX8_split 49 = .ok (.ifCond .ge 11, 3) := by decide +kernel
theorem dX8_split_52 : decode cX8_split 52 = .ok (.new 171, 3) := by decide +kernel
theorem dX8_split_55 : decode cX8_split 55 = .ok (.dup, 1) := by decide +kernel
theorem dX8_split_56 : decode cX8_split 56 = .ok (.invokespecial 173, 3) := by decide +kernel
theorem dX8_split_59 : decode cX8_split 59 = .ok (.athrow, 1) := by decide +kernel
theorem dX8_split_60 : decode cX8_split 60 = .ok (.aload_n 0, 1) := by decide +kernel
theorem dX8_split_61 : decode cX8_split 61 = .ok (.invokevirtual 174, 3) := by decide +kernel
theorem dX8_split_64 : decode cX8_split 64 = .ok (.iload 4, 2) := by decide +kernel
theorem dX8_split_66 : decode cX8_split 66 = .ok (.ireturn, 1) := by decide +kernel
theorem dX8_join_0 : decode cX8_join 0 = .ok (.aload_n 0, 1) := by decide +kernel
theorem dX8_join_1 : decode cX8_join 1 = .ok (.getfield 10, 3) := by decide +kernel
theorem dX8_join_4 : decode cX8_join 4 = .ok (.iload_n 1, 1) := by decide +kernel
theorem dX8_join_5 : decode cX8_join 5 = .ok (.iload_n 2, 1) := by decide +kernel
theorem dX8_join_6 : decode cX8_join 6 = .ok (.invokevirtual 177, 3) := by decide +kernel
theorem dX8_join_9 : decode cX8_join 9 = .ok (.ifCond .ne 11, 3) := by decide +kernel
theorem dX8_join_12 : decode cX8_join 12 = .ok (.new 93, 3) := by decide +kernel
theorem dX8_join_15 : decode cX8_join 15 = .ok (.dup, 1) := by decide +kernel
theorem dX8_join_16 : decode cX8_join 16 = .ok (.invokespecial 95, 3) := by decide +kernel
theorem dX8_join_19 : decode cX8_join 19 = .ok (.athrow, 1) := by decide +kernel
theorem dX8_join_20 : decode cX8_join 20 = .ok (.aload_n 0, 1) := by decide +kernel
theorem dX8_join_21 : decode cX8_join 21 = .ok (.getfield 16, 3) := by decide +kernel
theorem dX8_join_24 : decode cX8_join 24 = .ok (.aload_n 0, 1) := by decide +kernel
theorem dX8_join_25 : decode cX8_join 25 = .ok (.getfield 10, 3) := by decide +kernel
theorem dX8_join_28 : decode cX8_join 28 = .ok (.invokevirtual 164, 3) := by decide +kernel
theorem dX8_join_31 : decode cX8_join 31 = .ok (.aload_n 0, 1) := by decide +kernel
theorem dX8_join_32 : decode cX8_join 32 = .ok (.getfield 16, 3) := by decide +kernel
theorem dX8_join_35 : decode cX8_join 35 = .ok (.iload_n 1, 1) := by decide +kernel
theorem dX8_join_36 : decode cX8_join 36 = .ok (.iload_n 2, 1) := by decide +kernel
theorem dX8_join_37 : decode cX8_join 37 = .ok (.aload_n 0, 1) := by decide +kernel
theorem dX8_join_38 : decode cX8_join 38 = .ok (.getfield 39, 3) := by decide +kernel
theorem dX8_join_41 : decode cX8_join 41 = .ok (.invokevirtual 200, 3) := by decide +kernel
theorem dX8_join_44 : decode cX8_join 44 = .ok (.istore_n 3, 1) := by decide +kernel
theorem dX8_join_45 : decode cX8_join 45 = .ok (.iload_n 3, 1) := by decide +kernel
theorem dX8_join_46 : decode cX8_join 46 = .ok (.ifCond .ge 11, 3) := by decide +kernel
theorem dX8_join_49 : decode cX8_join 49 = .ok (.new 171, 3) := by decide +kernel
theorem dX8_join_52 : decode cX8_join 52 = .ok (.dup, 1) := by decide +kernel
theorem dX8_join_53 : decode cX8_join 53 = .ok (.invokespecial 173, 3) := by decide +kernel
theorem dX8_join_56 : decode cX8_join 56 = .ok (.athrow, 1) := by decide +kernel
theorem dX8_join_57 : decode cX8_join 57 = .ok (.aload_n 0, 1) := by decide +kernel
theorem dX8_join_58 : decode cX8_join 58 = .ok (.invokevirtual 174, 3) := by decide +kernel
theorem dX8_join_61 : decode cX8_join 61 = .ok (.iload_n 3, 1) := by decide +kernel
theorem dX8_join_62 : decode cX8_join 62 = .ok (.ireturn, 1) := by decide +kernel
theorem dX8_span_0 : decode cX8_span 0 = .ok (.aload_n 0, 1) := by decide +kernel
theorem dX8_span_1 : decode cX8_span 1 = .ok (.getfield 10, 3) := by decide +kernel
theorem dX8_span_4 : decode cX8_span 4 = .ok (.iload_n 1, 1) := by decide +kernel
theorem dX8_span_5 : decode cX8_span 5 = .ok (.iload_n 2, 1) := by decide +kernel
theorem dX8_span_6 : decode cX8_span 6 = .ok (.invokevirtual 177, 3) := by decide +kernel
theorem dX8_span_9 : decode cX8_span 9 = .ok (.ifCond .ne 11, 3) := by decide +kernel
theorem dX8_span_12 : decode cX8_span 12 = .ok (.new 93, 3) := by decide +kernel
theorem dX8_span_15 : decode cX8_span 15 = .ok (.dup, 1) := by decide +kernel
theorem dX8_span_16 : decode cX8_span 16 = .ok (.invokespecial 95, 3) := by decide +kernel
theorem dX8_span_19 : decode cX8_span 19 = .ok (.athrow, 1) := by decide +kernel
theorem dX8_span_20 : decode cX8_span 20 = .ok (.aload_n 0, 1) := by decide +kernel
theorem dX8_span_21 : decode cX8_span 21 = .ok (.getfield 10, 3) := by decide +kernel
theorem dX8_span_24 : decode cX8_span 24 = .ok (.iload_n 1, 1) := by decide +kernel
theorem dX8_span_25 : decode cX8_span 25 = .ok (.invokevirtual 126, 3) := by decide +kernel
theorem dX8_span_28 : decode cX8_span 28 = .ok (.astore 4, 2) := by decide +kernel
theorem dX8_span_30 : decode cX8_span 30 = .ok (.iload_n 3, 1) := by decide +kernel
theorem dX8_span_31 : decode cX8_span 31 = .ok (.tableswitch 95 0 4 #[33, 40, 47, 57, 85], 33) := by decide +kernel
theorem dX8_span_64 : decode cX8_span 64 = .ok (.aload 4, 2) := by decide +kernel
theorem dX8_span_66 : decode cX8_span 66 = .ok (.iload_n 2, 1) := by decide +kernel
theorem dX8_span_67 : decode cX8_span 67 = .ok (.invokevirtual 204, 3) := by decide +kernel
theorem dX8_span_70 : decode cX8_span 70 = .ok (.ireturn, 1) := by decide +kernel
theorem dX8_span_71 : decode cX8_span 71 = .ok (.aload 4, 2) := by decide +kernel
theorem dX8_span_73 : decode cX8_span 73 = .ok (.iload_n 2, 1) := by decide +kernel
theorem dX8_span_74 : decode cX8_span 74 = .ok (.invokevirtual 207, 3) := by decide +kernel
theorem dX8_span_77 : decode cX8_span 77 = .ok (.ireturn, 1) := by decide +kernel
theorem dX8_span_78 : decode cX8_span 78 = .ok (.aload 4, 2) := by decide +kernel
theorem dX8_span_80 : decode cX8_span 80 = .ok (.iload_n 2, 1) := by decide +kernel
theorem dX8_span_81 : decode cX8_span 81 = .ok (.invokevirtual 189, 3) := by decide +kernel
theorem dX8_span_84 : decode cX8_span 84 = .ok (.invokestatic 210, 3) := by decide +kernel
theorem dX8_span_87 : decode cX8_span 87 = .ok (.ireturn, 1) := by decide +kernel
theorem dX8_span_88 : decode cX8_span 88 = .ok (.aload_n 0, 1) := by decide +kernel
theorem dX8_span_89 : decode cX8_span 89 = .ok (.getfield 10, 3) := by decide +kernel
theorem dX8_span_92 : decode cX8_span 92 = .ok (.aload_n 0, 1) := by decide +kernel
theorem dX8_span_93 : decode cX8_span 93 = .ok (.getfield 10, 3) := by decide +kernel
theorem dX8_span_96 : decode cX8_span 96 = .ok (.getfield 107, 3) := by decide +kernel
theorem dX8_span_99 : decode cX8_span 99 = .ok (.iload_n 1, 1) := by decide +kernel
theorem dX8_span_100 : decode cX8_span 100 = .ok (.aload 4, 2) := by decide +kernel
theorem dX8_span_102 : decode cX8_span 102 = .ok (.iload_n 2, 1) := by decide +kernel
theorem dX8_span_103 : decode cX8_span 103 = .ok (.invokevirtual 204, 3) := by decide +kernel
theorem dX8_span_106 : decode cX8_span 106 = .ok (.aload 4, 2) := by decide +kernel
theorem dX8_span_108 : decode cX8_span 108 = .ok (.iload_n 2, 1) := by decide +kernel
theorem dX8_span_109 : decode cX8_span 109 = .ok (.invokevirtual 207, 3) := by decide +kernel
theorem dX8_span_112 : decode cX8_span 112 = .ok (.invokevirtual 214, 3) := by decide +kernel
theorem dX8_span_115 : decode cX8_span 115 = .ok (.ireturn, 1) := by decide +kernel
theorem dX8_span_116 : decode cX8_span 116 = .ok (.aload_n 0, 1) := by decide +kernel
theorem dX8_span_117 : decode cX8_span 117 = .ok (.getfield 10, 3) := by decide +kernel
theorem dX8_span_120 : decode cX8_span 120 = .ok (.iload_n 1, 1) := by decide +kernel
theorem dX8_span_121 : decode cX8_span 121 = .ok (.iload_n 2, 1) := by decide +kernel
theorem dX8_span_122 : decode cX8_span 122 = .ok (.invokevirtual 218, 3) := by decide +kernel
theorem dX8_span_125 : decode cX8_span 125 = .ok (.ireturn, 1) := by decide +kernel
theorem dX8_span_126 : decode cX8_span 126 = .ok (.new 86, 3) := by decide +kernel
theorem dX8_span_129 : decode cX8_span 129 = .ok (.dup, 1) := by decide +kernel
theorem dX8_span_130 : decode cX8_span 130 = .ok (.invokespecial 88, 3) := by decide +kernel
theorem dX8_span_133 : decode cX8_span 133 = .ok (.athrow, 1) := by decide +kernel
theorem dX8_letter_0 : decode cX8_letter 0 = .ok (.aload_n 0, 1) := by decide +kernel
theorem dX8_letter_1 : decode cX8_letter 1 = .ok (.getfield 10, 3) := by decide +kernel
theorem dX8_letter_4 : decode cX8_letter 4 = .ok (.iload_n 1, 1) := by decide +kernel
theorem dX8_letter_5 : decode cX8_letter 5 = .ok (.iload_n 2, 1) := by decide +kernel
theorem dX8_letter_6 : decode cX8_letter 6 = .ok (.invokevirtual 177, 3) := by decide +kernel
theorem dX8_letter_9 : decode cX8_letter 9 = .ok (.ifCond .ne 11, 3) := by decide +kernel
theorem dX8_letter_12 : decode cX8_letter 12 = .ok (.new 93, 3) := by decide +kernel
theorem dX8_letter_15 : decode cX8_letter 15 = .ok (.dup, 1) := by decide +kernel
theorem dX8_letter_16 : decode cX8_letter 16 = .ok (.invokespecial 95, 3) := by decide +kernel
theorem dX8_letter_19 : decode cX8_letter 19 = .ok (.athrow, 1) := by decide +kernel
theorem dX8_letter_20 : decode cX8_letter 20 = .ok (.aload_n 0, 1) := by decide +kernel
theorem dX8_letter_21 : decode cX8_letter 21 = .ok (.getfield 10, 3) := by decide +kernel
theorem dX8_letter_24 : decode cX8_letter 24 = .ok (.iload_n 1, 1) := by decide +kernel
theorem dX8_letter_25 : decode cX8_letter 25 = .ok (.invokevirtual 126, 3) := by decide +kernel
theorem dX8_letter_28 : decode cX8_letter 28 = .ok (.iload_n 2, 1) := by decide +kernel
theorem dX8_letter_29 : decode cX8_letter 29 = .ok (.invokevirtual 189, 3) := by decide +kernel
theorem dX8_letter_32 : decode cX8_letter 32 = .ok (.lstore 4, 2) := by decide +kernel
theorem dX8_letter_34 : decode cX8_letter 34 = .ok (.iload_n 3, 1) := by decide +kernel
theorem dX8_letter_35 : decode cX8_letter 35 = .ok (.ifCond .lt 12, 3) := by decide +kernel
theorem dX8_letter_38 : decode cX8_letter 38 = .ok (.iload_n 3, 1) := by decide +kernel
theorem dX8_letter_39 : decode cX8_letter 39 = .ok (.lload 4, 2) := by decide +kernel
theorem dX8_letter_41 : decode cX8_letter 41 = .ok (.invokestatic 210, 3) := by decide +kernel
theorem dX8_letter_44 : decode cX8_letter 44 = .ok (.if_icmp .lt 11, 3) := by decide +kernel
theorem dX8_letter_47 : decode cX8_letter 47 = .ok (.new 221, 3) := by decide +kernel
theorem dX8_letter_50 : decode cX8_letter 50 = .ok (.dup, 1) := by decide +kernel
theorem dX8_letter_51 : decode cX8_letter 51 = .ok (.invokespecial 223, 3) := by decide +kernel
theorem dX8_letter_54 : decode cX8_letter 54 = .ok (.athrow, 1) := by decide +kernel
theorem dX8_letter_55 : decode cX8_letter 55 = .ok (.lload 4, 2) := by decide +kernel
theorem dX8_letter_57 : decode cX8_letter 57 = .ok (.iload_n 3, 1) := by decide +kernel
theorem dX8_letter_58 : decode cX8_letter 58 = .ok (.invokestatic 224, 3) := by decide +kernel
theorem dX8_letter_61 : decode cX8_letter 61 = .ok (.ireturn, 1) := by decide +kernel
theorem dX8_spanAt_0 : decode cX8_spanAt 0 = .ok (.aload_n 0, 1) := by decide +kernel
theorem dX8_spanAt_1 : decode cX8_spanAt 1 = .ok (.getfield 10, 3) := by decide +kernel
theorem dX8_spanAt_4 : decode cX8_spanAt 4 = .ok (.iload_n 1, 1) := by decide +kernel
theorem dX8_spanAt_5 : decode cX8_spanAt 5 = .ok (.invokevirtual 89, 3) := by decide +kernel
theorem dX8_spanAt_8 : decode cX8_spanAt 8 = .ok (.ifCond .ne 11, 3) := by decide +kernel
theorem dX8_spanAt_11 : decode cX8_spanAt 11 = .ok (.new 93, 3) := by decide +kernel
theorem dX8_spanAt_14 : decode cX8_spanAt 14 = .ok (.dup, 1) := by decide +kernel
theorem dX8_spanAt_15 : decode cX8_spanAt 15 = .ok (.invokespecial 95, 3) := by decide +kernel
theorem dX8_spanAt_18 : decode cX8_spanAt 18 = .ok (.athrow, 1) := by decide +kernel
theorem dX8_spanAt_19 : decode cX8_spanAt 19 = .ok (.aload_n 0, 1) := by decide +kernel
theorem dX8_spanAt_20 : decode cX8_spanAt 20 = .ok (.getfield 10, 3) := by decide +kernel
theorem dX8_spanAt_23 : decode cX8_spanAt 23 = .ok (.iload_n 1, 1) := by decide +kernel
theorem dX8_spanAt_24 : decode cX8_spanAt 24 = .ok (.invokevirtual 126, 3) := by decide +kernel
theorem dX8_spanAt_27 : decode cX8_spanAt 27 = .ok (.iload_n 2, 1) := by decide +kernel
theorem dX8_spanAt_28 : decode cX8_spanAt 28 = .ok (.invokevirtual 228, 3) := by decide +kernel
theorem dX8_spanAt_31 : decode cX8_spanAt 31 = .ok (.ireturn, 1) := by decide +kernel
theorem dX8_refusal_0 : decode cX8_refusal 0 = .ok (.aload_n 0, 1) := by decide +kernel
theorem dX8_refusal_1 : decode cX8_refusal 1 = .ok (.getfield 39, 3) := by decide +kernel
theorem dX8_refusal_4 : decode cX8_refusal 4 = .ok (.getfield 231, 3) := by decide +kernel
theorem dX8_refusal_7 : decode cX8_refusal 7 = .ok (.ifCond .ne 11, 3) := by decide +kernel
theorem dX8_refusal_10 : decode cX8_refusal 10 = .ok (.new 221, 3) := by decide +kernel
theorem dX8_refusal_13 : decode cX8_refusal 13 = .ok (.dup, 1) := by decide +kernel
theorem dX8_refusal_14 : decode cX8_refusal 14 = .ok (.invokespecial 223, 3) := by decide +kernel
theorem dX8_refusal_17 : decode cX8_refusal 17 = .ok (.athrow, 1) := by decide +kernel
theorem dX8_refusal_18 : decode cX8_refusal 18 = .ok (.iload_n 1, 1) := by decide +kernel
theorem dX8_refusal_19 : decode cX8_refusal 19 = .ok (.ifCond .eq 13, 3) := by decide +kernel
theorem dX8_refusal_22 : decode cX8_refusal 22 = .ok (.aload_n 0, 1) := by decide +kernel
theorem dX8_refusal_23 : decode cX8_refusal 23 = .ok (.getfield 39, 3) := by decide +kernel
theorem dX8_refusal_26 : decode cX8_refusal 26 = .ok (.getfield 231, 3) := by decide +kernel
theorem dX8_refusal_29 : decode cX8_refusal 29 = .ok (.goto 10, 3) := by decide +kernel
theorem dX8_refusal_32 : decode cX8_refusal 32 = .ok (.aload_n 0, 1) := by decide +kernel
theorem dX8_refusal_33 : decode cX8_refusal 33 = .ok (.getfield 39, 3) := by decide +kernel
theorem dX8_refusal_36 : decode cX8_refusal 36 = .ok (.getfield 234, 3) := by decide +kernel
theorem dX8_refusal_39 : decode cX8_refusal 39 = .ok (.ireturn, 1) := by decide +kernel
theorem dX8_aligned_0 : decode cX8_aligned 0 = .ok (.aload_n 0, 1) := by decide +kernel
theorem dX8_aligned_1 : decode cX8_aligned 1 = .ok (.getfield 10, 3) := by decide +kernel
theorem dX8_aligned_4 : decode cX8_aligned 4 = .ok (.iload_n 2, 1) := by decide +kernel
theorem dX8_aligned_5 : decode cX8_aligned 5 = .ok (.invokevirtual 89, 3) := by decide +kernel
theorem dX8_aligned_8 : decode cX8_aligned 8 = .ok (.ifCond .eq 15, 3) := by decide +kernel
theorem dX8_aligned_11 : decode cX8_aligned 11 = .ok (.aload_n 0, 1) := by decide +kernel
theorem dX8_aligned_12 : decode cX8_aligned 12 = .ok (.getfield 10, 3) := by decide +kernel
theorem dX8_aligned_15 : decode cX8_aligned 15 = .ok (.iload_n 1, 1) := by decide +kernel
theorem dX8_aligned_16 : decode cX8_aligned 16 = .ok (.iload_n 3, 1) := by decide +kernel
theorem dX8_aligned_17 : decode cX8_aligned 17 = .ok (.invokevirtual 177, 3) := by decide +kernel
theorem dX8_aligned_20 : decode cX8_aligned 20 = .ok (.ifCond .ne 11, 3) := by decide +kernel
theorem dX8_aligned_23 : decode cX8_aligned 23 = .ok (.new 93, 3) := by decide +kernel
theorem dX8_aligned_26 : decode cX8_aligned 26 = .ok (.dup, 1) := by decide +kernel
theorem dX8_aligned_27 : decode cX8_aligned 27 = .ok (.invokespecial 95, 3) := by decide +kernel
theorem dX8_aligned_30 : decode cX8_aligned 30 = .ok (.athrow, 1) := by decide +kernel
theorem dX8_aligned_31 : decode cX8_aligned 31 = .ok (.aload_n 0, 1) := by decide +kernel
theorem dX8_aligned_32 : decode cX8_aligned 32 = .ok (.getfield 46, 3) := by decide +kernel
theorem dX8_aligned_35 : decode cX8_aligned 35 = .ok (.aload_n 0, 1) := by decide +kernel
theorem dX8_aligned_36 : decode cX8_aligned 36 = .ok (.getfield 10, 3) := by decide +kernel
theorem dX8_aligned_39 : decode cX8_aligned 39 = .ok (.iload_n 1, 1) := by decide +kernel
theorem dX8_aligned_40 : decode cX8_aligned 40 = .ok (.invokevirtual 126, 3) := by decide +kernel
theorem dX8_aligned_43 : decode cX8_aligned 43 = .ok (.aload_n 0, 1) := by decide +kernel
theorem dX8_aligned_44 : decode cX8_aligned 44 = .ok (.getfield 10, 3) := by decide +kernel
theorem dX8_aligned_47 : decode cX8_aligned 47 = .ok (.iload_n 2, 1) := by decide +kernel
theorem dX8_aligned_48 : decode cX8_aligned 48 = .ok (.invokevirtual 126, 3) := by decide +kernel
theorem dX8_aligned_51 : decode cX8_aligned 51 = .ok (.aload_n 0, 1) := by decide +kernel
theorem dX8_aligned_52 : decode cX8_aligned 52 = .ok (.getfield 10, 3) := by decide +kernel
theorem dX8_aligned_55 : decode cX8_aligned 55 = .ok (.getfield 110, 3) := by decide +kernel
theorem dX8_aligned_58 : decode cX8_aligned 58 = .ok (.invokevirtual 237, 3) := by decide +kernel
theorem dX8_aligned_61 : decode cX8_aligned 61 = .ok (.aload_n 0, 1) := by decide +kernel
theorem dX8_aligned_62 : decode cX8_aligned 62 = .ok (.getfield 46, 3) := by decide +kernel
theorem dX8_aligned_65 : decode cX8_aligned 65 = .ok (.iload_n 3, 1) := by decide +kernel
theorem dX8_aligned_66 : decode cX8_aligned 66 = .ok (.invokevirtual 241, 3) := by decide +kernel
theorem dX8_aligned_69 : decode cX8_aligned 69 = .ok (.ireturn, 1) := by decide +kernel
theorem dX8_alignment_0 : decode cX8_alignment 0 = .ok (.aload_n 0, 1) := by decide +kernel
theorem dX8_alignment_1 : decode cX8_alignment 1 = .ok (.getfield 10, 3) := by decide +kernel
theorem dX8_alignment_4 : decode cX8_alignment 4 = .ok (.iload_n 1, 1) := by decide +kernel
theorem dX8_alignment_5 : decode cX8_alignment 5 = .ok (.invokevirtual 89, 3) := by decide +kernel
theorem dX8_alignment_8 : decode cX8_alignment 8 = .ok (.ifCond .eq 14, 3) := by decide +kernel
theorem dX8_alignment_11 : decode cX8_alignment 11 = .ok (.aload_n 0, 1) := by decide +kernel
theorem dX8_alignment_12 : decode cX8_alignment 12 = .ok (.getfield 10, 3) := by decide +kernel
theorem dX8_alignment_15 : decode cX8_alignment 15 = .ok (.iload_n 2, 1) := by decide +kernel
theorem dX8_alignment_16 : decode cX8_alignment 16 = .ok (.invokevirtual 89, 3) := by decide +kernel
theorem dX8_alignment_19 : decode cX8_alignment 19 = .ok (.ifCond .ne 11, 3) := by decide +kernel
theorem dX8_alignment_22 : decode cX8_alignment 22 = .ok (.new 93, 3) := by decide +kernel
theorem dX8_alignment_25 : decode cX8_alignment 25 = .ok (.dup, 1) := by decide +kernel
theorem dX8_alignment_26 : decode cX8_alignment 26 = .ok (.invokespecial 95, 3) := by decide +kernel
theorem dX8_alignment_29 : decode cX8_alignment 29 = .ok (.athrow, 1) := by decide +kernel
theorem dX8_alignment_30 : decode cX8_alignment 30 = .ok (.aload_n 0, 1) := by decide +kernel
theorem dX8_alignment_31 : decode cX8_alignment 31 = .ok (.getfield 46, 3) := by decide +kernel
theorem dX8_alignment_34 : decode cX8_alignment 34 = .ok (.aload_n 0, 1) := by decide +kernel
theorem dX8_alignment_35 : decode cX8_alignment 35 = .ok (.getfield 10, 3) := by decide +kernel
theorem dX8_alignment_38 : decode cX8_alignment 38 = .ok (.iload_n 1, 1) := by decide +kernel
theorem dX8_alignment_39 : decode cX8_alignment 39 = .ok (.invokevirtual 126, 3) := by decide +kernel
theorem dX8_alignment_42 : decode cX8_alignment 42 = .ok (.aload_n 0, 1) := by decide +kernel
theorem dX8_alignment_43 : decode cX8_alignment 43 = .ok (.getfield 10, 3) := by decide +kernel
theorem dX8_alignment_46 : decode cX8_alignment 46 = .ok (.iload_n 2, 1) := by decide +kernel
theorem dX8_alignment_47 : decode cX8_alignment 47 = .ok (.invokevirtual 126, 3) := by decide +kernel
theorem dX8_alignment_50 : decode cX8_alignment 50 = .ok (.aload_n 0, 1) := by decide +kernel
theorem dX8_alignment_51 : decode cX8_alignment 51 = .ok (.getfield 10, 3) := by decide +kernel
theorem dX8_alignment_54 : decode cX8_alignment 54 = .ok (.getfield 110, 3) := by decide +kernel
theorem dX8_alignment_57 : decode cX8_alignment 57 = .ok (.invokevirtual 237, 3) := by decide +kernel
theorem dX8_alignment_60 : decode cX8_alignment 60 = .ok (.iload_n 3, 1) := by decide +kernel
theorem dX8_alignment_61 : decode cX8_alignment 61 = .ok (.ifCond .eq 13, 3) := by decide +kernel
theorem dX8_alignment_64 : decode cX8_alignment 64 = .ok (.aload_n 0, 1) := by decide +kernel
theorem dX8_alignment_65 : decode cX8_alignment 65 = .ok (.getfield 46, 3) := by decide +kernel
theorem dX8_alignment_68 : decode cX8_alignment 68 = .ok (.getfield 244, 3) := by decide +kernel
theorem dX8_alignment_71 : decode cX8_alignment 71 = .ok (.goto 10, 3) := by decide +kernel
theorem dX8_alignment_74 : decode cX8_alignment 74 = .ok (.aload_n 0, 1) := by decide +kernel
theorem dX8_alignment_75 : decode cX8_alignment 75 = .ok (.getfield 46, 3) := by decide +kernel
theorem dX8_alignment_78 : decode cX8_alignment 78 = .ok (.getfield 247, 3) := by decide +kernel
theorem dX8_alignment_81 : decode cX8_alignment 81 = .ok (.ireturn, 1) := by decide +kernel
theorem dX8_search_0 : decode cX8_search 0 = .ok (.aload_n 0, 1) := by decide +kernel
theorem dX8_search_1 : decode cX8_search 1 = .ok (.getfield 64, 3) := by decide +kernel
theorem dX8_search_4 : decode cX8_search 4 = .ok (.aload_n 0, 1) := by decide +kernel
theorem dX8_search_5 : decode cX8_search 5 = .ok (.getfield 32, 3) := by decide +kernel
theorem dX8_search_8 : decode cX8_search 8 = .ok (.aload_n 0, 1) := by decide +kernel
theorem dX8_search_9 : decode cX8_search 9 = .ok (.getfield 10, 3) := by decide +kernel
theorem dX8_search_12 : decode cX8_search 12 = .ok (.invokevirtual 250, 3) := by decide +kernel
theorem dX8_search_15 : decode cX8_search 15 = .ok (.istore_n 1, 1) := by decide +kernel
theorem dX8_search_16 : decode cX8_search 16 = .ok (.iload_n 1, 1) := by decide +kernel
theorem dX8_search_17 : decode cX8_search 17 = .ok (.ifCond .ne 14, 3) := by decide +kernel
theorem dX8_search_20 : decode cX8_search 20 = .ok (.aload_n 0, 1) := by decide +kernel
theorem dX8_search_21 : decode cX8_search 21 = .ok (.aload_n 0, 1) := by decide +kernel
theorem dX8_search_22 : decode cX8_search 22 = .ok (.getfield 32, 3) := by decide +kernel
theorem dX8_search_25 : decode cX8_search 25 = .ok (.getfield 254, 3) := by decide +kernel
theorem dX8_search_28 : decode cX8_search 28 = .ok (.putfield 67, 3) := by decide +kernel
theorem dX8_search_31 : decode cX8_search 31 = .ok (.aload_n 0, 1) := by decide +kernel
theorem dX8_search_32 : decode cX8_search 32 = .ok (.getfield 32, 3) := by decide +kernel
theorem dX8_search_35 : decode cX8_search 35 = .ok (.invokevirtual 257, 3) := by decide +kernel
theorem dX8_search_38 : decode cX8_search 38 = .ok (.iload_n 1, 1) := by decide +kernel
theorem dX8_search_39 : decode cX8_search 39 = .ok (.ifCond .ne 11, 3) := by decide +kernel
theorem dX8_search_42 : decode cX8_search 42 = .ok (.new 86, 3) := by decide +kernel
theorem dX8_search_45 : decode cX8_search 45 = .ok (.dup, 1) := by decide +kernel
theorem dX8_search_46 : decode cX8_search 46 = .ok (.invokespecial 88, 3) := by decide +kernel
theorem dX8_search_49 : decode cX8_search 49 = .ok (.athrow, 1) := by decide +kernel
theorem dX8_search_50 : decode cX8_search 50 = .ok (.aload_n 0, 1) := by decide +kernel
theorem dX8_search_51 : decode cX8_search 51 = .ok (.getfield 60, 3) := by decide +kernel
theorem dX8_search_54 : decode cX8_search 54 = .ok (.astore_n 2, 1) := by decide +kernel
theorem dX8_search_55 : decode cX8_search 55 = .ok (.aload_n 0, 1) := by decide +kernel
theorem dX8_search_56 : decode cX8_search 56 = .ok (.aload_n 0, 1) := by decide +kernel
theorem dX8_search_57 : decode cX8_search 57 = .ok (.getfield 64, 3) := by decide +kernel
theorem dX8_search_60 : decode cX8_search 60 = .ok (.putfield 60, 3) := by decide +kernel
theorem dX8_search_63 : decode cX8_search 63 = .ok (.aload_n 0, 1) := by decide +kernel
theorem dX8_search_64 : decode cX8_search 64 = .ok (.aload_n 2, 1) := by decide +kernel
theorem dX8_search_65 : decode cX8_search 65 = .ok (.putfield 64, 3) := by decide +kernel
theorem dX8_search_68 : decode cX8_search 68 = .ok (.aload_n 0, 1) := by decide +kernel
theorem dX8_search_69 : decode cX8_search 69 = .ok (.getfield 60, 3) := by decide +kernel
theorem dX8_search_72 : decode cX8_search 72 = .ok (.aload_n 0, 1) := by decide +kernel
theorem dX8_search_73 : decode cX8_search 73 = .ok (.getfield 10, 3) := by decide +kernel
theorem dX8_search_76 : decode cX8_search 76 = .ok (.invokevirtual 260, 3) := by decide +kernel
theorem dX8_search_79 : decode cX8_search 79 = .ok (.ireturn, 1) := by decide +kernel
theorem dX8_match_0 : decode cX8_match 0 = .ok (.aload_n 0, 1) := by decide +kernel
theorem dX8_match_1 : decode cX8_match 1 = .ok (.getfield 60, 3) := by decide +kernel
theorem dX8_match_4 : decode cX8_match 4 = .ok (.getfield 83, 3) := by decide +kernel
theorem dX8_match_7 : decode cX8_match 7 = .ok (.ifCond .ne 11, 3) := by decide +kernel
theorem dX8_match_10 : decode cX8_match 10 = .ok (.new 96, 3) := by decide +kernel
theorem dX8_match_13 : decode cX8_match 13 = .ok (.dup, 1) := by decide +kernel
theorem dX8_match_14 : decode cX8_match 14 = .ok (.invokespecial 98, 3) := by decide +kernel
theorem dX8_match_17 : decode cX8_match 17 = .ok (.athrow, 1) := by decide +kernel
theorem dX8_match_18 : decode cX8_match 18 = .ok (.iload_n 2, 1) := by decide +kernel
theorem dX8_match_19 : decode cX8_match 19 = .ok (.ifCond .lt 33, 3) := by decide +kernel
theorem dX8_match_22 : decode cX8_match 22 = .ok (.iload_n 2, 1) := by decide +kernel
theorem dX8_match_23 : decode cX8_match 23 = .ok (.aload_n 0, 1) := by decide +kernel
theorem dX8_match_24 : decode cX8_match 24 = .ok (.getfield 60, 3) := by decide +kernel
theorem dX8_match_27 : decode cX8_match 27 = .ok (.getfield 83, 3) := by decide +kernel
theorem dX8_match_30 : decode cX8_match 30 = .ok (.if_icmp .ge 22, 3) := by decide +kernel
theorem dX8_match_33 : decode cX8_match 33 = .ok (.iload_n 1, 1) := by decide +kernel
theorem dX8_match_34 : decode cX8_match 34 = .ok (.ifCond .lt 18, 3) := by decide +kernel
theorem dX8_match_37 : decode cX8_match 37 = .ok (.iload_n 1, 1) := by decide +kernel
theorem dX8_match_38 : decode cX8_match 38 = .ok (.aload_n 0, 1) := by decide +kernel
theorem dX8_match_39 : decode cX8_match 39 = .ok (.getfield 60, 3) := by decide +kernel
theorem dX8_match_42 : decode cX8_match 42 = .ok (.aload_n 0, 1) := by decide +kernel
theorem dX8_match_43 : decode cX8_match 43 = .ok (.getfield 10, 3) := by decide +kernel
theorem dX8_match_46 : decode cX8_match 46 = .ok (.invokevirtual 260, 3) := by decide +kernel
theorem dX8_match_49 : decode cX8_match 49 = .ok (.if_icmp .lt 11, 3) := by decide +kernel
theorem dX8_match_52 : decode cX8_match 52 = .ok (.new 221, 3) := by decide +kernel
theorem dX8_match_55 : decode cX8_match 55 = .ok (.dup, 1) := by decide +kernel
theorem dX8_match_56 : decode cX8_match 56 = .ok (.invokespecial 223, 3) := by decide +kernel
theorem dX8_match_59 : decode cX8_match 59 = .ok (.athrow, 1) := by decide +kernel
theorem dX8_match_60 : decode cX8_match 60 = .ok (.aload_n 0, 1) := by decide +kernel
theorem dX8_match_61 : decode cX8_match 61 = .ok (.getfield 60, 3) := by decide +kernel
theorem dX8_match_64 : decode cX8_match 64 = .ok (.aload_n 0, 1) := by decide +kernel
theorem dX8_match_65 : decode cX8_match 65 = .ok (.getfield 10, 3) := by decide +kernel
theorem dX8_match_68 : decode cX8_match 68 = .ok (.iload_n 1, 1) := by decide +kernel
theorem dX8_match_69 : decode cX8_match 69 = .ok (.iload_n 2, 1) := by decide +kernel
theorem dX8_match_70 : decode cX8_match 70 = .ok (.invokevirtual 264, 3) := by decide +kernel
theorem dX8_match_73 : decode cX8_match 73 = .ok (.ireturn, 1) := by decide +kernel
theorem dX8_merge_0 : decode cX8_merge 0 = .ok (.aload_n 0, 1) := by decide +kernel
theorem dX8_merge_1 : decode cX8_merge 1 = .ok (.getfield 10, 3) := by decide +kernel
theorem dX8_merge_4 : decode cX8_merge 4 = .ok (.iload_n 1, 1) := by decide +kernel
theorem dX8_merge_5 : decode cX8_merge 5 = .ok (.invokevirtual 89, 3) := by decide +kernel
theorem dX8_merge_8 : decode cX8_merge 8 = .ok (.ifCond .ne 11, 3) := by decide +kernel
theorem dX8_merge_11 : decode cX8_merge 11 = .ok (.new 93, 3) := by decide +kernel
theorem dX8_merge_14 : decode cX8_merge 14 = .ok (.dup, 1) := by decide +kernel
theorem dX8_merge_15 : decode cX8_merge 15 = .ok (.invokespecial 95, 3) := by decide +kernel
theorem dX8_merge_18 : decode cX8_merge 18 = .ok (.athrow, 1) := by decide +kernel
theorem dX8_merge_19 : decode cX8_merge 19 = .ok (.aload_n 0, 1) := by decide +kernel
theorem dX8_merge_20 : decode cX8_merge 20 = .ok (.getfield 53, 3) := by decide +kernel
theorem dX8_merge_23 : decode cX8_merge 23 = .ok (.aload_n 0, 1) := by decide +kernel
theorem dX8_merge_24 : decode cX8_merge 24 = .ok (.getfield 10, 3) := by decide +kernel
theorem dX8_merge_27 : decode cX8_merge 27 = .ok (.iconst 0, 1) := by decide +kernel
theorem dX8_merge_28 : decode cX8_merge 28 = .ok (.iload_n 1, 1) := by decide +kernel
theorem dX8_merge_29 : decode cX8_merge 29 = .ok (.invokevirtual 139, 3) := by decide +kernel
theorem dX8_merge_32 : decode cX8_merge 32 = .ok (.aload_n 0, 1) := by decide +kernel
theorem dX8_merge_33 : decode cX8_merge 33 = .ok (.getfield 10, 3) := by decide +kernel
theorem dX8_merge_36 : decode cX8_merge 36 = .ok (.iconst 1, 1) := by decide +kernel
theorem dX8_merge_37 : decode cX8_merge 37 = .ok (.iload_n 1, 1) := by decide +kernel
theorem dX8_merge_38 : decode cX8_merge 38 = .ok (.invokevirtual 139, 3) := by decide +kernel
theorem dX8_merge_41 : decode cX8_merge 41 = .ok (.invokevirtual 268, 3) := by decide +kernel
theorem dX8_merge_44 : decode cX8_merge 44 = .ok (.iload_n 2, 1) := by decide +kernel
theorem dX8_merge_45 : decode cX8_merge 45 = .ok (.tableswitch 75 0 4 #[35, 43, 51, 59, 67], 35) := by decide +kernel
theorem dX8_merge_80 : decode cX8_merge 80 = .ok (.aload_n 0, 1) := by decide +kernel
theorem dX8_merge_81 : decode cX8_merge 81 = .ok (.getfield 53, 3) := by decide +kernel
theorem dX8_merge_84 : decode cX8_merge 84 = .ok (.getfield 271, 3) := by decide +kernel
theorem dX8_merge_87 : decode cX8_merge 87 = .ok (.ireturn, 1) := by decide +kernel
theorem dX8_merge_88 : decode cX8_merge 88 = .ok (.aload_n 0, 1) := by decide +kernel
theorem dX8_merge_89 : decode cX8_merge 89 = .ok (.getfield 53, 3) := by decide +kernel
theorem dX8_merge_92 : decode cX8_merge 92 = .ok (.getfield 272, 3) := by decide +kernel
theorem dX8_merge_95 : decode cX8_merge 95 = .ok (.ireturn, 1) := by decide +kernel
theorem dX8_merge_96 : decode cX8_merge 96 = .ok (.aload_n 0, 1) := by decide +kernel
theorem dX8_merge_97 : decode cX8_merge 97 = .ok (.getfield 53, 3) := by decide +kernel
theorem dX8_merge_100 : decode cX8_merge 100 = .ok (.getfield 275, 3) := by decide +kernel
theorem dX8_merge_103 : decode cX8_merge 103 = .ok (.ireturn, 1) := by decide +kernel
theorem dX8_merge_104 : decode cX8_merge 104 = .ok (.aload_n 0, 1) := by decide +kernel
theorem dX8_merge_105 : decode cX8_merge 105 = .ok (.getfield 53, 3) := by decide +kernel
theorem dX8_merge_108 : decode cX8_merge 108 = .ok (.invokevirtual 278, 3) := by decide +kernel
theorem dX8_merge_111 : decode cX8_merge 111 = .ok (.ireturn, 1) := by decide +kernel
theorem dX8_merge_112 : decode cX8_merge 112 = .ok (.aload_n 0, 1) := by decide +kernel
theorem dX8_merge_113 : decode cX8_merge 113 = .ok (.getfield 53, 3) := by decide +kernel
theorem dX8_merge_116 : decode cX8_merge 116 = .ok (.invokevirtual 281, 3) := by decide +kernel
theorem dX8_merge_119 : decode cX8_merge 119 = .ok (.ireturn, 1) := by decide +kernel
theorem dX8_merge_120 : decode cX8_merge 120 = .ok (.new 86, 3) := by decide +kernel
theorem dX8_merge_123 : decode cX8_merge 123 = .ok (.dup, 1) := by decide +kernel
theorem dX8_merge_124 : decode cX8_merge 124 = .ok (.invokespecial 88, 3) := by decide +kernel
theorem dX8_merge_127 : decode cX8_merge 127 = .ok (.athrow, 1) := by decide +kernel
theorem dX8_merged_0 : decode cX8_merged 0 = .ok (.aload_n 0, 1) := by decide +kernel
theorem dX8_merged_1 : decode cX8_merged 1 = .ok (.getfield 10, 3) := by decide +kernel
theorem dX8_merged_4 : decode cX8_merged 4 = .ok (.iload_n 1, 1) := by decide +kernel
theorem dX8_merged_5 : decode cX8_merged 5 = .ok (.invokevirtual 89, 3) := by decide +kernel
theorem dX8_merged_8 : decode cX8_merged 8 = .ok (.ifCond .ne 11, 3) := by decide +kernel
theorem dX8_merged_11 : decode cX8_merged 11 = .ok (.new 93, 3) := by decide +kernel
theorem dX8_merged_14 : decode cX8_merged 14 = .ok (.dup, 1) := by decide +kernel
theorem dX8_merged_15 : decode cX8_merged 15 = .ok (.invokespecial 95, 3) := by decide +kernel
theorem dX8_merged_18 : decode cX8_merged 18 = .ok (.athrow, 1) := by decide +kernel
theorem dX8_merged_19 : decode cX8_merged 19 = .ok (.aload_n 0, 1) := by decide +kernel
theorem dX8_merged_20 : decode cX8_merged 20 = .ok (.getfield 53, 3) := by decide +kernel
theorem dX8_merged_23 : decode cX8_merged 23 = .ok (.aload_n 0, 1) := by decide +kernel
theorem dX8_merged_24 : decode cX8_merged 24 = .ok (.getfield 10, 3) := by decide +kernel
theorem dX8_merged_27 : decode cX8_merged 27 = .ok (.iconst 0, 1) := by decide +kernel
theorem dX8_merged_28 : decode cX8_merged 28 = .ok (.iload_n 1, 1) := by decide +kernel
theorem dX8_merged_29 : decode cX8_merged 29 = .ok (.invokevirtual 139, 3) := by decide +kernel
theorem dX8_merged_32 : decode cX8_merged 32 = .ok (.aload_n 0, 1) := by decide +kernel
theorem dX8_merged_33 : decode cX8_merged 33 = .ok (.getfield 10, 3) := by decide +kernel
theorem dX8_merged_36 : decode cX8_merged 36 = .ok (.iconst 1, 1) := by decide +kernel
theorem dX8_merged_37 : decode cX8_merged 37 = .ok (.iload_n 1, 1) := by decide +kernel
theorem dX8_merged_38 : decode cX8_merged 38 = .ok (.invokevirtual 139, 3) := by decide +kernel
theorem dX8_merged_41 : decode cX8_merged 41 = .ok (.invokevirtual 268, 3) := by decide +kernel
theorem dX8_merged_44 : decode cX8_merged 44 = .ok (.aload_n 0, 1) := by decide +kernel
theorem dX8_merged_45 : decode cX8_merged 45 = .ok (.getfield 53, 3) := by decide +kernel
theorem dX8_merged_48 : decode cX8_merged 48 = .ok (.iload_n 2, 1) := by decide +kernel
theorem dX8_merged_49 : decode cX8_merged 49 = .ok (.invokevirtual 282, 3) := by decide +kernel
theorem dX8_merged_52 : decode cX8_merged 52 = .ok (.ifCond .ne 11, 3) := by decide +kernel
theorem dX8_merged_55 : decode cX8_merged 55 = .ok (.new 221, 3) := by decide +kernel
theorem dX8_merged_58 : decode cX8_merged 58 = .ok (.dup, 1) := by decide +kernel
theorem dX8_merged_59 : decode cX8_merged 59 = .ok (.invokespecial 223, 3) := by decide +kernel
theorem dX8_merged_62 : decode cX8_merged 62 = .ok (.athrow, 1) := by decide +kernel
theorem dX8_merged_63 : decode cX8_merged 63 = .ok (.iload_n 3, 1) := by decide +kernel
theorem dX8_merged_64 : decode cX8_merged 64 = .ok (.tableswitch 71 0 3 #[32, 41, 50, 59], 32) := by decide +kernel
theorem dX8_merged_96 : decode cX8_merged 96 = .ok (.aload_n 0, 1) := by decide +kernel
theorem dX8_merged_97 : decode cX8_merged 97 = .ok (.getfield 53, 3) := by decide +kernel
theorem dX8_merged_100 : decode cX8_merged 100 = .ok (.iload_n 2, 1) := by decide +kernel
theorem dX8_merged_101 : decode cX8_merged 101 = .ok (.invokevirtual 285, 3) := by decide +kernel
theorem dX8_merged_104 : decode cX8_merged 104 = .ok (.ireturn, 1) := by decide +kernel
theorem dX8_merged_105 : decode cX8_merged 105 = .ok (.aload_n 0, 1) := by decide +kernel
theorem dX8_merged_106 : decode cX8_merged 106 = .ok (.getfield 53, 3) := by decide +kernel
theorem dX8_merged_109 : decode cX8_merged 109 = .ok (.iload_n 2, 1) := by decide +kernel
theorem dX8_merged_110 : decode cX8_merged 110 = .ok (.invokevirtual 286, 3) := by decide +kernel
theorem dX8_merged_113 : decode cX8_merged 113 = .ok (.ireturn, 1) := by decide +kernel
theorem dX8_merged_114 : decode cX8_merged 114 = .ok (.aload_n 0, 1) := by decide +kernel
theorem dX8_merged_115 : decode cX8_merged 115 = .ok (.getfield 53, 3) := by decide +kernel
theorem dX8_merged_118 : decode cX8_merged 118 = .ok (.iload_n 2, 1) := by decide +kernel
theorem dX8_merged_119 : decode cX8_merged 119 = .ok (.invokevirtual 287, 3) := by decide +kernel
theorem dX8_merged_122 : decode cX8_merged 122 = .ok (.ireturn, 1) := by decide +kernel
theorem dX8_merged_123 : decode cX8_merged 123 = .ok (.aload_n 0, 1) := by decide +kernel
theorem dX8_merged_124 : decode cX8_merged 124 = .ok (.getfield 53, 3) := by decide +kernel
theorem dX8_merged_127 : decode cX8_merged 127 = .ok (.iload_n 2, 1) := by decide +kernel
theorem dX8_merged_128 : decode cX8_merged 128 = .ok (.invokevirtual 290, 3) := by decide +kernel
theorem dX8_merged_131 : decode cX8_merged 131 = .ok (.invokestatic 210, 3) := by decide +kernel
theorem dX8_merged_134 : decode cX8_merged 134 = .ok (.ireturn, 1) := by decide +kernel
theorem dX8_merged_135 : decode cX8_merged 135 = .ok (.new 86, 3) := by decide +kernel
theorem dX8_merged_138 : decode cX8_merged 138 = .ok (.dup, 1) := by decide +kernel
theorem dX8_merged_139 : decode cX8_merged 139 = .ok (.invokespecial 88, 3) := by decide +kernel
theorem dX8_merged_142 : decode cX8_merged 142 = .ok (.athrow, 1) := by decide +kernel
theorem dX8_frames_0 : decode cX8_frames 0 = .ok (.aload_n 0, 1) := by decide +kernel
theorem dX8_frames_1 : decode cX8_frames 1 = .ok (.getfield 10, 3) := by decide +kernel
theorem dX8_frames_4 : decode cX8_frames 4 = .ok (.iload_n 1, 1) := by decide +kernel
theorem dX8_frames_5 : decode cX8_frames 5 = .ok (.invokevirtual 89, 3) := by decide +kernel
theorem dX8_frames_8 : decode cX8_frames 8 = .ok (.ifCond .ne 11, 3) := by decide +kernel
theorem dX8_frames_11 : decode cX8_frames 11 = .ok (.new 93, 3) := by decide +kernel
theorem dX8_frames_14 : decode cX8_frames 14 = .ok (.dup, 1) := by decide +kernel
theorem dX8_frames_15 : decode cX8_frames 15 = .ok (.invokespecial 95, 3) := by decide +kernel
theorem dX8_frames_18 : decode cX8_frames 18 = .ok (.athrow, 1) := by decide +kernel
theorem dX8_frames_19 : decode cX8_frames 19 = .ok (.aload_n 0, 1) := by decide +kernel
theorem dX8_frames_20 : decode cX8_frames 20 = .ok (.getfield 10, 3) := by decide +kernel
theorem dX8_frames_23 : decode cX8_frames 23 = .ok (.iconst 0, 1) := by decide +kernel
theorem dX8_frames_24 : decode cX8_frames 24 = .ok (.iload_n 1, 1) := by decide +kernel
theorem dX8_frames_25 : decode cX8_frames 25 = .ok (.invokevirtual 139, 3) := by decide +kernel
theorem dX8_frames_28 : decode cX8_frames 28 = .ok (.astore_n 3, 1) := by decide +kernel
theorem dX8_frames_29 : decode cX8_frames 29 = .ok (.aload_n 0, 1) := by decide +kernel
theorem dX8_frames_30 : decode cX8_frames 30 = .ok (.getfield 10, 3) := by decide +kernel
theorem dX8_frames_33 : decode cX8_frames 33 = .ok (.iconst 1, 1) := by decide +kernel
theorem dX8_frames_34 : decode cX8_frames 34 = .ok (.iload_n 1, 1) := by decide +kernel
theorem dX8_frames_35 : decode cX8_frames 35 = .ok (.invokevirtual 139, 3) := by decide +kernel
theorem dX8_frames_38 : decode cX8_frames 38 = .ok (.astore 4, 2) := by decide +kernel
theorem dX8_frames_40 : decode cX8_frames 40 = .ok (.iload_n 2, 1) := by decide +kernel
theorem dX8_frames_41 : decode cX8_frames 41 = .ok (.tableswitch 69 0 4 #[35, 40, 46, 54, 62], 35) := by decide +kernel
theorem dX8_frames_76 : decode cX8_frames 76 = .ok (.aload_n 3, 1) := by decide +kernel
theorem dX8_frames_77 : decode cX8_frames 77 = .ok (.invokevirtual 135, 3) := by decide +kernel
theorem dX8_frames_80 : decode cX8_frames 80 = .ok (.ireturn, 1) := by decide +kernel
theorem dX8_frames_81 : decode cX8_frames 81 = .ok (.aload 4, 2) := by decide +kernel
theorem dX8_frames_83 : decode cX8_frames 83 = .ok (.invokevirtual 135, 3) := by decide +kernel
theorem dX8_frames_86 : decode cX8_frames 86 = .ok (.ireturn, 1) := by decide +kernel
theorem dX8_frames_87 : decode cX8_frames 87 = .ok (.aload_n 3, 1) := by decide +kernel
theorem dX8_frames_88 : decode cX8_frames 88 = .ok (.aload 4, 2) := by decide +kernel
theorem dX8_frames_90 : decode cX8_frames 90 = .ok (.iconst 1, 1) := by decide +kernel
theorem dX8_frames_91 : decode cX8_frames 91 = .ok (.invokevirtual 291, 3) := by decide +kernel
theorem dX8_frames_94 : decode cX8_frames 94 = .ok (.ireturn, 1) := by decide +kernel
theorem dX8_frames_95 : decode cX8_frames 95 = .ok (.aload_n 3, 1) := by decide +kernel
theorem dX8_frames_96 : decode cX8_frames 96 = .ok (.aload 4, 2) := by decide +kernel
theorem dX8_frames_98 : decode cX8_frames 98 = .ok (.iconst 0, 1) := by decide +kernel
theorem dX8_frames_99 : decode cX8_frames 99 = .ok (.invokevirtual 291, 3) := by decide +kernel
theorem dX8_frames_102 : decode cX8_frames 102 = .ok (.ireturn, 1) := by decide +kernel
theorem dX8_frames_103 : decode cX8_frames 103 = .ok (.aload_n 3, 1) := by decide +kernel
theorem dX8_frames_104 : decode cX8_frames 104 = .ok (.aload 4, 2) := by decide +kernel
theorem dX8_frames_106 : decode cX8_frames 106 = .ok (.invokevirtual 295, 3) := by decide +kernel
theorem dX8_frames_109 : decode cX8_frames 109 = .ok (.ireturn, 1) := by decide +kernel
theorem dX8_frames_110 : decode cX8_frames 110 = .ok (.new 86, 3) := by decide +kernel
theorem dX8_frames_113 : decode cX8_frames 113 = .ok (.dup, 1) := by decide +kernel
theorem dX8_frames_114 : decode cX8_frames 114 = .ok (.invokespecial 88, 3) := by decide +kernel
theorem dX8_frames_117 : decode cX8_frames 117 = .ok (.athrow, 1) := by decide +kernel
theorem dX8_agreement_0 : decode cX8_agreement 0 = .ok (.aload_n 0, 1) := by decide +kernel
theorem dX8_agreement_1 : decode cX8_agreement 1 = .ok (.getfield 10, 3) := by decide +kernel
theorem dX8_agreement_4 : decode cX8_agreement 4 = .ok (.iload_n 1, 1) := by decide +kernel
theorem dX8_agreement_5 : decode cX8_agreement 5 = .ok (.invokevirtual 89, 3) := by decide +kernel
theorem dX8_agreement_8 : decode cX8_agreement 8 = .ok (.ifCond .ne 11, 3) := by decide +kernel
theorem dX8_agreement_11 : decode cX8_agreement 11 = .ok (.new 93, 3) := by decide +kernel
theorem dX8_agreement_14 : decode cX8_agreement 14 = .ok (.dup, 1) := by decide +kernel
theorem dX8_agreement_15 : decode cX8_agreement 15 = .ok (.invokespecial 95, 3) := by decide +kernel
theorem dX8_agreement_18 : decode cX8_agreement 18 = .ok (.athrow, 1) := by decide +kernel
theorem dX8_agreement_19 : decode cX8_agreement 19 = .ok (.aload_n 0, 1) := by decide +kernel
theorem dX8_agreement_20 : decode cX8_agreement 20 = .ok (.getfield 10, 3) := by decide +kernel
theorem dX8_agreement_23 : decode cX8_agreement 23 = .ok (.iconst 0, 1) := by decide +kernel
theorem dX8_agreement_24 : decode cX8_agreement 24 = .ok (.iload_n 1, 1) := by decide +kernel
theorem dX8_agreement_25 : decode cX8_agreement 25 = .ok (.invokevirtual 139, 3) := by decide +kernel
theorem dX8_agreement_28 : decode cX8_agreement 28 = .ok (.astore_n 2, 1) := by decide +kernel
theorem dX8_agreement_29 : decode cX8_agreement 29 = .ok (.aload_n 0, 1) := by decide +kernel
theorem dX8_agreement_30 : decode cX8_agreement 30 = .ok (.getfield 10, 3) := by decide +kernel
theorem dX8_agreement_33 : decode cX8_agreement 33 = .ok (.iconst 1, 1) := by decide +kernel
theorem dX8_agreement_34 : decode cX8_agreement 34 = .ok (.iload_n 1, 1) := by decide +kernel
theorem dX8_agreement_35 : decode cX8_agreement 35 = .ok (.invokevirtual 139, 3) := by decide +kernel
theorem dX8_agreement_38 : decode cX8_agreement 38 = .ok (.astore_n 3, 1) := by decide +kernel
theorem dX8_agreement_39 : decode cX8_agreement 39 = .ok (.aload_n 2, 1) := by decide +kernel
theorem dX8_agreement_40 : decode cX8_agreement 40 = .ok (.aload_n 3, 1) := by decide +kernel
theorem dX8_agreement_41 : decode cX8_agreement 41 = .ok (.invokevirtual 295, 3) := by decide +kernel
theorem dX8_agreement_44 : decode cX8_agreement 44 = .ok (.istore 4, 2) := by decide +kernel
theorem dX8_agreement_46 : decode cX8_agreement 46 = .ok (.iload 4, 2) := by decide +kernel
theorem dX8_agreement_48 : decode cX8_agreement 48 = .ok (.ifCond .ne 11, 3) := by decide +kernel
theorem dX8_agreement_51 : decode cX8_agreement 51 = .ok (.new 299, 3) := by decide +kernel
theorem dX8_agreement_54 : decode cX8_agreement 54 = .ok (.dup, 1) := by decide +kernel
theorem dX8_agreement_55 : decode cX8_agreement 55 = .ok (.invokespecial 301, 3) := by decide +kernel
theorem dX8_agreement_58 : decode cX8_agreement 58 = .ok (.athrow, 1) := by decide +kernel
theorem dX8_agreement_59 : decode cX8_agreement 59 = .ok (.aload_n 2, 1) := by decide +kernel
theorem dX8_agreement_60 : decode cX8_agreement 60 = .ok (.aload_n 3, 1) := by decide +kernel
theorem dX8_agreement_61 : decode cX8_agreement 61 = .ok (.iconst 1, 1) := by decide +kernel
theorem dX8_agreement_62 : decode cX8_agreement 62 = .ok (.invokevirtual 291, 3) := by decide +kernel
theorem dX8_agreement_65 : decode cX8_agreement 65 = .ok (.i2f, 1) := by decide +kernel
theorem dX8_agreement_66 : decode cX8_agreement 66 = .ok (.iload 4, 2) := by decide +kernel
theorem dX8_agreement_68 : decode cX8_agreement 68 = .ok (.i2f, 1) := by decide +kernel
theorem dX8_agreement_69 : decode cX8_agreement 69 = .ok (.fdiv, 1) := by decide +kernel
theorem dX8_agreement_70 : decode cX8_agreement 70 = .ok (.freturn, 1) := by decide +kernel
theorem dX8_kappa_0 : decode cX8_kappa 0 = .ok (.aload_n 0, 1) := by decide +kernel
theorem dX8_kappa_1 : decode cX8_kappa 1 = .ok (.getfield 10, 3) := by decide +kernel
theorem dX8_kappa_4 : decode cX8_kappa 4 = .ok (.iload_n 1, 1) := by decide +kernel
theorem dX8_kappa_5 : decode cX8_kappa 5 = .ok (.invokevirtual 89, 3) := by decide +kernel
theorem dX8_kappa_8 : decode cX8_kappa 8 = .ok (.ifCond .ne 11, 3) := by decide +kernel
theorem dX8_kappa_11 : decode cX8_kappa 11 = .ok (.new 93, 3) := by decide +kernel
theorem dX8_kappa_14 : decode cX8_kappa 14 = .ok (.dup, 1) := by decide +kernel
theorem dX8_kappa_15 : decode cX8_kappa 15 = .ok (.invokespecial 95, 3) := by decide +kernel
theorem dX8_kappa_18 : decode cX8_kappa 18 = .ok (.athrow, 1) := by decide +kernel
theorem dX8_kappa_19 : decode cX8_kappa 19 = .ok (.aload_n 0, 1) := by decide +kernel
theorem dX8_kappa_20 : decode cX8_kappa 20 = .ok (.getfield 10, 3) := by decide +kernel
theorem dX8_kappa_23 : decode cX8_kappa 23 = .ok (.iconst 0, 1) := by decide +kernel
theorem dX8_kappa_24 : decode cX8_kappa 24 = .ok (.iload_n 1, 1) := by decide +kernel
theorem dX8_kappa_25 : decode cX8_kappa 25 = .ok (.invokevirtual 139, 3) := by decide +kernel
theorem dX8_kappa_28 : decode cX8_kappa 28 = .ok (.astore_n 2, 1) := by decide +kernel
theorem dX8_kappa_29 : decode cX8_kappa 29 = .ok (.aload_n 0, 1) := by decide +kernel
theorem dX8_kappa_30 : decode cX8_kappa 30 = .ok (.getfield 10, 3) := by decide +kernel
theorem dX8_kappa_33 : decode cX8_kappa 33 = .ok (.iconst 1, 1) := by decide +kernel
theorem dX8_kappa_34 : decode cX8_kappa 34 = .ok (.iload_n 1, 1) := by decide +kernel
theorem dX8_kappa_35 : decode cX8_kappa 35 = .ok (.invokevirtual 139, 3) := by decide +kernel
theorem dX8_kappa_38 : decode cX8_kappa 38 = .ok (.astore_n 3, 1) := by decide +kernel
theorem dX8_kappa_39 : decode cX8_kappa 39 = .ok (.aload_n 2, 1) := by decide +kernel
theorem dX8_kappa_40 : decode cX8_kappa 40 = .ok (.aload_n 3, 1) := by decide +kernel
theorem dX8_kappa_41 : decode cX8_kappa 41 = .ok (.iconst 1, 1) := by decide +kernel
theorem dX8_kappa_42 : decode cX8_kappa 42 = .ok (.invokevirtual 291, 3) := by decide +kernel
theorem dX8_kappa_45 : decode cX8_kappa 45 = .ok (.sipush 1000, 3) := by decide +kernel
theorem dX8_kappa_48 : decode cX8_kappa 48 = .ok (.iadd, 1) := by decide +kernel
theorem dX8_kappa_49 : decode cX8_kappa 49 = .ok (.aload_n 2, 1) := by decide +kernel
theorem dX8_kappa_50 : decode cX8_kappa 50 = .ok (.aload_n 3, 1) := by decide +kernel
theorem dX8_kappa_51 : decode cX8_kappa 51 = .ok (.invokevirtual 295, 3) := by decide +kernel
theorem dX8_kappa_54 : decode cX8_kappa 54 = .ok (.isub, 1) := by decide +kernel
theorem dX8_kappa_55 : decode cX8_kappa 55 = .ok (.istore 4, 2) := by decide +kernel
theorem dX8_kappa_57 : decode cX8_kappa 57 = .ok (.aload_n 2, 1) := by decide +kernel
theorem dX8_kappa_58 : decode cX8_kappa 58 = .ok (.aload_n 3, 1) := by decide +kernel
theorem dX8_kappa_59 : decode cX8_kappa 59 = .ok (.invokevirtual 302, 3) := by decide +kernel
theorem dX8_kappa_62 : decode cX8_kappa 62 = .ok (.sipush 1000, 3) := by decide +kernel
theorem dX8_kappa_65 : decode cX8_kappa 65 = .ok (.aload_n 2, 1) := by decide +kernel
theorem dX8_kappa_66 : decode cX8_kappa 66 = .ok (.invokevirtual 135, 3) := by decide +kernel
theorem dX8_kappa_69 : decode cX8_kappa 69 = .ok (.isub, 1) := by decide +kernel
theorem dX8_kappa_70 : decode cX8_kappa 70 = .ok (.sipush 1000, 3) := by decide +kernel
theorem dX8_kappa_73 : decode cX8_kappa 73 = .ok (.aload_n 3, 1) := by decide +kernel
theorem dX8_kappa_74 : decode cX8_kappa 74 = .ok (.invokevirtual 135, 3) := by decide +kernel
theorem dX8_kappa_77 : decode cX8_kappa 77 = .ok (.isub, 1) := by decide +kernel
theorem dX8_kappa_78 : decode cX8_kappa 78 = .ok (.imul, 1) := by decide +kernel
theorem dX8_kappa_79 : decode cX8_kappa 79 = .ok (.iadd, 1) := by decide +kernel
theorem dX8_kappa_80 : decode cX8_kappa 80 = .ok (.istore 5, 2) := by decide +kernel
theorem dX8_kappa_82 : decode cX8_kappa 82 = .ok (.iload 4, 2) := by decide +kernel
theorem dX8_kappa_84 : decode cX8_kappa 84 = .ok (.i2d, 1) := by decide +kernel
theorem dX8_kappa_85 : decode cX8_kappa 85 = .ok (.ldc2_w 305, 3) := by decide +kernel
theorem dX8_kappa_88 : decode cX8_kappa 88 = .ok (.ddiv, 1) := by decide +kernel
theorem dX8_kappa_89 : decode cX8_kappa 89 = .ok (.dstore 6, 2) := by decide +kernel
theorem dX8_kappa_91 : decode cX8_kappa 91 = .ok (.iload 5, 2) := by decide +kernel
theorem dX8_kappa_93 : decode cX8_kappa 93 = .ok (.i2d, 1) := by decide +kernel
theorem dX8_kappa_94 : decode cX8_kappa 94 = .ok (.ldc2_w 307, 3) := by decide +kernel
theorem dX8_kappa_97 : decode cX8_kappa 97 = .ok (.ddiv, 1) := by decide +kernel
theorem dX8_kappa_98 : decode cX8_kappa 98 = .ok (.dstore 8, 2) := by decide +kernel
theorem dX8_kappa_100 : decode cX8_kappa 100 = .ok (.dload 8, 2) := by decide +kernel
theorem dX8_kappa_102 : decode cX8_kappa 102 = .ok (.dconst 1, 1) := by decide +kernel
theorem dX8_kappa_103 : decode cX8_kappa 103 = .ok (.dcmp .l, 1) := by decide +kernel
theorem dX8_kappa_104 : decode cX8_kappa 104 = .ok (.ifCond .ne 11, 3) := by decide +kernel
theorem dX8_kappa_107 : decode cX8_kappa 107 = .ok (.new 299, 3) := by decide +kernel
theorem dX8_kappa_110 : decode cX8_kappa 110 = .ok (.dup, 1) := by decide +kernel
theorem dX8_kappa_111 : decode cX8_kappa 111 = .ok (.invokespecial 301, 3) := by decide +kernel
theorem dX8_kappa_114 : decode cX8_kappa 114 = .ok (.athrow, 1) := by decide +kernel
theorem dX8_kappa_115 : decode cX8_kappa 115 = .ok (.dload 6, 2) := by decide +kernel
theorem dX8_kappa_117 : decode cX8_kappa 117 = .ok (.dload 8, 2) := by decide +kernel
theorem dX8_kappa_119 : decode cX8_kappa 119 = .ok (.dsub, 1) := by decide +kernel
theorem dX8_kappa_120 : decode cX8_kappa 120 = .ok (.dconst 1, 1) := by decide +kernel
theorem dX8_kappa_121 : decode cX8_kappa 121 = .ok (.dload 8, 2) := by decide +kernel
theorem dX8_kappa_123 : decode cX8_kappa 123 = .ok (.dsub, 1) := by decide +kernel
theorem dX8_kappa_124 : decode cX8_kappa 124 = .ok (.ddiv, 1) := by decide +kernel
theorem dX8_kappa_125 : decode cX8_kappa 125 = .ok (.dreturn, 1) := by decide +kernel
theorem dX8_isConsistent_0 : decode cX8_isConsistent 0 = .ok (.iconst 0, 1) := by decide +kernel
theorem dX8_isConsistent_1 : decode cX8_isConsistent 1 = .ok (.istore_n 1, 1) := by decide +kernel
theorem dX8_isConsistent_2 : decode cX8_isConsistent 2 = .ok (.iload_n 1, 1) := by decide +kernel
theorem dX8_isConsistent_3 : decode cX8_isConsistent 3 = .ok (.iconst 2, 1) := by decide +kernel
theorem dX8_isConsistent_4 : decode cX8_isConsistent 4 = .ok (.if_icmp .ge 70, 3) := by decide +kernel
theorem dX8_isConsistent_7 : decode cX8_isConsistent 7 = .ok (.iconst 0, 1) := by decide +kernel
theorem dX8_isConsistent_8 : decode cX8_isConsistent 8 = .ok (.istore_n 2, 1) := by decide +kernel
theorem dX8_isConsistent_9 : decode cX8_isConsistent 9 = .ok (.iload_n 2, 1) := by decide +kernel
theorem dX8_isConsistent_10 : decode cX8_isConsistent 10 = .ok (.aload_n 0, 1) := by decide +kernel
theorem dX8_isConsistent_11 : decode cX8_isConsistent 11 = .ok (.getfield 10, 3) := by decide +kernel
theorem dX8_isConsistent_14 : decode cX8_isConsistent 14 = .ok (.getfield 74, 3) := by decide +kernel
theorem dX8_isConsistent_17 : decode cX8_isConsistent 17 = .ok (.if_icmp .ge 51, 3) := by decide +kernel
theorem dX8_isConsistent_20 : decode cX8_isConsistent 20 = .ok (.aload_n 0, 1) := by decide +kernel
theorem dX8_isConsistent_21 : decode cX8_isConsistent 21 = .ok (.getfield 10, 3) := by decide +kernel
theorem dX8_isConsistent_24 : decode cX8_isConsistent 24 = .ok (.iload_n 1, 1) := by decide +kernel
theorem dX8_isConsistent_25 : decode cX8_isConsistent 25 = .ok (.iload_n 2, 1) := by decide +kernel
theorem dX8_isConsistent_26 : decode cX8_isConsistent 26 = .ok (.invokevirtual 139, 3) := by decide +kernel
theorem dX8_isConsistent_29 : decode cX8_isConsistent 29 = .ok (.astore_n 3, 1) := by decide +kernel
theorem dX8_isConsistent_30 : decode cX8_isConsistent 30 = .ok (.aload_n 3, 1) := by decide +kernel
theorem dX8_isConsistent_31 : decode cX8_isConsistent 31 = .ok (.invokevirtual 309, 3) := by decide +kernel
theorem dX8_isConsistent_34 : decode cX8_isConsistent 34 = .ok (.ifCond .eq 26, 3) := by decide +kernel
theorem dX8_isConsistent_37 : decode cX8_isConsistent 37 = .ok (.aload_n 3, 1) := by decide +kernel
theorem dX8_isConsistent_38 : decode cX8_isConsistent 38 = .ok (.invokevirtual 313, 3) := by decide +kernel
theorem dX8_isConsistent_41 : decode cX8_isConsistent 41 = .ok (.aload_n 3, 1) := by decide +kernel
theorem dX8_isConsistent_42 : decode cX8_isConsistent 42 = .ok (.invokevirtual 135, 3) := by decide +kernel
theorem dX8_isConsistent_45 : decode cX8_isConsistent 45 = .ok (.if_icmp .ne 15, 3) := by decide +kernel
theorem dX8_isConsistent_48 : decode cX8_isConsistent 48 = .ok (.aload_n 0, 1) := by decide +kernel
theorem dX8_isConsistent_49 : decode cX8_isConsistent 49 = .ok (.getfield 10, 3) := by decide +kernel
theorem dX8_isConsistent_52 : decode cX8_isConsistent 52 = .ok (.iload_n 1, 1) := by decide +kernel
theorem dX8_isConsistent_53 : decode cX8_isConsistent 53 = .ok (.iload_n 2, 1) := by decide +kernel
theorem dX8_isConsistent_54 : decode cX8_isConsistent 54 = .ok (.invokevirtual 316, 3) := by decide +kernel
theorem dX8_isConsistent_57 : decode cX8_isConsistent 57 = .ok (.ifCond .eq 5, 3) := by decide +kernel
theorem dX8_isConsistent_60 : decode cX8_isConsistent 60 = .ok (.iconst 0, 1) := by decide +kernel
theorem dX8_isConsistent_61 : decode cX8_isConsistent 61 = .ok (.ireturn, 1) := by decide +kernel
theorem dX8_isConsistent_62 : decode cX8_isConsistent 62 = .ok (.iinc 2 1, 3) := by decide +kernel
theorem dX8_isConsistent_65 : decode cX8_isConsistent 65 = .ok (.goto (-56), 3) := by decide +kernel
theorem dX8_isConsistent_68 : decode cX8_isConsistent 68 = .ok (.iinc 1 1, 3) := by decide +kernel
theorem dX8_isConsistent_71 : decode cX8_isConsistent 71 = .ok (.goto (-69), 3) := by decide +kernel
theorem dX8_isConsistent_74 : decode cX8_isConsistent 74 = .ok (.iconst 1, 1) := by decide +kernel
theorem dX8_isConsistent_75 : decode cX8_isConsistent 75 = .ok (.ireturn, 1) := by decide +kernel
theorem dX8_read_0 : decode cX8_read 0 = .ok (.aload_n 0, 1) := by decide +kernel
theorem dX8_read_1 : decode cX8_read 1 = .ok (.getfield 32, 3) := by decide +kernel
theorem dX8_read_4 : decode cX8_read 4 = .ok (.aload_n 0, 1) := by decide +kernel
theorem dX8_read_5 : decode cX8_read 5 = .ok (.getfield 10, 3) := by decide +kernel
theorem dX8_read_8 : decode cX8_read 8 = .ok (.invokevirtual 319, 3) := by decide +kernel
theorem dX8_read_11 : decode cX8_read 11 = .ok (.istore_n 1, 1) := by decide +kernel
theorem dX8_read_12 : decode cX8_read 12 = .ok (.iload_n 1, 1) := by decide +kernel
theorem dX8_read_13 : decode cX8_read 13 = .ok (.ifCond .ne 29, 3) := by decide +kernel
theorem dX8_read_16 : decode cX8_read 16 = .ok (.aload_n 0, 1) := by decide +kernel
theorem dX8_read_17 : decode cX8_read 17 = .ok (.aload_n 0, 1) := by decide +kernel
theorem dX8_read_18 : decode cX8_read 18 = .ok (.getfield 32, 3) := by decide +kernel
theorem dX8_read_21 : decode cX8_read 21 = .ok (.getfield 254, 3) := by decide +kernel
theorem dX8_read_24 : decode cX8_read 24 = .ok (.putfield 67, 3) := by decide +kernel
theorem dX8_read_27 : decode cX8_read 27 = .ok (.aload_n 0, 1) := by decide +kernel
theorem dX8_read_28 : decode cX8_read 28 = .ok (.getfield 32, 3) := by decide +kernel
theorem dX8_read_31 : decode cX8_read 31 = .ok (.invokevirtual 257, 3) := by decide +kernel
theorem dX8_read_34 : decode cX8_read 34 = .ok (.new 86, 3) := by decide +kernel
theorem dX8_read_37 : decode cX8_read 37 = .ok (.dup, 1) := by decide +kernel
theorem dX8_read_38 : decode cX8_read 38 = .ok (.invokespecial 88, 3) := by decide +kernel
theorem dX8_read_41 : decode cX8_read 41 = .ok (.athrow, 1) := by decide +kernel
theorem dX8_read_42 : decode cX8_read 42 = .ok (.aload_n 0, 1) := by decide +kernel
theorem dX8_read_43 : decode cX8_read 43 = .ok (.getfield 16, 3) := by decide +kernel
theorem dX8_read_46 : decode cX8_read 46 = .ok (.aload_n 0, 1) := by decide +kernel
theorem dX8_read_47 : decode cX8_read 47 = .ok (.getfield 10, 3) := by decide +kernel
theorem dX8_read_50 : decode cX8_read 50 = .ok (.invokevirtual 164, 3) := by decide +kernel
theorem dX8_read_53 : decode cX8_read 53 = .ok (.aload_n 0, 1) := by decide +kernel
theorem dX8_read_54 : decode cX8_read 54 = .ok (.iload_n 1, 1) := by decide +kernel
theorem dX8_read_55 : decode cX8_read 55 = .ok (.invokevirtual 322, 3) := by decide +kernel
theorem dX8_read_58 : decode cX8_read 58 = .ok (.istore_n 2, 1) := by decide +kernel
theorem dX8_read_59 : decode cX8_read 59 = .ok (.aload_n 0, 1) := by decide +kernel
theorem dX8_read_60 : decode cX8_read 60 = .ok (.getfield 32, 3) := by decide +kernel
theorem dX8_read_63 : decode cX8_read 63 = .ok (.invokevirtual 257, 3) := by decide +kernel
theorem dX8_read_66 : decode cX8_read 66 = .ok (.iload_n 2, 1) := by decide +kernel
theorem dX8_read_67 : decode cX8_read 67 = .ok (.iload_n 1, 1) := by decide +kernel
theorem dX8_read_68 : decode cX8_read 68 = .ok (.if_icmp .ge 16, 3) := by decide +kernel
theorem dX8_read_71 : decode cX8_read 71 = .ok (.aload_n 0, 1) := by decide +kernel
theorem dX8_read_72 : decode cX8_read 72 = .ok (.iload_n 2, 1) := by decide +kernel
theorem dX8_read_73 : decode cX8_read 73 = .ok (.putfield 71, 3) := by decide +kernel
theorem dX8_read_76 : decode cX8_read 76 = .ok (.new 171, 3) := by decide +kernel
theorem dX8_read_79 : decode cX8_read 79 = .ok (.dup, 1) := by decide +kernel
theorem dX8_read_80 : decode cX8_read 80 = .ok (.invokespecial 173, 3) := by decide +kernel
theorem dX8_read_83 : decode cX8_read 83 = .ok (.athrow, 1) := by decide +kernel
theorem dX8_read_84 : decode cX8_read 84 = .ok (.aload_n 0, 1) := by decide +kernel
theorem dX8_read_85 : decode cX8_read 85 = .ok (.invokevirtual 174, 3) := by decide +kernel
theorem dX8_read_88 : decode cX8_read 88 = .ok (.iload_n 1, 1) := by decide +kernel
theorem dX8_read_89 : decode cX8_read 89 = .ok (.ireturn, 1) := by decide +kernel
theorem dX8_errorPosition_0 : decode cX8_errorPosition 0 = .ok (.aload_n 0, 1) := by decide +kernel
theorem dX8_errorPosition_1 : decode cX8_errorPosition 1 = .ok (.getfield 67, 3) := by decide +kernel
theorem dX8_errorPosition_4 : decode cX8_errorPosition 4 = .ok (.ifCond .ge 11, 3) := by decide +kernel
theorem dX8_errorPosition_7 : decode cX8_errorPosition 7 = .ok (.new 221, 3) := by decide +kernel
theorem dX8_errorPosition_10 : decode cX8_errorPosition 10 = .ok (.dup, 1) := by decide +kernel
theorem dX8_errorPosition_11 : decode cX8_errorPosition 11 = .ok (.invokespecial 223, 3) := by decide +kernel
theorem dX8_errorPosition_14 : decode cX8_errorPosition 14 = .ok (.athrow, 1) := by decide +kernel
theorem dX8_errorPosition_15 : decode cX8_errorPosition 15 = .ok (.aload_n 0, 1) := by decide +kernel
theorem dX8_errorPosition_16 : decode cX8_errorPosition 16 = .ok (.getfield 67, 3) := by decide +kernel
theorem dX8_errorPosition_19 : decode cX8_errorPosition 19 = .ok (.ireturn, 1) := by decide +kernel
theorem dX8_refusedItem_0 : decode cX8_refusedItem 0 = .ok (.aload_n 0, 1) := by decide +kernel
theorem dX8_refusedItem_1 : decode cX8_refusedItem 1 = .ok (.getfield 71, 3) := by decide +kernel
theorem dX8_refusedItem_4 : decode cX8_refusedItem 4 = .ok (.ifCond .ge 11, 3) := by decide +kernel
theorem dX8_refusedItem_7 : decode cX8_refusedItem 7 = .ok (.new 221, 3) := by decide +kernel
theorem dX8_refusedItem_10 : decode cX8_refusedItem 10 = .ok (.dup, 1) := by decide +kernel
theorem dX8_refusedItem_11 : decode cX8_refusedItem 11 = .ok (.invokespecial 223, 3) := by decide +kernel
theorem dX8_refusedItem_14 : decode cX8_refusedItem 14 = .ok (.athrow, 1) := by decide +kernel
theorem dX8_refusedItem_15 : decode cX8_refusedItem 15 = .ok (.aload_n 0, 1) := by decide +kernel
theorem dX8_refusedItem_16 : decode cX8_refusedItem 16 = .ok (.getfield 71, 3) := by decide +kernel
theorem dX8_refusedItem_19 : decode cX8_refusedItem 19 = .ok (.ireturn, 1) := by decide +kernel
theorem dX8_undo_0 : decode cX8_undo 0 = .ok (.aload_n 0, 1) := by decide +kernel
theorem dX8_undo_1 : decode cX8_undo 1 = .ok (.getfield 25, 3) := by decide +kernel
theorem dX8_undo_4 : decode cX8_undo 4 = .ok (.getfield 155, 3) := by decide +kernel
theorem dX8_undo_7 : decode cX8_undo 7 = .ok (.ifCond .ne 11, 3) := by decide +kernel
theorem dX8_undo_10 : decode cX8_undo 10 = .ok (.new 96, 3) := by decide +kernel
theorem dX8_undo_13 : decode cX8_undo 13 = .ok (.dup, 1) := by decide +kernel
theorem dX8_undo_14 : decode cX8_undo 14 = .ok (.invokespecial 98, 3) := by decide +kernel
theorem dX8_undo_17 : decode cX8_undo 17 = .ok (.athrow, 1) := by decide +kernel
theorem dX8_undo_18 : decode cX8_undo 18 = .ok (.aload_n 0, 1) := by decide +kernel
theorem dX8_undo_19 : decode cX8_undo 19 = .ok (.getfield 25, 3) := by decide +kernel
theorem dX8_undo_22 : decode cX8_undo 22 = .ok (.aload_n 0, 1) := by decide +kernel
theorem dX8_undo_23 : decode cX8_undo 23 = .ok (.getfield 10, 3) := by decide +kernel
theorem dX8_undo_26 : decode cX8_undo 26 = .ok (.invokevirtual 325, 3) := by decide +kernel
theorem dX8_undo_29 : decode cX8_undo 29 = .ok (.aload_n 0, 1) := by decide +kernel
theorem dX8_undo_30 : decode cX8_undo 30 = .ok (.getfield 25, 3) := by decide +kernel
theorem dX8_undo_33 : decode cX8_undo 33 = .ok (.getfield 155, 3) := by decide +kernel
theorem dX8_undo_36 : decode cX8_undo 36 = .ok (.ireturn, 1) := by decide +kernel
theorem dX8_snapshot_0 : decode cX8_snapshot 0 = .ok (.aload_n 0, 1) := by decide +kernel
theorem dX8_snapshot_1 : decode cX8_snapshot 1 = .ok (.getfield 19, 3) := by decide +kernel
theorem dX8_snapshot_4 : decode cX8_snapshot 4 = .ok (.aload_n 0, 1) := by decide +kernel
theorem dX8_snapshot_5 : decode cX8_snapshot 5 = .ok (.getfield 10, 3) := by decide +kernel
theorem dX8_snapshot_8 : decode cX8_snapshot 8 = .ok (.invokevirtual 164, 3) := by decide +kernel
theorem dX8_snapshot_11 : decode cX8_snapshot 11 = .ok (.aload_n 0, 1) := by decide +kernel
theorem dX8_snapshot_12 : decode cX8_snapshot 12 = .ok (.iconst 1, 1) := by decide +kernel
theorem dX8_snapshot_13 : decode cX8_snapshot 13 = .ok (.putfield 328, 3) := by decide +kernel
theorem dX8_snapshot_16 : decode cX8_snapshot 16 = .ok (.aload_n 0, 1) := by decide +kernel
theorem dX8_snapshot_17 : decode cX8_snapshot 17 = .ok (.getfield 10, 3) := by decide +kernel
theorem dX8_snapshot_20 : decode cX8_snapshot 20 = .ok (.getfield 74, 3) := by decide +kernel
theorem dX8_snapshot_23 : decode cX8_snapshot 23 = .ok (.ireturn, 1) := by decide +kernel
theorem dX8_restore_0 : decode cX8_restore 0 = .ok (.aload_n 0, 1) := by decide +kernel
theorem dX8_restore_1 : decode cX8_restore 1 = .ok (.getfield 328, 3) := by decide +kernel
theorem dX8_restore_4 : decode cX8_restore 4 = .ok (.ifCond .ne 11, 3) := by decide +kernel
theorem dX8_restore_7 : decode cX8_restore 7 = .ok (.new 96, 3) := by decide +kernel
theorem dX8_restore_10 : decode cX8_restore 10 = .ok (.dup, 1) := by decide +kernel
theorem dX8_restore_11 : decode cX8_restore 11 = .ok (.invokespecial 98, 3) := by decide +kernel
theorem dX8_restore_14 : decode cX8_restore 14 = .ok (.athrow, 1) := by decide +kernel
theorem dX8_restore_15 : decode cX8_restore 15 = .ok (.aload_n 0, 1) := by decide +kernel
theorem dX8_restore_16 : decode cX8_restore 16 = .ok (.getfield 10, 3) := by decide +kernel
theorem dX8_restore_19 : decode cX8_restore 19 = .ok (.aload_n 0, 1) := by decide +kernel
theorem dX8_restore_20 : decode cX8_restore 20 = .ok (.getfield 19, 3) := by decide +kernel
theorem dX8_restore_23 : decode cX8_restore 23 = .ok (.invokevirtual 164, 3) := by decide +kernel
theorem dX8_restore_26 : decode cX8_restore 26 = .ok (.aload_n 0, 1) := by decide +kernel
theorem dX8_restore_27 : decode cX8_restore 27 = .ok (.getfield 25, 3) := by decide +kernel
theorem dX8_restore_30 : decode cX8_restore 30 = .ok (.invokevirtual 80, 3) := by decide +kernel
theorem dX8_restore_33 : decode cX8_restore 33 = .ok (.aload_n 0, 1) := by decide +kernel
theorem dX8_restore_34 : decode cX8_restore 34 = .ok (.getfield 10, 3) := by decide +kernel
theorem dX8_restore_37 : decode cX8_restore 37 = .ok (.getfield 74, 3) := by decide +kernel
theorem dX8_restore_40 : decode cX8_restore 40 = .ok (.ireturn, 1) := by decide +kernel
theorem dX8_keepDraft_0 : decode cX8_keepDraft 0 = .ok (.aload_n 0, 1) := by decide +kernel
theorem dX8_keepDraft_1 : decode cX8_keepDraft 1 = .ok (.getfield 25, 3) := by decide +kernel
theorem dX8_keepDraft_4 : decode cX8_keepDraft 4 = .ok (.aload_n 0, 1) := by decide +kernel
theorem dX8_keepDraft_5 : decode cX8_keepDraft 5 = .ok (.getfield 10, 3) := by decide +kernel
theorem dX8_keepDraft_8 : decode cX8_keepDraft 8 = .ok (.invokevirtual 99, 3) := by decide +kernel
theorem dX8_keepDraft_11 : decode cX8_keepDraft 11 = .ok (.aload_n 0, 1) := by decide +kernel
theorem dX8_keepDraft_12 : decode cX8_keepDraft 12 = .ok (.getfield 10, 3) := by decide +kernel
theorem dX8_keepDraft_15 : decode cX8_keepDraft 15 = .ok (.aload_n 0, 1) := by decide +kernel
theorem dX8_keepDraft_16 : decode cX8_keepDraft 16 = .ok (.getfield 16, 3) := by decide +kernel
theorem dX8_keepDraft_19 : decode cX8_keepDraft 19 = .ok (.invokevirtual 164, 3) := by decide +kernel
theorem dX8_keepDraft_22 : decode cX8_keepDraft 22 = .ok (.return_, 1) := by decide +kernel
theorem dX8_takeLabel_0 : decode cX8_takeLabel 0 = .ok (.aload_n 0, 1) := by decide +kernel
theorem dX8_takeLabel_1 : decode cX8_takeLabel 1 = .ok (.getfield 32, 3) := by decide +kernel
theorem dX8_takeLabel_4 : decode cX8_takeLabel 4 = .ok (.invokevirtual 332, 3) := by decide +kernel
theorem dX8_takeLabel_7 : decode cX8_takeLabel 7 = .ok (.aload_n 0, 1) := by decide +kernel
theorem dX8_takeLabel_8 : decode cX8_takeLabel 8 = .ok (.getfield 32, 3) := by decide +kernel
theorem dX8_takeLabel_11 : decode cX8_takeLabel 11 = .ok (.iload_n 1, 1) := by decide +kernel
theorem dX8_takeLabel_12 : decode cX8_takeLabel 12 = .ok (.invokevirtual 335, 3) := by decide +kernel
theorem dX8_takeLabel_15 : decode cX8_takeLabel 15 = .ok (.lstore_n 2, 1) := by decide +kernel
theorem dX8_takeLabel_16 : decode cX8_takeLabel 16 = .ok (.lload_n 2, 1) := by decide +kernel
theorem dX8_takeLabel_17 : decode cX8_takeLabel 17 = .ok (.lconst 0, 1) := by decide +kernel
theorem dX8_takeLabel_18 : decode cX8_takeLabel 18 = .ok (.lcmp, 1) := by decide +kernel
theorem dX8_takeLabel_19 : decode cX8_takeLabel 19 = .ok (.ifCond .eq 17, 3) := by decide +kernel
theorem dX8_takeLabel_22 : decode cX8_takeLabel 22 = .ok (.aload_n 0, 1) := by decide +kernel
theorem dX8_takeLabel_23 : decode cX8_takeLabel 23 = .ok (.getfield 32, 3) := by decide +kernel
theorem dX8_takeLabel_26 : decode cX8_takeLabel 26 = .ok (.invokevirtual 338, 3) := by decide +kernel
theorem dX8_takeLabel_29 : decode cX8_takeLabel 29 = .ok (.ifCond .eq 7, 3) := by decide +kernel
theorem dX8_takeLabel_32 : decode cX8_takeLabel 32 = .ok (.iconst 1, 1) := by decide +kernel
theorem dX8_takeLabel_33 : decode cX8_takeLabel 33 = .ok (.goto 4, 3) := by decide +kernel
theorem dX8_takeLabel_36 : decode cX8_takeLabel 36 = .ok (.iconst 0, 1) := by decide +kernel
theorem dX8_takeLabel_37 : decode cX8_takeLabel 37 = .ok (.istore 4, 2) := by decide +kernel
theorem dX8_takeLabel_39 : decode cX8_takeLabel 39 = .ok (.iload 4, 2) := by decide +kernel
theorem dX8_takeLabel_41 : decode cX8_takeLabel 41 = .ok (.ifCond .ne 14, 3) := by decide +kernel
theorem dX8_takeLabel_44 : decode cX8_takeLabel 44 = .ok (.aload_n 0, 1) := by decide +kernel
theorem dX8_takeLabel_45 : decode cX8_takeLabel 45 = .ok (.aload_n 0, 1) := by decide +kernel
theorem dX8_takeLabel_46 : decode cX8_takeLabel 46 = .ok (.getfield 32, 3) := by decide +kernel
theorem dX8_takeLabel_49 : decode cX8_takeLabel 49 = .ok (.getfield 254, 3) := by decide +kernel
theorem dX8_takeLabel_52 : decode cX8_takeLabel 52 = .ok (.putfield 67, 3) := by decide +kernel
theorem dX8_takeLabel_55 : decode cX8_takeLabel 55 = .ok (.aload_n 0, 1) := by decide +kernel
theorem dX8_takeLabel_56 : decode cX8_takeLabel 56 = .ok (.getfield 32, 3) := by decide +kernel
theorem dX8_takeLabel_59 : decode cX8_takeLabel 59 = .ok (.invokevirtual 257, 3) := by decide +kernel
theorem dX8_takeLabel_62 : decode cX8_takeLabel 62 = .ok (.iload 4, 2) := by decide +kernel
theorem dX8_takeLabel_64 : decode cX8_takeLabel 64 = .ok (.ifCond .eq 7, 3) := by decide +kernel
theorem dX8_takeLabel_67 : decode cX8_takeLabel 67 = .ok (.lload_n 2, 1) := by decide +kernel
theorem dX8_takeLabel_68 : decode cX8_takeLabel 68 = .ok (.goto 4, 3) := by decide +kernel
theorem dX8_takeLabel_71 : decode cX8_takeLabel 71 = .ok (.lconst 0, 1) := by decide +kernel
theorem dX8_takeLabel_72 : decode cX8_takeLabel 72 = .ok (.lreturn, 1) := by decide +kernel
theorem dX8_addItems_0 : decode cX8_addItems 0 = .ok (.aload_n 0, 1) := by decide +kernel
theorem dX8_addItems_1 : decode cX8_addItems 1 = .ok (.getfield 32, 3) := by decide +kernel
theorem dX8_addItems_4 : decode cX8_addItems 4 = .ok (.invokevirtual 332, 3) := by decide +kernel
theorem dX8_addItems_7 : decode cX8_addItems 7 = .ok (.iconst 0, 1) := by decide +kernel
theorem dX8_addItems_8 : decode cX8_addItems 8 = .ok (.istore_n 2, 1) := by decide +kernel
theorem dX8_addItems_9 : decode cX8_addItems 9 = .ok (.iload_n 2, 1) := by decide +kernel
theorem dX8_addItems_10 : decode cX8_addItems 10 = .ok (.iload_n 1, 1) := by decide +kernel
theorem dX8_addItems_11 : decode cX8_addItems 11 = .ok (.if_icmp .ge 75, 3) := by decide +kernel
theorem dX8_addItems_14 : decode cX8_addItems 14 = .ok (.aload_n 0, 1) := by decide +kernel
theorem dX8_addItems_15 : decode cX8_addItems 15 = .ok (.getfield 32, 3) := by decide +kernel
theorem dX8_addItems_18 : decode cX8_addItems 18 = .ok (.aload_n 0, 1) := by decide +kernel
theorem dX8_addItems_19 : decode cX8_addItems 19 = .ok (.getfield 16, 3) := by decide +kernel
theorem dX8_addItems_22 : decode cX8_addItems 22 = .ok (.invokevirtual 341, 3) := by decide +kernel
theorem dX8_addItems_25 : decode cX8_addItems 25 = .ok (.pop, 1) := by decide +kernel
theorem dX8_addItems_26 : decode cX8_addItems 26 = .ok (.aload_n 0, 1) := by decide +kernel
theorem dX8_addItems_27 : decode cX8_addItems 27 = .ok (.getfield 16, 3) := by decide +kernel
theorem dX8_addItems_30 : decode cX8_addItems 30 = .ok (.aload_n 0, 1) := by decide +kernel
theorem dX8_addItems_31 : decode cX8_addItems 31 = .ok (.getfield 32, 3) := by decide +kernel
theorem dX8_addItems_34 : decode cX8_addItems 34 = .ok (.getfield 345, 3) := by decide +kernel
theorem dX8_addItems_37 : decode cX8_addItems 37 = .ok (.aload_n 0, 1) := by decide +kernel
theorem dX8_addItems_38 : decode cX8_addItems 38 = .ok (.getfield 32, 3) := by decide +kernel
theorem dX8_addItems_41 : decode cX8_addItems 41 = .ok (.getfield 348, 3) := by decide +kernel
theorem dX8_addItems_44 : decode cX8_addItems 44 = .ok (.aload_n 0, 1) := by decide +kernel
theorem dX8_addItems_45 : decode cX8_addItems 45 = .ok (.getfield 32, 3) := by decide +kernel
theorem dX8_addItems_48 : decode cX8_addItems 48 = .ok (.getfield 351, 3) := by decide +kernel
theorem dX8_addItems_51 : decode cX8_addItems 51 = .ok (.aload_n 0, 1) := by decide +kernel
theorem dX8_addItems_52 : decode cX8_addItems 52 = .ok (.getfield 32, 3) := by decide +kernel
theorem dX8_addItems_55 : decode cX8_addItems 55 = .ok (.getfield 354, 3) := by decide +kernel
theorem dX8_addItems_58 : decode cX8_addItems 58 = .ok (.aload_n 0, 1) := by decide +kernel
theorem dX8_addItems_59 : decode cX8_addItems 59 = .ok (.getfield 39, 3) := by decide +kernel
theorem dX8_addItems_62 : decode cX8_addItems 62 = .ok (.invokevirtual 167, 3) := by decide +kernel
theorem dX8_addItems_65 : decode cX8_addItems 65 = .ok (.ifCond .ge 5, 3) := by decide +kernel
theorem dX8_addItems_68 : decode cX8_addItems 68 = .ok (.iload_n 2, 1) := by decide +kernel
theorem dX8_addItems_69 : decode cX8_addItems 69 = .ok (.ireturn, 1) := by decide +kernel
theorem dX8_addItems_70 : decode cX8_addItems 70 = .ok (.aload_n 0, 1) := by decide +kernel
theorem dX8_addItems_71 : decode cX8_addItems 71 = .ok (.getfield 32, 3) := by decide +kernel
theorem dX8_addItems_74 : decode cX8_addItems 74 = .ok (.bipush 59, 2) := by decide +kernel
theorem dX8_addItems_76 : decode cX8_addItems 76 = .ok (.invokevirtual 358, 3) := by decide +kernel
theorem dX8_addItems_79 : decode cX8_addItems 79 = .ok (.pop, 1) := by decide +kernel
theorem dX8_addItems_80 : decode cX8_addItems 80 = .ok (.iinc 2 1, 3) := by decide +kernel
theorem dX8_addItems_83 : decode cX8_addItems 83 = .ok (.goto (-74), 3) := by decide +kernel
theorem dX8_addItems_86 : decode cX8_addItems 86 = .ok (.iload_n 1, 1) := by decide +kernel
theorem dX8_addItems_87 : decode cX8_addItems 87 = .ok (.ireturn, 1) := by decide +kernel
theorem dX8_withLetter_0 : decode cX8_withLetter 0 = .ok (.lload_n 0, 1) := by decide +kernel
theorem dX8_withLetter_1 : decode cX8_withLetter 1 = .ok (.iload_n 3, 1) := by decide +kernel
theorem dX8_withLetter_2 : decode cX8_withLetter 2 = .ok (.i2l, 1) := by decide +kernel
theorem dX8_withLetter_3 : decode cX8_withLetter 3 = .ok (.bipush 8, 2) := by decide +kernel
theorem dX8_withLetter_5 : decode cX8_withLetter 5 = .ok (.iload_n 2, 1) := by decide +kernel
theorem dX8_withLetter_6 : decode cX8_withLetter 6 = .ok (.imul, 1) := by decide +kernel
theorem dX8_withLetter_7 : decode cX8_withLetter 7 = .ok (.lshl, 1) := by decide +kernel
theorem dX8_withLetter_8 : decode cX8_withLetter 8 = .ok (.lor, 1) := by decide +kernel
theorem dX8_withLetter_9 : decode cX8_withLetter 9 = .ok (.lreturn, 1) := by decide +kernel
theorem dX8_labelLength_0 : decode cX8_labelLength 0 = .ok (.iconst 0, 1) := by decide +kernel
theorem dX8_labelLength_1 : decode cX8_labelLength 1 = .ok (.istore_n 2, 1) := by decide +kernel
theorem dX8_labelLength_2 : decode cX8_labelLength 2 = .ok (.iconst 0, 1) := by decide +kernel
theorem dX8_labelLength_3 : decode cX8_labelLength 3 = .ok (.istore_n 3, 1) := by decide +kernel
theorem dX8_labelLength_4 : decode cX8_labelLength 4 = .ok (.iload_n 3, 1) := by decide +kernel
theorem dX8_labelLength_5 : decode cX8_labelLength 5 = .ok (.bipush 8, 2) := by decide +kernel
theorem dX8_labelLength_7 : decode cX8_labelLength 7 = .ok (.if_icmp .ge 25, 3) := by decide +kernel
theorem dX8_labelLength_10 : decode cX8_labelLength 10 = .ok (.iload_n 2, 1) := by decide +kernel
theorem dX8_labelLength_11 : decode cX8_labelLength 11 = .ok (.lload_n 0, 1) := by decide +kernel
theorem dX8_labelLength_12 : decode cX8_labelLength 12 = .ok (.iload_n 3, 1) := by decide +kernel
theorem dX8_labelLength_13 : decode cX8_labelLength 13 = .ok (.invokestatic 224, 3) := by decide +kernel
theorem dX8_labelLength_16 : decode cX8_labelLength 16 = .ok (.ifCond .eq 7, 3) := by decide +kernel
theorem dX8_labelLength_19 : decode cX8_labelLength 19 = .ok (.iconst 1, 1) := by decide +kernel
theorem dX8_labelLength_20 : decode cX8_labelLength 20 = .ok (.goto 4, 3) := by decide +kernel
theorem dX8_labelLength_23 : decode cX8_labelLength 23 = .ok (.iconst 0, 1) := by decide +kernel
theorem dX8_labelLength_24 : decode cX8_labelLength 24 = .ok (.iadd, 1) := by decide +kernel
theorem dX8_labelLength_25 : decode cX8_labelLength 25 = .ok (.istore_n 2, 1) := by decide +kernel
theorem dX8_labelLength_26 : decode cX8_labelLength 26 = .ok (.iinc 3 1, 3) := by decide +kernel
theorem dX8_labelLength_29 : decode cX8_labelLength 29 = .ok (.goto (-25), 3) := by decide +kernel
theorem dX8_labelLength_32 : decode cX8_labelLength 32 = .ok (.iload_n 2, 1) := by decide +kernel
theorem dX8_labelLength_33 : decode cX8_labelLength 33 = .ok (.ireturn, 1) := by decide +kernel
theorem dX8_labelLetter_0 : decode cX8_labelLetter 0 = .ok (.lload_n 0, 1) := by decide +kernel
theorem dX8_labelLetter_1 : decode cX8_labelLetter 1 = .ok (.bipush 8, 2) := by decide +kernel
theorem dX8_labelLetter_3 : decode cX8_labelLetter 3 = .ok (.iload_n 2, 1) := by decide +kernel
theorem dX8_labelLetter_4 : decode cX8_labelLetter 4 = .ok (.imul, 1) := by decide +kernel
theorem dX8_labelLetter_5 : decode cX8_labelLetter 5 = .ok (.lushr, 1) := by decide +kernel
theorem dX8_labelLetter_6 : decode cX8_labelLetter 6 = .ok (.ldc2_w 362, 3) := by decide +kernel
theorem dX8_labelLetter_9 : decode cX8_labelLetter 9 = .ok (.land, 1) := by decide +kernel
theorem dX8_labelLetter_10 : decode cX8_labelLetter 10 = .ok (.l2i, 1) := by decide +kernel
theorem dX8_labelLetter_11 : decode cX8_labelLetter 11 = .ok (.i2c, 1) := by decide +kernel
theorem dX8_labelLetter_12 : decode cX8_labelLetter 12 = .ok (.ireturn, 1) := by decide +kernel
theorem dX9_init_0 : decode cX9_init 0 = .ok (.aload_n 0, 1) := by decide +kernel
theorem dX9_init_1 : decode cX9_init 1 = .ok (.invokespecial 3, 3) := by decide +kernel
theorem dX9_init_4 : decode cX9_init 4 = .ok (.aload_n 0, 1) := by decide +kernel
theorem dX9_init_5 : decode cX9_init 5 = .ok (.sipush 1114, 3) := by decide +kernel
theorem dX9_init_8 : decode cX9_init 8 = .ok (.newarray .long, 2) := by decide +kernel
theorem dX9_init_10 : decode cX9_init 10 = .ok (.putfield 9, 3) := by decide +kernel
theorem dX9_init_13 : decode cX9_init 13 = .ok (.aload_n 0, 1) := by decide +kernel
theorem dX9_init_14 : decode cX9_init 14 = .ok (.sipush 1114, 3) := by decide +kernel
theorem dX9_init_17 : decode cX9_init 17 = .ok (.newarray .long, 2) := by decide +kernel
theorem dX9_init_19 : decode cX9_init 19 = .ok (.putfield 13, 3) := by decide +kernel
theorem dX9_init_22 : decode cX9_init 22 = .ok (.aload_n 0, 1) := by decide +kernel
theorem dX9_init_23 : decode cX9_init 23 = .ok (.sipush 1114, 3) := by decide +kernel
theorem dX9_init_26 : decode cX9_init 26 = .ok (.newarray .long, 2) := by decide +kernel
theorem dX9_init_28 : decode cX9_init 28 = .ok (.putfield 16, 3) := by decide +kernel
theorem dX9_init_31 : decode cX9_init 31 = .ok (.aload_n 0, 1) := by decide +kernel
theorem dX9_init_32 : decode cX9_init 32 = .ok (.sipush 8912, 3) := by decide +kernel
theorem dX9_init_35 : decode cX9_init 35 = .ok (.newarray .long, 2) := by decide +kernel
theorem dX9_init_37 : decode cX9_init 37 = .ok (.putfield 19, 3) := by decide +kernel
theorem dX9_init_40 : decode cX9_init 40 = .ok (.aload_n 0, 1) := by decide +kernel
theorem dX9_init_41 : decode cX9_init 41 = .ok (.bipush 100, 2) := by decide +kernel
theorem dX9_init_43 : decode cX9_init 43 = .ok (.newarray .int, 2) := by decide +kernel
theorem dX9_init_45 : decode cX9_init 45 = .ok (.putfield 22, 3) := by decide +kernel
theorem dX9_init_48 : decode cX9_init 48 = .ok (.aload_n 0, 1) := by decide +kernel
theorem dX9_init_49 : decode cX9_init 49 = .ok (.iconst (-1), 1) := by decide +kernel
theorem dX9_init_50 : decode cX9_init 50 = .ok (.putfield 26, 3) := by decide +kernel
theorem dX9_init_53 : decode cX9_init 53 = .ok (.aload_n 0, 1) := by decide +kernel
theorem dX9_init_54 : decode cX9_init 54 = .ok (.sipush 961, 3) := by decide +kernel
theorem dX9_init_57 : decode cX9_init 57 = .ok (.newarray .int, 2) := by decide +kernel
theorem dX9_init_59 : decode cX9_init 59 = .ok (.putfield 30, 3) := by decide +kernel
theorem dX9_init_62 : decode cX9_init 62 = .ok (.aload_n 0, 1) := by decide +kernel
theorem dX9_init_63 : decode cX9_init 63 = .ok (.sipush 961, 3) := by decide +kernel
theorem dX9_init_66 : decode cX9_init 66 = .ok (.newarray .int, 2) := by decide +kernel
theorem dX9_init_68 : decode cX9_init 68 = .ok (.putfield 33, 3) := by decide +kernel
theorem dX9_init_71 : decode cX9_init 71 = .ok (.aload_n 0, 1) := by decide +kernel
theorem dX9_init_72 : decode cX9_init 72 = .ok (.iconst 4, 1) := by decide +kernel
theorem dX9_init_73 : decode cX9_init 73 = .ok (.newarray .int, 2) := by decide +kernel
theorem dX9_init_75 : decode cX9_init 75 = .ok (.putfield 36, 3) := by decide +kernel
theorem dX9_init_78 : decode cX9_init 78 = .ok (.aload_n 0, 1) := by decide +kernel
theorem dX9_init_79 : decode cX9_init 79 = .ok (.iconst 4, 1) := by decide +kernel
theorem dX9_init_80 : decode cX9_init 80 = .ok (.newarray .int, 2) := by decide +kernel
theorem dX9_init_82 : decode cX9_init 82 = .ok (.putfield 39, 3) := by decide +kernel
theorem dX9_init_85 : decode cX9_init 85 = .ok (.aload_n 0, 1) := by decide +kernel
theorem dX9_init_86 : decode cX9_init 86 = .ok (.iconst 4, 1) := by decide +kernel
theorem dX9_init_87 : decode cX9_init 87 = .ok (.newarray .long, 2) := by decide +kernel
theorem dX9_init_89 : decode cX9_init 89 = .ok (.putfield 42, 3) := by decide +kernel
theorem dX9_init_92 : decode cX9_init 92 = .ok (.aload_n 0, 1) := by decide +kernel
theorem dX9_init_93 : decode cX9_init 93 = .ok (.iconst 4, 1) := by decide +kernel
theorem dX9_init_94 : decode cX9_init 94 = .ok (.newarray .boolean, 2) := by decide +kernel
theorem dX9_init_96 : decode cX9_init 96 = .ok (.putfield 45, 3) := by decide +kernel
theorem dX9_init_99 : decode cX9_init 99 = .ok (.aload_n 0, 1) := by decide +kernel
theorem dX9_init_100 : decode cX9_init 100 = .ok (.iconst 4, 1) := by decide +kernel
theorem dX9_init_101 : decode cX9_init 101 = .ok (.newarray .int, 2) := by decide +kernel
theorem dX9_init_103 : decode cX9_init 103 = .ok (.putfield 49, 3) := by decide +kernel
theorem dX9_init_106 : decode cX9_init 106 = .ok (.aload_n 0, 1) := by decide +kernel
theorem dX9_init_107 : decode cX9_init 107 = .ok (.iconst 4, 1) := by decide +kernel
theorem dX9_init_108 : decode cX9_init 108 = .ok (.newarray .long, 2) := by decide +kernel
theorem dX9_init_110 : decode cX9_init 110 = .ok (.putfield 52, 3) := by decide +kernel
theorem dX9_init_113 : decode cX9_init 113 = .ok (.aload_n 0, 1) := by decide +kernel
theorem dX9_init_114 : decode cX9_init 114 = .ok (.iconst 4, 1) := by decide +kernel
theorem dX9_init_115 : decode cX9_init 115 = .ok (.newarray .boolean, 2) := by decide +kernel
theorem dX9_init_117 : decode cX9_init 117 = .ok (.putfield 55, 3) := by decide +kernel
theorem dX9_init_120 : decode cX9_init 120 = .ok (.aload_n 0, 1) := by decide +kernel
theorem dX9_init_121 : decode cX9_init 121 = .ok (.iconst 4, 1) := by decide +kernel
theorem dX9_init_122 : decode cX9_init 122 = .ok (.newarray .int, 2) := by decide +kernel
theorem dX9_init_124 : decode cX9_init 124 = .ok (.putfield 58, 3) := by decide +kernel
theorem dX9_init_127 : decode cX9_init 127 = .ok (.aload_n 0, 1) := by decide +kernel
theorem dX9_init_128 : decode cX9_init 128 = .ok (.iconst 4, 1) := by decide +kernel
theorem dX9_init_129 : decode cX9_init 129 = .ok (.newarray .int, 2) := by decide +kernel
theorem dX9_init_131 : decode cX9_init 131 = .ok (.putfield 61, 3) := by decide +kernel
theorem dX9_init_134 : decode cX9_init 134 = .ok (.aload_n 0, 1) := by decide +kernel
theorem dX9_init_135 : decode cX9_init 135 = .ok (.bipush 60, 2) := by decide +kernel
theorem dX9_init_137 : decode cX9_init 137 = .ok (.newarray .int, 2) := by decide +kernel
theorem dX9_init_139 : decode cX9_init 139 = .ok (.putfield 64, 3) := by decide +kernel
theorem dX9_init_142 : decode cX9_init 142 = .ok (.aload_n 0, 1) := by decide +kernel
theorem dX9_init_143 : decode cX9_init 143 = .ok (.bipush 60, 2) := by decide +kernel
theorem dX9_init_145 : decode cX9_init 145 = .ok (.newarray .int, 2) := by decide +kernel
theorem dX9_init_147 : decode cX9_init 147 = .ok (.putfield 67, 3) := by decide +kernel
theorem dX9_init_150 : decode cX9_init 150 = .ok (.aload_n 0, 1) := by decide +kernel
theorem dX9_init_151 : decode cX9_init 151 = .ok (.bipush 60, 2) := by decide +kernel
theorem dX9_init_153 : decode cX9_init 153 = .ok (.newarray .long, 2) := by decide +kernel
theorem dX9_init_155 : decode cX9_init 155 = .ok (.putfield 70, 3) := by decide +kernel
theorem dX9_init_158 : decode cX9_init 158 = .ok (.aload_n 0, 1) := by decide +kernel
theorem dX9_init_159 : decode cX9_init 159 = .ok (.bipush 60, 2) := by decide +kernel
theorem dX9_init_161 : decode cX9_init 161 = .ok (.newarray .int, 2) := by decide +kernel
theorem dX9_init_163 : decode cX9_init 163 = .ok (.putfield 73, 3) := by decide +kernel
theorem dX9_init_166 : decode cX9_init 166 = .ok (.aload_n 0, 1) := by decide +kernel
theorem dX9_init_167 : decode cX9_init 167 = .ok (.sipush 2000, 3) := by decide +kernel
theorem dX9_init_170 : decode cX9_init 170 = .ok (.newarray .long, 2) := by decide +kernel
theorem dX9_init_172 : decode cX9_init 172 = .ok (.putfield 76, 3) := by decide +kernel
theorem dX9_init_175 : decode cX9_init 175 = .ok (.aload_n 0, 1) := by decide +kernel
theorem dX9_init_176 : decode cX9_init 176 = .ok (.bipush 100, 2) := by decide +kernel
theorem dX9_init_178 : decode cX9_init 178 = .ok (.newarray .int, 2) := by decide +kernel
theorem dX9_init_180 : decode cX9_init 180 = .ok (.putfield 79, 3) := by decide +kernel
theorem dX9_init_183 : decode cX9_init 183 = .ok (.aload_n 0, 1) := by decide +kernel
theorem dX9_init_184 : decode cX9_init 184 = .ok (.bipush 100, 2) := by decide +kernel
theorem dX9_init_186 : decode cX9_init 186 = .ok (.newarray .int, 2) := by decide +kernel
theorem dX9_init_188 : decode cX9_init 188 = .ok (.putfield 82, 3) := by decide +kernel
theorem dX9_init_191 : decode cX9_init 191 = .ok (.aload_n 0, 1) := by decide +kernel
theorem dX9_init_192 : decode cX9_init 192 = .ok (.bipush 100, 2) := by decide +kernel
theorem dX9_init_194 : decode cX9_init 194 = .ok (.newarray .int, 2) := by decide +kernel
theorem dX9_init_196 : decode cX9_init 196 = .ok (.putfield 85, 3) := by decide +kernel
theorem dX9_init_199 : decode cX9_init 199 = .ok (.aload_n 0, 1) := by decide +kernel
theorem dX9_init_200 : decode cX9_init 200 = .ok (.bipush 100, 2) := by decide +kernel
theorem dX9_init_202 : decode cX9_init 202 = .ok (.newarray .long, 2) := by decide +kernel
theorem dX9_init_204 : decode cX9_init 204 = .ok (.putfield 88, 3) := by decide +kernel
theorem dX9_init_207 : decode cX9_init 207 = .ok (.aload_n 0, 1) := by decide +kernel
theorem dX9_init_208 : decode cX9_init 208 = .ok (.iconst (-1), 1) := by decide +kernel
theorem dX9_init_209 : decode cX9_init 209 = .ok (.putfield 91, 3) := by decide +kernel
theorem dX9_init_212 : decode cX9_init 212 = .ok (.aload_n 0, 1) := by decide +kernel
theorem dX9_init_213 : decode cX9_init 213 = .ok (.invokevirtual 94, 3) := by decide +kernel
theorem dX9_init_216 : decode cX9_init 216 = .ok (.return_, 1) := by decide +kernel
theorem dX9_thrown_0 : decode cX9_thrown 0 = .ok (.aload_n 0, 1) := by decide +kernel
theorem dX9_thrown_1 : decode cX9_thrown 1 = .ok (.getfield 97, 3) := by decide +kernel
theorem dX9_thrown_4 : decode cX9_thrown 4 = .ok (.ireturn, 1) := by decide +kernel
theorem dX9_in_0 : decode cX9_in 0 = .ok (.iload_n 0, 1) := by decide +kernel
theorem dX9_in_1 : decode cX9_in 1 = .ok (.iload_n 1, 1) := by decide +kernel
theorem dX9_in_2 : decode cX9_in 2 = .ok (.if_icmp .lt 12, 3) := by decide +kernel
theorem dX9_in_5 : decode cX9_in 5 = .ok (.iload_n 0, 1) := by decide +kernel
theorem dX9_in_6 : decode cX9_in 6 = .ok (.iload_n 2, 1) := by decide +kernel
theorem dX9_in_7 : decode cX9_in 7 = .ok (.if_icmp .gt 7, 3) := by decide +kernel
theorem dX9_in_10 : decode cX9_in 10 = .ok (.iconst 1, 1) := by decide +kernel
theorem dX9_in_11 : decode cX9_in 11 = .ok (.goto 4, 3) := by decide +kernel
theorem dX9_in_14 : decode cX9_in 14 = .ok (.iconst 0, 1) := by decide +kernel
theorem dX9_in_15 : decode cX9_in 15 = .ok (.ireturn, 1) := by decide +kernel
theorem dX9_begin_0 : decode cX9_begin 0 = .ok (.iconst 0, 1) := by decide +kernel
theorem dX9_begin_1 : decode cX9_begin 1 = .ok (.istore_n 1, 1) := by decide +kernel
theorem dX9_begin_2 : decode cX9_begin 2 = .ok (.iload_n 1, 1) := by decide +kernel
theorem dX9_begin_3 : decode cX9_begin 3 = .ok (.sipush 1114, 3) := by decide +kernel
theorem dX9_begin_6 : decode cX9_begin 6 = .ok (.if_icmp .ge 16, 3) := by decide +kernel
theorem dX9_begin_9 : decode cX9_begin 9 = .ok (.aload_n 0, 1) := by decide +kernel
theorem dX9_begin_10 : decode cX9_begin 10 = .ok (.getfield 9, 3) := by decide +kernel
theorem dX9_begin_13 : decode cX9_begin 13 = .ok (.iload_n 1, 1) := by decide +kernel
theorem dX9_begin_14 : decode cX9_begin 14 = .ok (.lconst 0, 1) := by decide +kernel
theorem dX9_begin_15 : decode cX9_begin 15 = .ok (.lastore, 1) := by decide +kernel
theorem dX9_begin_16 : decode cX9_begin 16 = .ok (.iinc 1 1, 3) := by decide +kernel
theorem dX9_begin_19 : decode cX9_begin 19 = .ok (.goto (-17), 3) := by decide +kernel
theorem dX9_begin_22 : decode cX9_begin 22 = .ok (.aload_n 0, 1) := by decide +kernel
theorem dX9_begin_23 : decode cX9_begin 23 = .ok (.getfield 9, 3) := by decide +kernel
theorem dX9_begin_26 : decode cX9_begin 26 = .ok (.iconst 2, 1) := by decide +kernel
theorem dX9_begin_27 : decode cX9_begin 27 = .ok (.ldc2_w 100, 3) := by decide +kernel
theorem dX9_begin_30 : decode cX9_begin 30 = .ok (.lastore, 1) := by decide +kernel
theorem dX9_begin_31 : decode cX9_begin 31 = .ok (.aload_n 0, 1) := by decide +kernel
theorem dX9_begin_32 : decode cX9_begin 32 = .ok (.getfield 9, 3) := by decide +kernel
theorem dX9_begin_35 : decode cX9_begin 35 = .ok (.iconst 3, 1) := by decide +kernel
theorem dX9_begin_36 : decode cX9_begin 36 = .ok (.ldc2_w 102, 3) := by decide +kernel
theorem dX9_begin_39 : decode cX9_begin 39 = .ok (.lastore, 1) := by decide +kernel
theorem dX9_begin_40 : decode cX9_begin 40 = .ok (.aload_n 0, 1) := by decide +kernel
theorem dX9_begin_41 : decode cX9_begin 41 = .ok (.iconst 0, 1) := by decide +kernel
theorem dX9_begin_42 : decode cX9_begin 42 = .ok (.putfield 104, 3) := by decide +kernel
theorem dX9_begin_45 : decode cX9_begin 45 = .ok (.aload_n 0, 1) := by decide +kernel
theorem dX9_begin_46 : decode cX9_begin 46 = .ok (.iconst 0, 1) := by decide +kernel
theorem dX9_begin_47 : decode cX9_begin 47 = .ok (.putfield 107, 3) := by decide +kernel
theorem dX9_begin_50 : decode cX9_begin 50 = .ok (.return_, 1) := by decide +kernel
theorem dX9_keepState_0 : decode cX9_keepState 0 = .ok (.aload_n 0, 1) := by decide +kernel
theorem dX9_keepState_1 : decode cX9_keepState 1 = .ok (.getfield 9, 3) := by decide +kernel
theorem dX9_keepState_4 : decode cX9_keepState 4 = .ok (.iconst 0, 1) := by decide +kernel
theorem dX9_keepState_5 : decode cX9_keepState 5 = .ok (.aload_n 0, 1) := by decide +kernel
theorem dX9_keepState_6 : decode cX9_keepState 6 = .ok (.getfield 13, 3) := by decide +kernel
theorem dX9_keepState_9 : decode cX9_keepState 9 = .ok (.iconst 0, 1) := by decide +kernel
theorem dX9_keepState_10 : decode cX9_keepState 10 = .ok (.sipush 1114, 3) := by decide +kernel
theorem dX9_keepState_13 : decode cX9_keepState 13 = .ok (.invokestatic 110, 3) := by decide +kernel
theorem dX9_keepState_16 : decode cX9_keepState 16 = .ok (.return_, 1) := by decide +kernel
theorem dX9_putBack_0 : decode cX9_putBack 0 = .ok (.aload_n 0, 1) := by decide +kernel
theorem dX9_putBack_1 : decode cX9_putBack 1 = .ok (.getfield 13, 3) := by decide +kernel
theorem dX9_putBack_4 : decode cX9_putBack 4 = .ok (.iconst 0, 1) := by decide +kernel
theorem dX9_putBack_5 : decode cX9_putBack 5 = .ok (.aload_n 0, 1) := by decide +kernel
theorem dX9_putBack_6 : decode cX9_putBack 6 = .ok (.getfield 9, 3) := by decide +kernel
theorem dX9_putBack_9 : decode cX9_putBack 9 = .ok (.iconst 0, 1) := by decide +kernel
theorem dX9_putBack_10 : decode cX9_putBack 10 = .ok (.sipush 1114, 3) := by decide +kernel
theorem dX9_putBack_13 : decode cX9_putBack 13 = .ok (.invokestatic 110, 3) := by decide +kernel
theorem dX9_putBack_16 : decode cX9_putBack 16 = .ok (.return_, 1) := by decide +kernel
theorem dX9_change_0 : decode cX9_change 0 = .ok (.aload_n 0, 1) := by decide +kernel
theorem dX9_change_1 : decode cX9_change 1 = .ok (.getfield 104, 3) := by decide +kernel
theorem dX9_change_4 : decode cX9_change 4 = .ok (.bipush 8, 2) := by decide +kernel
theorem dX9_change_6 : decode cX9_change 6 = .ok (.if_icmp .ne 31, 3) := by decide +kernel
theorem dX9_change_9 : decode cX9_change 9 = .ok (.aload_n 0, 1) := by decide +kernel
theorem dX9_change_10 : decode cX9_change 10 = .ok (.getfield 19, 3) := by decide +kernel
theorem dX9_change_13 : decode cX9_change 13 = .ok (.sipush 1114, 3) := by decide +kernel
theorem dX9_change_16 : decode cX9_change 16 = .ok (.aload_n 0, 1) := by decide +kernel
theorem dX9_change_17 : decode cX9_change 17 = .ok (.getfield 19, 3) := by decide +kernel
theorem dX9_change_20 : decode cX9_change 20 = .ok (.iconst 0, 1) := by decide +kernel
theorem dX9_change_21 : decode cX9_change 21 = .ok (.sipush 7798, 3) := by decide +kernel
theorem dX9_change_24 : decode cX9_change 24 = .ok (.invokestatic 110, 3) := by decide +kernel
theorem dX9_change_27 : decode cX9_change 27 = .ok (.aload_n 0, 1) := by decide +kernel
theorem dX9_change_28 : decode cX9_change 28 = .ok (.dup, 1) := by decide +kernel
theorem dX9_change_29 : decode cX9_change 29 = .ok (.getfield 104, 3) := by decide +kernel
theorem dX9_change_32 : decode cX9_change 32 = .ok (.iconst 1, 1) := by decide +kernel
theorem dX9_change_33 : decode cX9_change 33 = .ok (.isub, 1) := by decide +kernel
theorem dX9_change_34 : decode cX9_change 34 = .ok (.putfield 104, 3) := by decide +kernel
theorem dX9_change_37 : decode cX9_change 37 = .ok (.aload_n 0, 1) := by decide +kernel
theorem dX9_change_38 : decode cX9_change 38 = .ok (.getfield 13, 3) := by decide +kernel
theorem dX9_change_41 : decode cX9_change 41 = .ok (.iconst 0, 1) := by decide +kernel
theorem dX9_change_42 : decode cX9_change 42 = .ok (.aload_n 0, 1) := by decide +kernel
theorem dX9_change_43 : decode cX9_change 43 = .ok (.getfield 19, 3) := by decide +kernel
theorem dX9_change_46 : decode cX9_change 46 = .ok (.sipush 1114, 3) := by decide +kernel
theorem dX9_change_49 : decode cX9_change 49 = .ok (.aload_n 0, 1) := by decide +kernel
theorem dX9_change_50 : decode cX9_change 50 = .ok (.getfield 104, 3) := by decide +kernel
theorem dX9_change_53 : decode cX9_change 53 = .ok (.imul, 1) := by decide +kernel
theorem dX9_change_54 : decode cX9_change 54 = .ok (.sipush 1114, 3) := by decide +kernel
theorem dX9_change_57 : decode cX9_change 57 = .ok (.invokestatic 110, 3) := by decide +kernel
theorem dX9_change_60 : decode cX9_change 60 = .ok (.aload_n 0, 1) := by decide +kernel
theorem dX9_change_61 : decode cX9_change 61 = .ok (.dup, 1) := by decide +kernel
theorem dX9_change_62 : decode cX9_change 62 = .ok (.getfield 104, 3) := by decide +kernel
theorem dX9_change_65 : decode cX9_change 65 = .ok (.iconst 1, 1) := by decide +kernel
theorem dX9_change_66 : decode cX9_change 66 = .ok (.iadd, 1) := by decide +kernel
theorem dX9_change_67 : decode cX9_change 67 = .ok (.putfield 104, 3) := by decide +kernel
theorem dX9_change_70 : decode cX9_change 70 = .ok (.return_, 1) := by decide +kernel
theorem dX9_changes_0 : decode cX9_changes 0 = .ok (.aload_n 0, 1) := by decide +kernel
theorem dX9_changes_1 : decode cX9_changes 1 = .ok (.invokevirtual 116, 3) := by decide +kernel
theorem dX9_changes_4 : decode cX9_changes 4 = .ok (.aload_n 0, 1) := by decide +kernel
theorem dX9_changes_5 : decode cX9_changes 5 = .ok (.invokevirtual 119, 3) := by decide +kernel
theorem dX9_changes_8 : decode cX9_changes 8 = .ok (.return_, 1) := by decide +kernel
theorem dX9_clear_0 : decode cX9_clear 0 = .ok (.aload_n 0, 1) := by decide +kernel
theorem dX9_clear_1 : decode cX9_clear 1 = .ok (.iconst 0, 1) := by decide +kernel
theorem dX9_clear_2 : decode cX9_clear 2 = .ok (.putfield 97, 3) := by decide +kernel
theorem dX9_clear_5 : decode cX9_clear 5 = .ok (.aload_n 0, 1) := by decide +kernel
theorem dX9_clear_6 : decode cX9_clear 6 = .ok (.invokevirtual 122, 3) := by decide +kernel
theorem dX9_clear_9 : decode cX9_clear 9 = .ok (.istore_n 1, 1) := by decide +kernel
theorem dX9_clear_10 : decode cX9_clear 10 = .ok (.aload_n 0, 1) := by decide +kernel
theorem dX9_clear_11 : decode cX9_clear 11 = .ok (.invokevirtual 94, 3) := by decide +kernel
theorem dX9_clear_14 : decode cX9_clear 14 = .ok (.iload_n 1, 1) := by decide +kernel
theorem dX9_clear_15 : decode cX9_clear 15 = .ok (.ireturn, 1) := by decide +kernel
theorem dX9_tiers_0 : decode cX9_tiers 0 = .ok (.aload_n 0, 1) := by decide +kernel
theorem dX9_tiers_1 : decode cX9_tiers 1 = .ok (.getfield 9, 3) := by decide +kernel
theorem dX9_tiers_4 : decode cX9_tiers 4 = .ok (.iconst 0, 1) := by decide +kernel
theorem dX9_tiers_5 : decode cX9_tiers 5 = .ok (.laload, 1) := by decide +kernel
theorem dX9_tiers_6 : decode cX9_tiers 6 = .ok (.l2i, 1) := by decide +kernel
theorem dX9_tiers_7 : decode cX9_tiers 7 = .ok (.ireturn, 1) := by decide +kernel
theorem dX9_annotator_0 : decode cX9_annotator 0 = .ok (.aload_n 0, 1) := by decide +kernel
theorem dX9_annotator_1 : decode cX9_annotator 1 = .ok (.getfield 9, 3) := by decide +kernel
theorem dX9_annotator_4 : decode cX9_annotator 4 = .ok (.iconst 1, 1) := by decide +kernel
theorem dX9_annotator_5 : decode cX9_annotator 5 = .ok (.laload, 1) := by decide +kernel
theorem dX9_annotator_6 : decode cX9_annotator 6 = .ok (.l2i, 1) := by decide +kernel
theorem dX9_annotator_7 : decode cX9_annotator 7 = .ok (.ireturn, 1) := by decide +kernel
theorem dX9_isTier_0 : decode cX9_isTier 0 = .ok (.iload_n 1, 1) := by decide +kernel
theorem dX9_isTier_1 : decode cX9_isTier 1 = .ok (.iconst 0, 1) := by decide +kernel
theorem dX9_isTier_2 : decode cX9_isTier 2 = .ok (.aload_n 0, 1) := by decide +kernel
theorem dX9_isTier_3 : decode cX9_isTier 3 = .ok (.invokevirtual 122, 3) := by decide +kernel
theorem dX9_isTier_6 : decode cX9_isTier 6 = .ok (.iconst 1, 1) := by decide +kernel
theorem dX9_isTier_7 : decode cX9_isTier 7 = .ok (.isub, 1) := by decide +kernel
theorem dX9_isTier_8 : decode cX9_isTier 8 = .ok (.invokestatic 126, 3) := by decide +kernel
theorem dX9_isTier_11 : decode cX9_isTier 11 = .ok (.ireturn, 1) := by decide +kernel
theorem dX9_kind_0 : decode cX9_kind 0 = .ok (.aload_n 0, 1) := by decide +kernel
theorem dX9_kind_1 : decode cX9_kind 1 = .ok (.getfield 9, 3) := by decide +kernel
theorem dX9_kind_4 : decode cX9_kind 4 = .ok (.iconst 4, 1) := by decide +kernel
theorem dX9_kind_5 : decode cX9_kind 5 = .ok (.iconst 3, 1) := by decide +kernel
theorem dX9_kind_6 : decode cX9_kind 6 = .ok (.iload_n 1, 1) := by decide +kernel
theorem dX9_kind_7 : decode cX9_kind 7 = .ok (.imul, 1) := by decide +kernel
theorem dX9_kind_8 : decode cX9_kind 8 = .ok (.iadd, 1) := by decide +kernel
theorem dX9_kind_9 : decode cX9_kind 9 = .ok (.laload, 1) := by decide +kernel
theorem dX9_kind_10 : decode cX9_kind 10 = .ok (.l2i, 1) := by decide +kernel
theorem dX9_kind_11 : decode cX9_kind 11 = .ok (.ireturn, 1) := by decide +kernel
theorem dX9_rule_0 : decode cX9_rule 0 = .ok (.aload_n 0, 1) := by decide +kernel
theorem dX9_rule_1 : decode cX9_rule 1 = .ok (.getfield 9, 3) := by decide +kernel
theorem dX9_rule_4 : decode cX9_rule 4 = .ok (.iconst 4, 1) := by decide +kernel
theorem dX9_rule_5 : decode cX9_rule 5 = .ok (.iconst 3, 1) := by decide +kernel
theorem dX9_rule_6 : decode cX9_rule 6 = .ok (.iload_n 1, 1) := by decide +kernel
theorem dX9_rule_7 : decode cX9_rule 7 = .ok (.imul, 1) := by decide +kernel
theorem dX9_rule_8 : decode cX9_rule 8 = .ok (.iadd, 1) := by decide +kernel
theorem dX9_rule_9 : decode cX9_rule 9 = .ok (.iconst 1, 1) := by decide +kernel
theorem dX9_rule_10 : decode cX9_rule 10 = .ok (.iadd, 1) := by decide +kernel
theorem dX9_rule_11 : decode cX9_rule 11 = .ok (.laload, 1) := by decide +kernel
theorem dX9_rule_12 : decode cX9_rule 12 = .ok (.l2i, 1) := by decide +kernel
theorem dX9_rule_13 : decode cX9_rule 13 = .ok (.ireturn, 1) := by decide +kernel
theorem dX9_parent_0 : decode cX9_parent 0 = .ok (.aload_n 0, 1) := by decide +kernel
theorem dX9_parent_1 : decode cX9_parent 1 = .ok (.getfield 9, 3) := by decide +kernel
theorem dX9_parent_4 : decode cX9_parent 4 = .ok (.iconst 4, 1) := by decide +kernel
theorem dX9_parent_5 : decode cX9_parent 5 = .ok (.iconst 3, 1) := by decide +kernel
theorem dX9_parent_6 : decode cX9_parent 6 = .ok (.iload_n 1, 1) := by decide +kernel
theorem dX9_parent_7 : decode cX9_parent 7 = .ok (.imul, 1) := by decide +kernel
theorem dX9_parent_8 : decode cX9_parent 8 = .ok (.iadd, 1) := by decide +kernel
theorem dX9_parent_9 : decode cX9_parent 9 = .ok (.iconst 2, 1) := by decide +kernel
theorem dX9_parent_10 : decode cX9_parent 10 = .ok (.iadd, 1) := by decide +kernel
theorem dX9_parent_11 : decode cX9_parent 11 = .ok (.laload, 1) := by decide +kernel
theorem dX9_parent_12 : decode cX9_parent 12 = .ok (.l2i, 1) := by decide +kernel
theorem dX9_parent_13 : decode cX9_parent 13 = .ok (.ireturn, 1) := by decide +kernel
theorem dX9_addTier_0 : decode cX9_addTier 0 = .ok (.aload_n 0, 1) := by decide +kernel
theorem dX9_addTier_1 : decode cX9_addTier 1 = .ok (.iload_n 1, 1) := by decide +kernel
theorem dX9_addTier_2 : decode cX9_addTier 2 = .ok (.iconst 0, 1) := by decide +kernel
theorem dX9_addTier_3 : decode cX9_addTier 3 = .ok (.iconst 3, 1) := by decide +kernel
theorem dX9_addTier_4 : decode cX9_addTier 4 = .ok (.invokestatic 126, 3) := by decide +kernel
theorem dX9_addTier_7 : decode cX9_addTier 7 = .ok (.ifCond .eq 12, 3) := by decide +kernel
theorem dX9_addTier_10 : decode cX9_addTier 10 = .ok (.iload_n 2, 1) := by decide +kernel
theorem dX9_addTier_11 : decode cX9_addTier 11 = .ok (.iconst 0, 1) := by decide +kernel
theorem dX9_addTier_12 : decode cX9_addTier 12 = .ok (.iconst 3, 1) := by decide +kernel
theorem dX9_addTier_13 : decode cX9_addTier 13 = .ok (.invokestatic 126, 3) := by decide +kernel
theorem dX9_addTier_16 : decode cX9_addTier 16 = .ok (.ifCond .ne 7, 3) := by decide +kernel
theorem dX9_addTier_19 : decode cX9_addTier 19 = .ok (.iconst 1, 1) := by decide +kernel
theorem dX9_addTier_20 : decode cX9_addTier 20 = .ok (.goto 33, 3) := by decide +kernel
theorem dX9_addTier_23 : decode cX9_addTier 23 = .ok (.iload_n 2, 1) := by decide +kernel
theorem dX9_addTier_24 : decode cX9_addTier 24 = .ok (.ifCond .le 15, 3) := by decide +kernel
theorem dX9_addTier_27 : decode cX9_addTier 27 = .ok (.aload_n 0, 1) := by decide +kernel
theorem dX9_addTier_28 : decode cX9_addTier 28 = .ok (.iload_n 3, 1) := by decide +kernel
theorem dX9_addTier_29 : decode cX9_addTier 29 = .ok (.invokevirtual 130, 3) := by decide +kernel
theorem dX9_addTier_32 : decode cX9_addTier 32 = .ok (.ifCond .ne 7, 3) := by decide +kernel
theorem dX9_addTier_35 : decode cX9_addTier 35 = .ok (.iconst 2, 1) := by decide +kernel
theorem dX9_addTier_36 : decode cX9_addTier 36 = .ok (.goto 17, 3) := by decide +kernel
theorem dX9_addTier_39 : decode cX9_addTier 39 = .ok (.aload_n 0, 1) := by decide +kernel
theorem dX9_addTier_40 : decode cX9_addTier 40 = .ok (.invokevirtual 122, 3) := by decide +kernel
theorem dX9_addTier_43 : decode cX9_addTier 43 = .ok (.bipush 6, 2) := by decide +kernel
theorem dX9_addTier_45 : decode cX9_addTier 45 = .ok (.if_icmp .ne 7, 3) := by decide +kernel
theorem dX9_addTier_48 : decode cX9_addTier 48 = .ok (.iconst 3, 1) := by decide +kernel
theorem dX9_addTier_49 : decode cX9_addTier 49 = .ok (.goto 4, 3) := by decide +kernel
theorem dX9_addTier_52 : decode cX9_addTier 52 = .ok (.iconst 0, 1) := by decide +kernel
theorem dX9_addTier_53 : decode cX9_addTier 53 = .ok (.putfield 97, 3) := by decide +kernel
theorem dX9_addTier_56 : decode cX9_addTier 56 = .ok (.aload_n 0, 1) := by decide +kernel
theorem dX9_addTier_57 : decode cX9_addTier 57 = .ok (.getfield 97, 3) := by decide +kernel
theorem dX9_addTier_60 : decode cX9_addTier 60 = .ok (.ifCond .le 5, 3) := by decide +kernel
theorem dX9_addTier_63 : decode cX9_addTier 63 = .ok (.iconst 0, 1) := by decide +kernel
theorem dX9_addTier_64 : decode cX9_addTier 64 = .ok (.ireturn, 1) := by decide +kernel
theorem dX9_addTier_65 : decode cX9_addTier 65 = .ok (.aload_n 0, 1) := by decide +kernel
theorem dX9_addTier_66 : decode cX9_addTier 66 = .ok (.invokevirtual 134, 3) := by decide +kernel
theorem dX9_addTier_69 : decode cX9_addTier 69 = .ok (.aload_n 0, 1) := by decide +kernel
theorem dX9_addTier_70 : decode cX9_addTier 70 = .ok (.invokevirtual 122, 3) := by decide +kernel
theorem dX9_addTier_73 : decode cX9_addTier 73 = .ok (.istore 4, 2) := by decide +kernel
theorem dX9_addTier_75 : decode cX9_addTier 75 = .ok (.aload_n 0, 1) := by decide +kernel
theorem dX9_addTier_76 : decode cX9_addTier 76 = .ok (.getfield 9, 3) := by decide +kernel
theorem dX9_addTier_79 : decode cX9_addTier 79 = .ok (.iconst 4, 1) := by decide +kernel
theorem dX9_addTier_80 : decode cX9_addTier 80 = .ok (.iconst 3, 1) := by decide +kernel
theorem dX9_addTier_81 : decode cX9_addTier 81 = .ok (.iload 4, 2) := by decide +kernel
theorem dX9_addTier_83 : decode cX9_addTier 83 = .ok (.imul, 1) := by decide +kernel
theorem dX9_addTier_84 : decode cX9_addTier 84 = .ok (.iadd, 1) := by decide +kernel
theorem dX9_addTier_85 : decode cX9_addTier 85 = .ok (.iload_n 1, 1) := by decide +kernel
theorem dX9_addTier_86 : decode cX9_addTier 86 = .ok (.i2l, 1) := by decide +kernel
theorem dX9_addTier_87 : decode cX9_addTier 87 = .ok (.lastore, 1) := by decide +kernel
theorem dX9_addTier_88 : decode cX9_addTier 88 = .ok (.aload_n 0, 1) := by decide +kernel
theorem dX9_addTier_89 : decode cX9_addTier 89 = .ok (.getfield 9, 3) := by decide +kernel
theorem dX9_addTier_92 : decode cX9_addTier 92 = .ok (.iconst 4, 1) := by decide +kernel
theorem dX9_addTier_93 : decode cX9_addTier 93 = .ok (.iconst 3, 1) := by decide +kernel
theorem dX9_addTier_94 : decode cX9_addTier 94 = .ok (.iload 4, 2) := by decide +kernel
theorem dX9_addTier_96 : decode cX9_addTier 96 = .ok (.imul, 1) := by decide +kernel
theorem dX9_addTier_97 : decode cX9_addTier 97 = .ok (.iadd, 1) := by decide +kernel
theorem dX9_addTier_98 : decode cX9_addTier 98 = .ok (.iconst 1, 1) := by decide +kernel
theorem dX9_addTier_99 : decode cX9_addTier 99 = .ok (.iadd, 1) := by decide +kernel
theorem dX9_addTier_100 : decode cX9_addTier 100 = .ok (.iload_n 2, 1) := by decide +kernel
theorem dX9_addTier_101 : decode cX9_addTier 101 = .ok (.i2l, 1) := by decide +kernel
theorem dX9_addTier_102 : decode cX9_addTier 102 = .ok (.lastore, 1) := by decide +kernel
theorem dX9_addTier_103 : decode cX9_addTier 103 = .ok (.aload_n 0, 1) := by decide +kernel
theorem dX9_addTier_104 : decode cX9_addTier 104 = .ok (.getfield 9, 3) := by decide +kernel
theorem dX9_addTier_107 : decode cX9_addTier 107 = .ok (.iconst 4, 1) := by decide +kernel
theorem dX9_addTier_108 : decode cX9_addTier 108 = .ok (.iconst 3, 1) := by decide +kernel
theorem dX9_addTier_109 : decode cX9_addTier 109 = .ok (.iload 4, 2) := by decide +kernel
theorem dX9_addTier_111 : decode cX9_addTier 111 = .ok (.imul, 1) := by decide +kernel
theorem dX9_addTier_112 : decode cX9_addTier 112 = .ok (.iadd, 1) := by decide +kernel
theorem dX9_addTier_113 : decode cX9_addTier 113 = .ok (.iconst 2, 1) := by decide +kernel
theorem dX9_addTier_114 : decode cX9_addTier 114 = .ok (.iadd, 1) := by decide +kernel
theorem dX9_addTier_115 : decode cX9_addTier 115 = .ok (.iload_n 2, 1) := by decide +kernel
theorem dX9_addTier_116 : decode cX9_addTier 116 = .ok (.ifCond .ne 9, 3) := by decide +kernel
theorem dX9_addTier_119 : decode cX9_addTier 119 = .ok (.ldc2_w 137, 3) := by decide +kernel
theorem dX9_addTier_122 : decode cX9_addTier 122 = .ok (.goto 5, 3) := by decide +kernel
theorem dX9_addTier_125 : decode cX9_addTier 125 = .ok (.iload_n 3, 1) := by decide +kernel
theorem dX9_addTier_126 : decode cX9_addTier 126 = .ok (.i2l, 1) := by decide +kernel
theorem dX9_addTier_127 : decode cX9_addTier 127 = .ok (.lastore, 1) := by decide +kernel
theorem dX9_addTier_128 : decode cX9_addTier 128 = .ok (.aload_n 0, 1) := by decide +kernel
theorem dX9_addTier_129 : decode cX9_addTier 129 = .ok (.getfield 9, 3) := by decide +kernel
theorem dX9_addTier_132 : decode cX9_addTier 132 = .ok (.iconst 0, 1) := by decide +kernel
theorem dX9_addTier_133 : decode cX9_addTier 133 = .ok (.dup2, 1) := by decide +kernel
theorem dX9_addTier_134 : decode cX9_addTier 134 = .ok (.laload, 1) := by decide +kernel
theorem dX9_addTier_135 : decode cX9_addTier 135 = .ok (.lconst 1, 1) := by decide +kernel
theorem dX9_addTier_136 : decode cX9_addTier 136 = .ok (.ladd, 1) := by decide +kernel
theorem dX9_addTier_137 : decode cX9_addTier 137 = .ok (.lastore, 1) := by decide +kernel
theorem dX9_addTier_138 : decode cX9_addTier 138 = .ok (.iload 4, 2) := by decide +kernel
theorem dX9_addTier_140 : decode cX9_addTier 140 = .ok (.ireturn, 1) := by decide +kernel
theorem dX9_select_0 : decode cX9_select 0 = .ok (.aload_n 0, 1) := by decide +kernel
theorem dX9_select_1 : decode cX9_select 1 = .ok (.iload_n 1, 1) := by decide +kernel
theorem dX9_select_2 : decode cX9_select 2 = .ok (.iconst 0, 1) := by decide +kernel
theorem dX9_select_3 : decode cX9_select 3 = .ok (.iconst 1, 1) := by decide +kernel
theorem dX9_select_4 : decode cX9_select 4 = .ok (.invokestatic 126, 3) := by decide +kernel
theorem dX9_select_7 : decode cX9_select 7 = .ok (.ifCond .eq 7, 3) := by decide +kernel
theorem dX9_select_10 : decode cX9_select 10 = .ok (.iconst 0, 1) := by decide +kernel
theorem dX9_select_11 : decode cX9_select 11 = .ok (.goto 4, 3) := by decide +kernel
theorem dX9_select_14 : decode cX9_select 14 = .ok (.iconst 1, 1) := by decide +kernel
theorem dX9_select_15 : decode cX9_select 15 = .ok (.putfield 97, 3) := by decide +kernel
theorem dX9_select_18 : decode cX9_select 18 = .ok (.aload_n 0, 1) := by decide +kernel
theorem dX9_select_19 : decode cX9_select 19 = .ok (.getfield 97, 3) := by decide +kernel
theorem dX9_select_22 : decode cX9_select 22 = .ok (.ifCond .le 5, 3) := by decide +kernel
theorem dX9_select_25 : decode cX9_select 25 = .ok (.iconst 0, 1) := by decide +kernel
theorem dX9_select_26 : decode cX9_select 26 = .ok (.ireturn, 1) := by decide +kernel
theorem dX9_select_27 : decode cX9_select 27 = .ok (.aload_n 0, 1) := by decide +kernel
theorem dX9_select_28 : decode cX9_select 28 = .ok (.invokevirtual 134, 3) := by decide +kernel
theorem dX9_select_31 : decode cX9_select 31 = .ok (.aload_n 0, 1) := by decide +kernel
theorem dX9_select_32 : decode cX9_select 32 = .ok (.invokevirtual 139, 3) := by decide +kernel
theorem dX9_select_35 : decode cX9_select 35 = .ok (.istore_n 2, 1) := by decide +kernel
theorem dX9_select_36 : decode cX9_select 36 = .ok (.aload_n 0, 1) := by decide +kernel
theorem dX9_select_37 : decode cX9_select 37 = .ok (.getfield 9, 3) := by decide +kernel
theorem dX9_select_40 : decode cX9_select 40 = .ok (.iconst 1, 1) := by decide +kernel
theorem dX9_select_41 : decode cX9_select 41 = .ok (.iload_n 1, 1) := by decide +kernel
theorem dX9_select_42 : decode cX9_select 42 = .ok (.i2l, 1) := by decide +kernel
theorem dX9_select_43 : decode cX9_select 43 = .ok (.lastore, 1) := by decide +kernel
theorem dX9_select_44 : decode cX9_select 44 = .ok (.iload_n 2, 1) := by decide +kernel
theorem dX9_select_45 : decode cX9_select 45 = .ok (.ireturn, 1) := by decide +kernel
theorem dX9_setSetting_0 : decode cX9_setSetting 0 = .ok (.aload_n 0, 1) := by decide +kernel
theorem dX9_setSetting_1 : decode cX9_setSetting 1 = .ok (.iload_n 1, 1) := by decide +kernel
theorem dX9_setSetting_2 : decode cX9_setSetting 2 = .ok (.iconst 0, 1) := by decide +kernel
theorem dX9_setSetting_3 : decode cX9_setSetting 3 = .ok (.iconst 1, 1) := by decide +kernel
theorem dX9_setSetting_4 : decode cX9_setSetting 4 = .ok (.invokestatic 126, 3) := by decide +kernel
theorem dX9_setSetting_7 : decode cX9_setSetting 7 = .ok (.ifCond .ne 7, 3) := by decide +kernel
theorem dX9_setSetting_10 : decode cX9_setSetting 10 = .ok (.iconst 1, 1) := by decide +kernel
theorem dX9_setSetting_11 : decode cX9_setSetting 11 = .ok (.goto 19, 3) := by decide +kernel
theorem dX9_setSetting_14 : decode cX9_setSetting 14 = .ok (.iload_n 2, 1) := by decide +kernel
theorem dX9_setSetting_15 : decode cX9_setSetting 15 = .ok (.iconst 0, 1) := by decide +kernel
theorem dX9_setSetting_16 : decode cX9_setSetting 16 = .ok (.sipush 200, 3) := by decide +kernel
theorem dX9_setSetting_19 : decode cX9_setSetting 19 = .ok (.invokestatic 126, 3) := by decide +kernel
theorem dX9_setSetting_22 : decode cX9_setSetting 22 = .ok (.ifCond .ne 7, 3) := by decide +kernel
theorem dX9_setSetting_25 : decode cX9_setSetting 25 = .ok (.iconst 2, 1) := by decide +kernel
theorem dX9_setSetting_26 : decode cX9_setSetting 26 = .ok (.goto 4, 3) := by decide +kernel
theorem dX9_setSetting_29 : decode cX9_setSetting 29 = .ok (.iconst 0, 1) := by decide +kernel
theorem dX9_setSetting_30 : decode cX9_setSetting 30 = .ok (.putfield 97, 3) := by decide +kernel
theorem dX9_setSetting_33 : decode cX9_setSetting 33 = .ok (.aload_n 0, 1) := by decide +kernel
theorem dX9_setSetting_34 : decode cX9_setSetting 34 = .ok (.getfield 97, 3) := by decide +kernel
theorem dX9_setSetting_37 : decode cX9_setSetting 37 = .ok (.ifCond .le 5, 3) := by decide +kernel
theorem dX9_setSetting_40 : decode cX9_setSetting 40 = .ok (.iconst 0, 1) := by decide +kernel
theorem dX9_setSetting_41 : decode cX9_setSetting 41 = .ok (.ireturn, 1) := by decide +kernel
theorem dX9_setSetting_42 : decode cX9_setSetting 42 = .ok (.aload_n 0, 1) := by decide +kernel
theorem dX9_setSetting_43 : decode cX9_setSetting 43 = .ok (.invokevirtual 134, 3) := by decide +kernel
theorem dX9_setSetting_46 : decode cX9_setSetting 46 = .ok (.aload_n 0, 1) := by decide +kernel
theorem dX9_setSetting_47 : decode cX9_setSetting 47 = .ok (.getfield 9, 3) := by decide +kernel
theorem dX9_setSetting_50 : decode cX9_setSetting 50 = .ok (.iconst 2, 1) := by decide +kernel
theorem dX9_setSetting_51 : decode cX9_setSetting 51 = .ok (.iload_n 1, 1) := by decide +kernel
theorem dX9_setSetting_52 : decode cX9_setSetting 52 = .ok (.iadd, 1) := by decide +kernel
theorem dX9_setSetting_53 : decode cX9_setSetting 53 = .ok (.laload, 1) := by decide +kernel
theorem dX9_setSetting_54 : decode cX9_setSetting 54 = .ok (.l2i, 1) := by decide +kernel
theorem dX9_setSetting_55 : decode cX9_setSetting 55 = .ok (.istore_n 3, 1) := by decide +kernel
theorem dX9_setSetting_56 : decode cX9_setSetting 56 = .ok (.aload_n 0, 1) := by decide +kernel
theorem dX9_setSetting_57 : decode cX9_setSetting 57 = .ok (.getfield 9, 3) := by decide +kernel
theorem dX9_setSetting_60 : decode cX9_setSetting 60 = .ok (.iconst 2, 1) := by decide +kernel
theorem dX9_setSetting_61 : decode cX9_setSetting 61 = .ok (.iload_n 1, 1) := by decide +kernel
theorem dX9_setSetting_62 : decode cX9_setSetting 62 = .ok (.iadd, 1) := by decide +kernel
theorem dX9_setSetting_63 : decode cX9_setSetting 63 = .ok (.iload_n 2, 1) := by decide +kernel
theorem dX9_setSetting_64 : decode cX9_setSetting 64 = .ok (.i2l, 1) := by decide +kernel
theorem dX9_setSetting_65 : decode cX9_setSetting 65 = .ok (.lastore, 1) := by decide +kernel
theorem dX9_setSetting_66 : decode cX9_setSetting 66 = .ok (.iload_n 3, 1) := by decide +kernel
theorem dX9_setSetting_67 : decode cX9_setSetting 67 = .ok (.ireturn, 1) := by decide +kernel
theorem dX9_row_0 : decode cX9_row 0 = .ok (.bipush 22, 2) := by decide +kernel
theorem dX9_row_2 : decode cX9_row 2 = .ok (.bipush 91, 2) := by decide +kernel
theorem dX9_row_4 : decode cX9_row 4 = .ok (.bipush 6, 2) := by decide +kernel
theorem dX9_row_6 : decode cX9_row 6 = .ok (.iload_n 0, 1) := by decide +kernel
theorem dX9_row_7 : decode cX9_row 7 = .ok (.imul, 1) := by decide +kernel
theorem dX9_row_8 : decode cX9_row 8 = .ok (.iload_n 1, 1) := by decide +kernel
theorem dX9_row_9 : decode cX9_row 9 = .ok (.iadd, 1) := by decide +kernel
theorem dX9_row_10 : decode cX9_row 10 = .ok (.imul, 1) := by decide +kernel
theorem dX9_row_11 : decode cX9_row 11 = .ok (.iadd, 1) := by decide +kernel
theorem dX9_row_12 : decode cX9_row 12 = .ok (.ireturn, 1) := by decide +kernel
theorem dX9_row__0 : decode cX9_row_ 0 = .ok (.aload_n 0, 1) := by decide +kernel
theorem dX9_row__1 : decode cX9_row_ 1 = .ok (.invokevirtual 139, 3) := by decide +kernel
theorem dX9_row__4 : decode cX9_row_ 4 = .ok (.iload_n 1, 1) := by decide +kernel
theorem dX9_row__5 : decode cX9_row_ 5 = .ok (.invokestatic 142, 3) := by decide +kernel
theorem dX9_row__8 : decode cX9_row_ 8 = .ok (.ireturn, 1) := by decide +kernel
theorem dX9_many_0 : decode cX9_many 0 = .ok (.aload_n 0, 1) := by decide +kernel
theorem dX9_many_1 : decode cX9_many 1 = .ok (.getfield 9, 3) := by decide +kernel
theorem dX9_many_4 : decode cX9_many 4 = .ok (.aload_n 0, 1) := by decide +kernel
theorem dX9_many_5 : decode cX9_many 5 = .ok (.iload_n 1, 1) := by decide +kernel
theorem dX9_many_6 : decode cX9_many 6 = .ok (.invokevirtual 146, 3) := by decide +kernel
theorem dX9_many_9 : decode cX9_many 9 = .ok (.laload, 1) := by decide +kernel
theorem dX9_many_10 : decode cX9_many 10 = .ok (.l2i, 1) := by decide +kernel
theorem dX9_many_11 : decode cX9_many 11 = .ok (.ireturn, 1) := by decide +kernel
theorem dX9_isSpan_0 : decode cX9_isSpan 0 = .ok (.aload_n 0, 1) := by decide +kernel
theorem dX9_isSpan_1 : decode cX9_isSpan 1 = .ok (.iload_n 1, 1) := by decide +kernel
theorem dX9_isSpan_2 : decode cX9_isSpan 2 = .ok (.invokevirtual 130, 3) := by decide +kernel
theorem dX9_isSpan_5 : decode cX9_isSpan 5 = .ok (.ifCond .eq 22, 3) := by decide +kernel
theorem dX9_isSpan_8 : decode cX9_isSpan 8 = .ok (.iload_n 2, 1) := by decide +kernel
theorem dX9_isSpan_9 : decode cX9_isSpan 9 = .ok (.iconst 0, 1) := by decide +kernel
theorem dX9_isSpan_10 : decode cX9_isSpan 10 = .ok (.aload_n 0, 1) := by decide +kernel
theorem dX9_isSpan_11 : decode cX9_isSpan 11 = .ok (.iload_n 1, 1) := by decide +kernel
theorem dX9_isSpan_12 : decode cX9_isSpan 12 = .ok (.invokevirtual 149, 3) := by decide +kernel
theorem dX9_isSpan_15 : decode cX9_isSpan 15 = .ok (.iconst 1, 1) := by decide +kernel
theorem dX9_isSpan_16 : decode cX9_isSpan 16 = .ok (.isub, 1) := by decide +kernel
theorem dX9_isSpan_17 : decode cX9_isSpan 17 = .ok (.invokestatic 126, 3) := by decide +kernel
theorem dX9_isSpan_20 : decode cX9_isSpan 20 = .ok (.ifCond .eq 7, 3) := by decide +kernel
theorem dX9_isSpan_23 : decode cX9_isSpan 23 = .ok (.iconst 1, 1) := by decide +kernel
theorem dX9_isSpan_24 : decode cX9_isSpan 24 = .ok (.goto 4, 3) := by decide +kernel
theorem dX9_isSpan_27 : decode cX9_isSpan 27 = .ok (.iconst 0, 1) := by decide +kernel
theorem dX9_isSpan_28 : decode cX9_isSpan 28 = .ok (.ireturn, 1) := by decide +kernel
theorem dX9_at_0 : decode cX9_at 0 = .ok (.aload_n 0, 1) := by decide +kernel
theorem dX9_at_1 : decode cX9_at 1 = .ok (.iload_n 1, 1) := by decide +kernel
theorem dX9_at_2 : decode cX9_at 2 = .ok (.invokevirtual 146, 3) := by decide +kernel
theorem dX9_at_5 : decode cX9_at 5 = .ok (.iconst 1, 1) := by decide +kernel
theorem dX9_at_6 : decode cX9_at 6 = .ok (.iadd, 1) := by decide +kernel
theorem dX9_at_7 : decode cX9_at 7 = .ok (.iconst 3, 1) := by decide +kernel
theorem dX9_at_8 : decode cX9_at 8 = .ok (.iload_n 2, 1) := by decide +kernel
theorem dX9_at_9 : decode cX9_at 9 = .ok (.imul, 1) := by decide +kernel
theorem dX9_at_10 : decode cX9_at 10 = .ok (.iadd, 1) := by decide +kernel
theorem dX9_at_11 : decode cX9_at 11 = .ok (.ireturn, 1) := by decide +kernel
theorem dX9_first_0 : decode cX9_first 0 = .ok (.aload_n 0, 1) := by decide +kernel
theorem dX9_first_1 : decode cX9_first 1 = .ok (.getfield 9, 3) := by decide +kernel
theorem dX9_first_4 : decode cX9_first 4 = .ok (.aload_n 0, 1) := by decide +kernel
theorem dX9_first_5 : decode cX9_first 5 = .ok (.iload_n 1, 1) := by decide +kernel
theorem dX9_first_6 : decode cX9_first 6 = .ok (.iload_n 2, 1) := by decide +kernel
theorem dX9_first_7 : decode cX9_first 7 = .ok (.invokevirtual 152, 3) := by decide +kernel
theorem dX9_first_10 : decode cX9_first 10 = .ok (.laload, 1) := by decide +kernel
theorem dX9_first_11 : decode cX9_first 11 = .ok (.l2i, 1) := by decide +kernel
theorem dX9_first_12 : decode cX9_first 12 = .ok (.ireturn, 1) := by decide +kernel
theorem dX9_end_0 : decode cX9_end 0 = .ok (.aload_n 0, 1) := by decide +kernel
theorem dX9_end_1 : decode cX9_end 1 = .ok (.getfield 9, 3) := by decide +kernel
theorem dX9_end_4 : decode cX9_end 4 = .ok (.aload_n 0, 1) := by decide +kernel
theorem dX9_end_5 : decode cX9_end 5 = .ok (.iload_n 1, 1) := by decide +kernel
theorem dX9_end_6 : decode cX9_end 6 = .ok (.iload_n 2, 1) := by decide +kernel
theorem dX9_end_7 : decode cX9_end 7 = .ok (.invokevirtual 152, 3) := by decide +kernel
theorem dX9_end_10 : decode cX9_end 10 = .ok (.iconst 1, 1) := by decide +kernel
theorem dX9_end_11 : decode cX9_end 11 = .ok (.iadd, 1) := by decide +kernel
theorem dX9_end_12 : decode cX9_end 12 = .ok (.laload, 1) := by decide +kernel
theorem dX9_end_13 : decode cX9_end 13 = .ok (.l2i, 1) := by decide +kernel
theorem dX9_end_14 : decode cX9_end 14 = .ok (.ireturn, 1) := by decide +kernel
theorem dX9_label_0 : decode cX9_label 0 = .ok (.aload_n 0, 1) := by decide +kernel
theorem dX9_label_1 : decode cX9_label 1 = .ok (.getfield 9, 3) := by decide +kernel
theorem dX9_label_4 : decode cX9_label 4 = .ok (.aload_n 0, 1) := by decide +kernel
theorem dX9_label_5 : decode cX9_label 5 = .ok (.iload_n 1, 1) := by decide +kernel
theorem dX9_label_6 : decode cX9_label 6 = .ok (.iload_n 2, 1) := by decide +kernel
theorem dX9_label_7 : decode cX9_label 7 = .ok (.invokevirtual 152, 3) := by decide +kernel
theorem dX9_label_10 : decode cX9_label 10 = .ok (.iconst 2, 1) := by decide +kernel
theorem dX9_label_11 : decode cX9_label 11 = .ok (.iadd, 1) := by decide +kernel
theorem dX9_label_12 : decode cX9_label 12 = .ok (.laload, 1) := by decide +kernel
theorem dX9_label_13 : decode cX9_label 13 = .ok (.lreturn, 1) := by decide +kernel
theorem dX9_takeOut_0 : decode cX9_takeOut 0 = .ok (.aload_n 0, 1) := by decide +kernel
theorem dX9_takeOut_1 : decode cX9_takeOut 1 = .ok (.getfield 9, 3) := by decide +kernel
theorem dX9_takeOut_4 : decode cX9_takeOut 4 = .ok (.aload_n 0, 1) := by decide +kernel
theorem dX9_takeOut_5 : decode cX9_takeOut 5 = .ok (.iload_n 1, 1) := by decide +kernel
theorem dX9_takeOut_6 : decode cX9_takeOut 6 = .ok (.invokevirtual 146, 3) := by decide +kernel
theorem dX9_takeOut_9 : decode cX9_takeOut 9 = .ok (.dup2, 1) := by decide +kernel
theorem dX9_takeOut_10 : decode cX9_takeOut 10 = .ok (.laload, 1) := by decide +kernel
theorem dX9_takeOut_11 : decode cX9_takeOut 11 = .ok (.lconst 1, 1) := by decide +kernel
theorem dX9_takeOut_12 : decode cX9_takeOut 12 = .ok (.lsub, 1) := by decide +kernel
theorem dX9_takeOut_13 : decode cX9_takeOut 13 = .ok (.lastore, 1) := by decide +kernel
theorem dX9_takeOut_14 : decode cX9_takeOut 14 = .ok (.aload_n 0, 1) := by decide +kernel
theorem dX9_takeOut_15 : decode cX9_takeOut 15 = .ok (.getfield 9, 3) := by decide +kernel
theorem dX9_takeOut_18 : decode cX9_takeOut 18 = .ok (.aload_n 0, 1) := by decide +kernel
theorem dX9_takeOut_19 : decode cX9_takeOut 19 = .ok (.iload_n 1, 1) := by decide +kernel
theorem dX9_takeOut_20 : decode cX9_takeOut 20 = .ok (.iload_n 2, 1) := by decide +kernel
theorem dX9_takeOut_21 : decode cX9_takeOut 21 = .ok (.iconst 1, 1) := by decide +kernel
theorem dX9_takeOut_22 : decode cX9_takeOut 22 = .ok (.iadd, 1) := by decide +kernel
theorem dX9_takeOut_23 : decode cX9_takeOut 23 = .ok (.invokevirtual 152, 3) := by decide +kernel
theorem dX9_takeOut_26 : decode cX9_takeOut 26 = .ok (.aload_n 0, 1) := by decide +kernel
theorem dX9_takeOut_27 : decode cX9_takeOut 27 = .ok (.getfield 9, 3) := by decide +kernel
theorem dX9_takeOut_30 : decode cX9_takeOut 30 = .ok (.aload_n 0, 1) := by decide +kernel
theorem dX9_takeOut_31 : decode cX9_takeOut 31 = .ok (.iload_n 1, 1) := by decide +kernel
theorem dX9_takeOut_32 : decode cX9_takeOut 32 = .ok (.iload_n 2, 1) := by decide +kernel
theorem dX9_takeOut_33 : decode cX9_takeOut 33 = .ok (.invokevirtual 152, 3) := by decide +kernel
theorem dX9_takeOut_36 : decode cX9_takeOut 36 = .ok (.iconst 3, 1) := by decide +kernel
theorem dX9_takeOut_37 : decode cX9_takeOut 37 = .ok (.aload_n 0, 1) := by decide +kernel
theorem dX9_takeOut_38 : decode cX9_takeOut 38 = .ok (.iload_n 1, 1) := by decide +kernel
theorem dX9_takeOut_39 : decode cX9_takeOut 39 = .ok (.invokevirtual 149, 3) := by decide +kernel
theorem dX9_takeOut_42 : decode cX9_takeOut 42 = .ok (.iload_n 2, 1) := by decide +kernel
theorem dX9_takeOut_43 : decode cX9_takeOut 43 = .ok (.isub, 1) := by decide +kernel
theorem dX9_takeOut_44 : decode cX9_takeOut 44 = .ok (.imul, 1) := by decide +kernel
theorem dX9_takeOut_45 : decode cX9_takeOut 45 = .ok (.invokestatic 110, 3) := by decide +kernel
theorem dX9_takeOut_48 : decode cX9_takeOut 48 = .ok (.return_, 1) := by decide +kernel
theorem dX9_putIn_0 : decode cX9_putIn 0 = .ok (.iconst 0, 1) := by decide +kernel
theorem dX9_putIn_1 : decode cX9_putIn 1 = .ok (.istore 6, 2) := by decide +kernel
theorem dX9_putIn_3 : decode cX9_putIn 3 = .ok (.iload 6, 2) := by decide +kernel
theorem dX9_putIn_5 : decode cX9_putIn 5 = .ok (.aload_n 0, 1) := by decide +kernel
theorem dX9_putIn_6 : decode cX9_putIn 6 = .ok (.iload_n 1, 1) := by decide +kernel
theorem dX9_putIn_7 : decode cX9_putIn 7 = .ok (.invokevirtual 149, 3) := by decide +kernel
theorem dX9_putIn_10 : decode cX9_putIn 10 = .ok (.if_icmp .ge 20, 3) := by decide +kernel
theorem dX9_putIn_13 : decode cX9_putIn 13 = .ok (.aload_n 0, 1) := by decide +kernel
theorem dX9_putIn_14 : decode cX9_putIn 14 = .ok (.iload_n 1, 1) := by decide +kernel
theorem dX9_putIn_15 : decode cX9_putIn 15 = .ok (.iload 6, 2) := by decide +kernel
theorem dX9_putIn_17 : decode cX9_putIn 17 = .ok (.invokevirtual 155, 3) := by decide +kernel
theorem dX9_putIn_20 : decode cX9_putIn 20 = .ok (.iload_n 2, 1) := by decide +kernel
theorem dX9_putIn_21 : decode cX9_putIn 21 = .ok (.if_icmp .ge 9, 3) := by decide +kernel
theorem dX9_putIn_24 : decode cX9_putIn 24 = .ok (.iinc 6 1, 3) := by decide +kernel
theorem dX9_putIn_27 : decode cX9_putIn 27 = .ok (.goto (-24), 3) := by decide +kernel
theorem dX9_putIn_30 : decode cX9_putIn 30 = .ok (.aload_n 0, 1) := by decide +kernel
theorem dX9_putIn_31 : decode cX9_putIn 31 = .ok (.getfield 9, 3) := by decide +kernel
theorem dX9_putIn_34 : decode cX9_putIn 34 = .ok (.aload_n 0, 1) := by decide +kernel
theorem dX9_putIn_35 : decode cX9_putIn 35 = .ok (.iload_n 1, 1) := by decide +kernel
theorem dX9_putIn_36 : decode cX9_putIn 36 = .ok (.iload 6, 2) := by decide +kernel
theorem dX9_putIn_38 : decode cX9_putIn 38 = .ok (.invokevirtual 152, 3) := by decide +kernel
theorem dX9_putIn_41 : decode cX9_putIn 41 = .ok (.aload_n 0, 1) := by decide +kernel
theorem dX9_putIn_42 : decode cX9_putIn 42 = .ok (.getfield 9, 3) := by decide +kernel
theorem dX9_putIn_45 : decode cX9_putIn 45 = .ok (.aload_n 0, 1) := by decide +kernel
theorem dX9_putIn_46 : decode cX9_putIn 46 = .ok (.iload_n 1, 1) := by decide +kernel
theorem dX9_putIn_47 : decode cX9_putIn 47 = .ok (.iload 6, 2) := by decide +kernel
theorem dX9_putIn_49 : decode cX9_putIn 49 = .ok (.iconst 1, 1) := by decide +kernel
theorem dX9_putIn_50 : decode cX9_putIn 50 = .ok (.iadd, 1) := by decide +kernel
theorem dX9_putIn_51 : decode cX9_putIn 51 = .ok (.invokevirtual 152, 3) := by decide +kernel
theorem dX9_putIn_54 : decode cX9_putIn 54 = .ok (.iconst 3, 1) := by decide +kernel
theorem dX9_putIn_55 : decode cX9_putIn 55 = .ok (.aload_n 0, 1) := by decide +kernel
theorem dX9_putIn_56 : decode cX9_putIn 56 = .ok (.iload_n 1, 1) := by decide +kernel
theorem dX9_putIn_57 : decode cX9_putIn 57 = .ok (.invokevirtual 149, 3) := by decide +kernel
theorem dX9_putIn_60 : decode cX9_putIn 60 = .ok (.iload 6, 2) := by decide +kernel
theorem dX9_putIn_62 : decode cX9_putIn 62 = .ok (.isub, 1) := by decide +kernel
theorem dX9_putIn_63 : decode cX9_putIn 63 = .ok (.imul, 1) := by decide +kernel
theorem dX9_putIn_64 : decode cX9_putIn 64 = .ok (.invokestatic 110, 3) := by decide +kernel
theorem dX9_putIn_67 : decode cX9_putIn 67 = .ok (.aload_n 0, 1) := by decide +kernel
theorem dX9_putIn_68 : decode cX9_putIn 68 = .ok (.getfield 9, 3) := by decide +kernel
theorem dX9_putIn_71 : decode cX9_putIn 71 = .ok (.aload_n 0, 1) := by decide +kernel
theorem dX9_putIn_72 : decode cX9_putIn 72 = .ok (.iload_n 1, 1) := by decide +kernel
theorem dX9_putIn_73 : decode cX9_putIn 73 = .ok (.iload 6, 2) := by decide +kernel
theorem dX9_putIn_75 : decode cX9_putIn 75 = .ok (.invokevirtual 152, 3) := by decide +kernel
theorem dX9_putIn_78 : decode cX9_putIn 78 = .ok (.iload_n 2, 1) := by decide +kernel
theorem dX9_putIn_79 : decode cX9_putIn 79 = .ok (.i2l, 1) := by decide +kernel
theorem dX9_putIn_80 : decode cX9_putIn 80 = .ok (.lastore, 1) := by decide +kernel
theorem dX9_putIn_81 : decode cX9_putIn 81 = .ok (.aload_n 0, 1) := by decide +kernel
theorem dX9_putIn_82 : decode cX9_putIn 82 = .ok (.getfield 9, 3) := by decide +kernel
theorem dX9_putIn_85 : decode cX9_putIn 85 = .ok (.aload_n 0, 1) := by decide +kernel
theorem dX9_putIn_86 : decode cX9_putIn 86 = .ok (.iload_n 1, 1) := by decide +kernel
theorem dX9_putIn_87 : decode cX9_putIn 87 = .ok (.iload 6, 2) := by decide +kernel
theorem dX9_putIn_89 : decode cX9_putIn 89 = .ok (.invokevirtual 152, 3) := by decide +kernel
theorem dX9_putIn_92 : decode cX9_putIn 92 = .ok (.iconst 1, 1) := by decide +kernel
theorem dX9_putIn_93 : decode cX9_putIn 93 = .ok (.iadd, 1) := by decide +kernel
theorem dX9_putIn_94 : decode cX9_putIn 94 = .ok (.iload_n 3, 1) := by decide +kernel
theorem dX9_putIn_95 : decode cX9_putIn 95 = .ok (.i2l, 1) := by decide +kernel
theorem dX9_putIn_96 : decode cX9_putIn 96 = .ok (.lastore, 1) := by decide +kernel
theorem dX9_putIn_97 : decode cX9_putIn 97 = .ok (.aload_n 0, 1) := by decide +kernel
theorem dX9_putIn_98 : decode cX9_putIn 98 = .ok (.getfield 9, 3) := by decide +kernel
theorem dX9_putIn_101 : decode cX9_putIn 101 = .ok (.aload_n 0, 1) := by decide +kernel
theorem dX9_putIn_102 : decode cX9_putIn 102 = .ok (.iload_n 1, 1) := by decide +kernel
theorem dX9_putIn_103 : decode cX9_putIn 103 = .ok (.iload 6, 2) := by decide +kernel
theorem dX9_putIn_105 : decode cX9_putIn 105 = .ok (.invokevirtual 152, 3) := by decide +kernel
theorem dX9_putIn_108 : decode cX9_putIn 108 = .ok (.iconst 2, 1) := by decide +kernel
theorem dX9_putIn_109 : decode cX9_putIn 109 = .ok (.iadd, 1) := by decide +kernel
theorem dX9_putIn_110 : decode cX9_putIn 110 = .ok (.lload 4, 2) := by decide +kernel
theorem dX9_putIn_112 : decode cX9_putIn 112 = .ok (.lastore, 1) := by decide +kernel
theorem dX9_putIn_113 : decode cX9_putIn 113 = .ok (.aload_n 0, 1) := by decide +kernel
theorem dX9_putIn_114 : decode cX9_putIn 114 = .ok (.getfield 9, 3) := by decide +kernel
theorem dX9_putIn_117 : decode cX9_putIn 117 = .ok (.aload_n 0, 1) := by decide +kernel
theorem dX9_putIn_118 : decode cX9_putIn 118 = .ok (.iload_n 1, 1) := by decide +kernel
theorem dX9_putIn_119 : decode cX9_putIn 119 = .ok (.invokevirtual 146, 3) := by decide +kernel
theorem dX9_putIn_122 : decode cX9_putIn 122 = .ok (.dup2, 1) := by decide +kernel
theorem dX9_putIn_123 : decode cX9_putIn 123 = .ok (.laload, 1) := by decide +kernel
theorem dX9_putIn_124 : decode cX9_putIn 124 = .ok (.lconst 1, 1) := by decide +kernel
theorem dX9_putIn_125 : decode cX9_putIn 125 = .ok (.ladd, 1) := by decide +kernel
theorem dX9_putIn_126 : decode cX9_putIn 126 = .ok (.lastore, 1) := by decide +kernel
theorem dX9_putIn_127 : decode cX9_putIn 127 = .ok (.iload 6, 2) := by decide +kernel
theorem dX9_putIn_129 : decode cX9_putIn 129 = .ok (.ireturn, 1) := by decide +kernel
theorem dX9_hostOf_0 : decode cX9_hostOf 0 = .ok (.aload_n 0, 1) := by decide +kernel
theorem dX9_hostOf_1 : decode cX9_hostOf 1 = .ok (.iload_n 1, 1) := by decide +kernel
theorem dX9_hostOf_2 : decode cX9_hostOf 2 = .ok (.invokevirtual 158, 3) := by decide +kernel
theorem dX9_hostOf_5 : decode cX9_hostOf 5 = .ok (.istore 4, 2) := by decide +kernel
theorem dX9_hostOf_7 : decode cX9_hostOf 7 = .ok (.aload_n 0, 1) := by decide +kernel
theorem dX9_hostOf_8 : decode cX9_hostOf 8 = .ok (.iload_n 1, 1) := by decide +kernel
theorem dX9_hostOf_9 : decode cX9_hostOf 9 = .ok (.invokevirtual 161, 3) := by decide +kernel
theorem dX9_hostOf_12 : decode cX9_hostOf 12 = .ok (.istore 5, 2) := by decide +kernel
theorem dX9_hostOf_14 : decode cX9_hostOf 14 = .ok (.iconst 0, 1) := by decide +kernel
theorem dX9_hostOf_15 : decode cX9_hostOf 15 = .ok (.istore 6, 2) := by decide +kernel
theorem dX9_hostOf_17 : decode cX9_hostOf 17 = .ok (.iload 4, 2) := by decide +kernel
theorem dX9_hostOf_19 : decode cX9_hostOf 19 = .ok (.ifCond .le 99, 3) := by decide +kernel
theorem dX9_hostOf_22 : decode cX9_hostOf 22 = .ok (.iload 6, 2) := by decide +kernel
theorem dX9_hostOf_24 : decode cX9_hostOf 24 = .ok (.aload_n 0, 1) := by decide +kernel
theorem dX9_hostOf_25 : decode cX9_hostOf 25 = .ok (.iload 5, 2) := by decide +kernel
theorem dX9_hostOf_27 : decode cX9_hostOf 27 = .ok (.invokevirtual 149, 3) := by decide +kernel
theorem dX9_hostOf_30 : decode cX9_hostOf 30 = .ok (.if_icmp .ge 88, 3) := by decide +kernel
theorem dX9_hostOf_33 : decode cX9_hostOf 33 = .ok (.aload_n 0, 1) := by decide +kernel
theorem dX9_hostOf_34 : decode cX9_hostOf 34 = .ok (.iload 5, 2) := by decide +kernel
theorem dX9_hostOf_36 : decode cX9_hostOf 36 = .ok (.iload 6, 2) := by decide +kernel
theorem dX9_hostOf_38 : decode cX9_hostOf 38 = .ok (.invokevirtual 155, 3) := by decide +kernel
theorem dX9_hostOf_41 : decode cX9_hostOf 41 = .ok (.istore 7, 2) := by decide +kernel
theorem dX9_hostOf_43 : decode cX9_hostOf 43 = .ok (.aload_n 0, 1) := by decide +kernel
theorem dX9_hostOf_44 : decode cX9_hostOf 44 = .ok (.iload 5, 2) := by decide +kernel
theorem dX9_hostOf_46 : decode cX9_hostOf 46 = .ok (.iload 6, 2) := by decide +kernel
theorem dX9_hostOf_48 : decode cX9_hostOf 48 = .ok (.invokevirtual 164, 3) := by decide +kernel
theorem dX9_hostOf_51 : decode cX9_hostOf 51 = .ok (.istore 8, 2) := by decide +kernel
theorem dX9_hostOf_53 : decode cX9_hostOf 53 = .ok (.iload 4, 2) := by decide +kernel
theorem dX9_hostOf_55 : decode cX9_hostOf 55 = .ok (.iconst 1, 1) := by decide +kernel
theorem dX9_hostOf_56 : decode cX9_hostOf 56 = .ok (.if_icmp .ne 23, 3) := by decide +kernel
theorem dX9_hostOf_59 : decode cX9_hostOf 59 = .ok (.iload 7, 2) := by decide +kernel
theorem dX9_hostOf_61 : decode cX9_hostOf 61 = .ok (.iload_n 2, 1) := by decide +kernel
theorem dX9_hostOf_62 : decode cX9_hostOf 62 = .ok (.if_icmp .gt 13, 3) := by decide +kernel
theorem dX9_hostOf_65 : decode cX9_hostOf 65 = .ok (.iload_n 3, 1) := by decide +kernel
theorem dX9_hostOf_66 : decode cX9_hostOf 66 = .ok (.iload 8, 2) := by decide +kernel
theorem dX9_hostOf_68 : decode cX9_hostOf 68 = .ok (.if_icmp .gt 7, 3) := by decide +kernel
theorem dX9_hostOf_71 : decode cX9_hostOf 71 = .ok (.iconst 1, 1) := by decide +kernel
theorem dX9_hostOf_72 : decode cX9_hostOf 72 = .ok (.goto 30, 3) := by decide +kernel
theorem dX9_hostOf_75 : decode cX9_hostOf 75 = .ok (.iconst 0, 1) := by decide +kernel
theorem dX9_hostOf_76 : decode cX9_hostOf 76 = .ok (.goto 26, 3) := by decide +kernel
theorem dX9_hostOf_79 : decode cX9_hostOf 79 = .ok (.iload 7, 2) := by decide +kernel
theorem dX9_hostOf_81 : decode cX9_hostOf 81 = .ok (.iload_n 2, 1) := by decide +kernel
theorem dX9_hostOf_82 : decode cX9_hostOf 82 = .ok (.if_icmp .ne 19, 3) := by decide +kernel
theorem dX9_hostOf_85 : decode cX9_hostOf 85 = .ok (.iload 4, 2) := by decide +kernel
theorem dX9_hostOf_87 : decode cX9_hostOf 87 = .ok (.iconst 3, 1) := by decide +kernel
theorem dX9_hostOf_88 : decode cX9_hostOf 88 = .ok (.if_icmp .eq 9, 3) := by decide +kernel
theorem dX9_hostOf_91 : decode cX9_hostOf 91 = .ok (.iload 8, 2) := by decide +kernel
theorem dX9_hostOf_93 : decode cX9_hostOf 93 = .ok (.iload_n 3, 1) := by decide +kernel
theorem dX9_hostOf_94 : decode cX9_hostOf 94 = .ok (.if_icmp .ne 7, 3) := by decide +kernel
theorem dX9_hostOf_97 : decode cX9_hostOf 97 = .ok (.iconst 1, 1) := by decide +kernel
theorem dX9_hostOf_98 : decode cX9_hostOf 98 = .ok (.goto 4, 3) := by decide +kernel
theorem dX9_hostOf_101 : decode cX9_hostOf 101 = .ok (.iconst 0, 1) := by decide +kernel
theorem dX9_hostOf_102 : decode cX9_hostOf 102 = .ok (.istore 9, 2) := by decide +kernel
theorem dX9_hostOf_104 : decode cX9_hostOf 104 = .ok (.iload 9, 2) := by decide +kernel
theorem dX9_hostOf_106 : decode cX9_hostOf 106 = .ok (.ifCond .eq 6, 3) := by decide +kernel
theorem dX9_hostOf_109 : decode cX9_hostOf 109 = .ok (.iload 6, 2) := by decide +kernel
theorem dX9_hostOf_111 : decode cX9_hostOf 111 = .ok (.ireturn, 1) := by decide +kernel
theorem dX9_hostOf_112 : decode cX9_hostOf 112 = .ok (.iinc 6 1, 3) := by decide +kernel
theorem dX9_hostOf_115 : decode cX9_hostOf 115 = .ok (.goto (-98), 3) := by decide +kernel
theorem dX9_hostOf_118 : decode cX9_hostOf 118 = .ok (.iconst (-1), 1) := by decide +kernel
theorem dX9_hostOf_119 : decode cX9_hostOf 119 = .ok (.ireturn, 1) := by decide +kernel
theorem dX9_lacksHost_0 : decode cX9_lacksHost 0 = .ok (.aload_n 0, 1) := by decide +kernel
theorem dX9_lacksHost_1 : decode cX9_lacksHost 1 = .ok (.iload_n 1, 1) := by decide +kernel
theorem dX9_lacksHost_2 : decode cX9_lacksHost 2 = .ok (.invokevirtual 158, 3) := by decide +kernel
theorem dX9_lacksHost_5 : decode cX9_lacksHost 5 = .ok (.ifCond .le 17, 3) := by decide +kernel
theorem dX9_lacksHost_8 : decode cX9_lacksHost 8 = .ok (.aload_n 0, 1) := by decide +kernel
theorem dX9_lacksHost_9 : decode cX9_lacksHost 9 = .ok (.iload_n 1, 1) := by decide +kernel
theorem dX9_lacksHost_10 : decode cX9_lacksHost 10 = .ok (.iload_n 2, 1) := by decide +kernel
theorem dX9_lacksHost_11 : decode cX9_lacksHost 11 = .ok (.iload_n 3, 1) := by decide +kernel
theorem dX9_lacksHost_12 : decode cX9_lacksHost 12 = .ok (.invokevirtual 167, 3) := by decide +kernel
theorem dX9_lacksHost_15 : decode cX9_lacksHost 15 = .ok (.ifCond .ge 7, 3) := by decide +kernel
theorem dX9_lacksHost_18 : decode cX9_lacksHost 18 = .ok (.iconst 1, 1) := by decide +kernel
theorem dX9_lacksHost_19 : decode cX9_lacksHost 19 = .ok (.goto 4, 3) := by decide +kernel
theorem dX9_lacksHost_22 : decode cX9_lacksHost 22 = .ok (.iconst 0, 1) := by decide +kernel
theorem dX9_lacksHost_23 : decode cX9_lacksHost 23 = .ok (.ireturn, 1) := by decide +kernel
theorem dX9_hostless_0 : decode cX9_hostless 0 = .ok (.iconst 0, 1) := by decide +kernel
theorem dX9_hostless_1 : decode cX9_hostless 1 = .ok (.istore_n 2, 1) := by decide +kernel
theorem dX9_hostless_2 : decode cX9_hostless 2 = .ok (.iload_n 2, 1) := by decide +kernel
theorem dX9_hostless_3 : decode cX9_hostless 3 = .ok (.aload_n 0, 1) := by decide +kernel
theorem dX9_hostless_4 : decode cX9_hostless 4 = .ok (.iload_n 1, 1) := by decide +kernel
theorem dX9_hostless_5 : decode cX9_hostless 5 = .ok (.invokevirtual 149, 3) := by decide +kernel
theorem dX9_hostless_8 : decode cX9_hostless 8 = .ok (.if_icmp .ge 29, 3) := by decide +kernel
theorem dX9_hostless_11 : decode cX9_hostless 11 = .ok (.aload_n 0, 1) := by decide +kernel
theorem dX9_hostless_12 : decode cX9_hostless 12 = .ok (.iload_n 1, 1) := by decide +kernel
theorem dX9_hostless_13 : decode cX9_hostless 13 = .ok (.aload_n 0, 1) := by decide +kernel
theorem dX9_hostless_14 : decode cX9_hostless 14 = .ok (.iload_n 1, 1) := by decide +kernel
theorem dX9_hostless_15 : decode cX9_hostless 15 = .ok (.iload_n 2, 1) := by decide +kernel
theorem dX9_hostless_16 : decode cX9_hostless 16 = .ok (.invokevirtual 155, 3) := by decide +kernel
theorem dX9_hostless_19 : decode cX9_hostless 19 = .ok (.aload_n 0, 1) := by decide +kernel
theorem dX9_hostless_20 : decode cX9_hostless 20 = .ok (.iload_n 1, 1) := by decide +kernel
theorem dX9_hostless_21 : decode cX9_hostless 21 = .ok (.iload_n 2, 1) := by decide +kernel
theorem dX9_hostless_22 : decode cX9_hostless 22 = .ok (.invokevirtual 164, 3) := by decide +kernel
theorem dX9_hostless_25 : decode cX9_hostless 25 = .ok (.invokevirtual 171, 3) := by decide +kernel
theorem dX9_hostless_28 : decode cX9_hostless 28 = .ok (.ifCond .ne 9, 3) := by decide +kernel
theorem dX9_hostless_31 : decode cX9_hostless 31 = .ok (.iinc 2 1, 3) := by decide +kernel
theorem dX9_hostless_34 : decode cX9_hostless 34 = .ok (.goto (-32), 3) := by decide +kernel
theorem dX9_hostless_37 : decode cX9_hostless 37 = .ok (.iload_n 2, 1) := by decide +kernel
theorem dX9_hostless_38 : decode cX9_hostless 38 = .ok (.aload_n 0, 1) := by decide +kernel
theorem dX9_hostless_39 : decode cX9_hostless 39 = .ok (.iload_n 1, 1) := by decide +kernel
theorem dX9_hostless_40 : decode cX9_hostless 40 = .ok (.invokevirtual 149, 3) := by decide +kernel
theorem dX9_hostless_43 : decode cX9_hostless 43 = .ok (.if_icmp .ge 7, 3) := by decide +kernel
theorem dX9_hostless_46 : decode cX9_hostless 46 = .ok (.iload_n 2, 1) := by decide +kernel
theorem dX9_hostless_47 : decode cX9_hostless 47 = .ok (.goto 4, 3) := by decide +kernel
theorem dX9_hostless_50 : decode cX9_hostless 50 = .ok (.iconst (-1), 1) := by decide +kernel
theorem dX9_hostless_51 : decode cX9_hostless 51 = .ok (.ireturn, 1) := by decide +kernel
theorem dX9_hostlessTier_0 : decode cX9_hostlessTier 0 = .ok (.iconst 0, 1) := by decide +kernel
theorem dX9_hostlessTier_1 : decode cX9_hostlessTier 1 = .ok (.istore_n 1, 1) := by decide +kernel
theorem dX9_hostlessTier_2 : decode cX9_hostlessTier 2 = .ok (.iload_n 1, 1) := by decide +kernel
theorem dX9_hostlessTier_3 : decode cX9_hostlessTier 3 = .ok (.aload_n 0, 1) := by decide +kernel
theorem dX9_hostlessTier_4 : decode cX9_hostlessTier 4 = .ok (.invokevirtual 122, 3) := by decide +kernel
theorem dX9_hostlessTier_7 : decode cX9_hostlessTier 7 = .ok (.if_icmp .ge 17, 3) := by decide +kernel
theorem dX9_hostlessTier_10 : decode cX9_hostlessTier 10 = .ok (.aload_n 0, 1) := by decide +kernel
theorem dX9_hostlessTier_11 : decode cX9_hostlessTier 11 = .ok (.iload_n 1, 1) := by decide +kernel
theorem dX9_hostlessTier_12 : decode cX9_hostlessTier 12 = .ok (.invokevirtual 174, 3) := by decide +kernel
theorem dX9_hostlessTier_15 : decode cX9_hostlessTier 15 = .ok (.ifCond .ge 9, 3) := by decide +kernel
theorem dX9_hostlessTier_18 : decode cX9_hostlessTier 18 = .ok (.iinc 1 1, 3) := by decide +kernel
theorem dX9_hostlessTier_21 : decode cX9_hostlessTier 21 = .ok (.goto (-19), 3) := by decide +kernel
theorem dX9_hostlessTier_24 : decode cX9_hostlessTier 24 = .ok (.iload_n 1, 1) := by decide +kernel
theorem dX9_hostlessTier_25 : decode cX9_hostlessTier 25 = .ok (.aload_n 0, 1) := by decide +kernel
theorem dX9_hostlessTier_26 : decode cX9_hostlessTier 26 = .ok (.invokevirtual 122, 3) := by decide +kernel
theorem dX9_hostlessTier_29 : decode cX9_hostlessTier 29 = .ok (.if_icmp .ge 7, 3) := by decide +kernel
theorem dX9_hostlessTier_32 : decode cX9_hostlessTier 32 = .ok (.iload_n 1, 1) := by decide +kernel
theorem dX9_hostlessTier_33 : decode cX9_hostlessTier 33 = .ok (.goto 4, 3) := by decide +kernel
theorem dX9_hostlessTier_36 : decode cX9_hostlessTier 36 = .ok (.iconst (-1), 1) := by decide +kernel
theorem dX9_hostlessTier_37 : decode cX9_hostlessTier 37 = .ok (.ireturn, 1) := by decide +kernel
theorem dX9_framesOf_0 : decode cX9_framesOf 0 = .ok (.iload_n 1, 1) := by decide +kernel
theorem dX9_framesOf_1 : decode cX9_framesOf 1 = .ok (.iload_n 2, 1) := by decide +kernel
theorem dX9_framesOf_2 : decode cX9_framesOf 2 = .ok (.invokestatic 142, 3) := by decide +kernel
theorem dX9_framesOf_5 : decode cX9_framesOf 5 = .ok (.istore_n 3, 1) := by decide +kernel
theorem dX9_framesOf_6 : decode cX9_framesOf 6 = .ok (.iconst 0, 1) := by decide +kernel
theorem dX9_framesOf_7 : decode cX9_framesOf 7 = .ok (.istore 4, 2) := by decide +kernel
theorem dX9_framesOf_9 : decode cX9_framesOf 9 = .ok (.iconst 0, 1) := by decide +kernel
theorem dX9_framesOf_10 : decode cX9_framesOf 10 = .ok (.istore 5, 2) := by decide +kernel
theorem dX9_framesOf_12 : decode cX9_framesOf 12 = .ok (.iload 5, 2) := by decide +kernel
theorem dX9_framesOf_14 : decode cX9_framesOf 14 = .ok (.i2l, 1) := by decide +kernel
theorem dX9_framesOf_15 : decode cX9_framesOf 15 = .ok (.aload_n 0, 1) := by decide +kernel
theorem dX9_framesOf_16 : decode cX9_framesOf 16 = .ok (.getfield 9, 3) := by decide +kernel
theorem dX9_framesOf_19 : decode cX9_framesOf 19 = .ok (.iload_n 3, 1) := by decide +kernel
theorem dX9_framesOf_20 : decode cX9_framesOf 20 = .ok (.laload, 1) := by decide +kernel
theorem dX9_framesOf_21 : decode cX9_framesOf 21 = .ok (.lcmp, 1) := by decide +kernel
theorem dX9_framesOf_22 : decode cX9_framesOf 22 = .ok (.ifCond .ge 42, 3) := by decide +kernel
theorem dX9_framesOf_25 : decode cX9_framesOf 25 = .ok (.iload 4, 2) := by decide +kernel
theorem dX9_framesOf_27 : decode cX9_framesOf 27 = .ok (.aload_n 0, 1) := by decide +kernel
theorem dX9_framesOf_28 : decode cX9_framesOf 28 = .ok (.getfield 9, 3) := by decide +kernel
theorem dX9_framesOf_31 : decode cX9_framesOf 31 = .ok (.iload_n 3, 1) := by decide +kernel
theorem dX9_framesOf_32 : decode cX9_framesOf 32 = .ok (.iconst 2, 1) := by decide +kernel
theorem dX9_framesOf_33 : decode cX9_framesOf 33 = .ok (.iadd, 1) := by decide +kernel
theorem dX9_framesOf_34 : decode cX9_framesOf 34 = .ok (.iconst 3, 1) := by decide +kernel
theorem dX9_framesOf_35 : decode cX9_framesOf 35 = .ok (.iload 5, 2) := by decide +kernel
theorem dX9_framesOf_37 : decode cX9_framesOf 37 = .ok (.imul, 1) := by decide +kernel
theorem dX9_framesOf_38 : decode cX9_framesOf 38 = .ok (.iadd, 1) := by decide +kernel
theorem dX9_framesOf_39 : decode cX9_framesOf 39 = .ok (.laload, 1) := by decide +kernel
theorem dX9_framesOf_40 : decode cX9_framesOf 40 = .ok (.aload_n 0, 1) := by decide +kernel
theorem dX9_framesOf_41 : decode cX9_framesOf 41 = .ok (.getfield 9, 3) := by decide +kernel
theorem dX9_framesOf_44 : decode cX9_framesOf 44 = .ok (.iload_n 3, 1) := by decide +kernel
theorem dX9_framesOf_45 : decode cX9_framesOf 45 = .ok (.iconst 1, 1) := by decide +kernel
theorem dX9_framesOf_46 : decode cX9_framesOf 46 = .ok (.iadd, 1) := by decide +kernel
theorem dX9_framesOf_47 : decode cX9_framesOf 47 = .ok (.iconst 3, 1) := by decide +kernel
theorem dX9_framesOf_48 : decode cX9_framesOf 48 = .ok (.iload 5, 2) := by decide +kernel
theorem dX9_framesOf_50 : decode cX9_framesOf 50 = .ok (.imul, 1) := by decide +kernel
theorem dX9_framesOf_51 : decode cX9_framesOf 51 = .ok (.iadd, 1) := by decide +kernel
theorem dX9_framesOf_52 : decode cX9_framesOf 52 = .ok (.laload, 1) := by decide +kernel
theorem dX9_framesOf_53 : decode cX9_framesOf 53 = .ok (.lsub, 1) := by decide +kernel
theorem dX9_framesOf_54 : decode cX9_framesOf 54 = .ok (.l2i, 1) := by decide +kernel
theorem dX9_framesOf_55 : decode cX9_framesOf 55 = .ok (.iadd, 1) := by decide +kernel
theorem dX9_framesOf_56 : decode cX9_framesOf 56 = .ok (.istore 4, 2) := by decide +kernel
theorem dX9_framesOf_58 : decode cX9_framesOf 58 = .ok (.iinc 5 1, 3) := by decide +kernel
theorem dX9_framesOf_61 : decode cX9_framesOf 61 = .ok (.goto (-49), 3) := by decide +kernel
theorem dX9_framesOf_64 : decode cX9_framesOf 64 = .ok (.iload 4, 2) := by decide +kernel
theorem dX9_framesOf_66 : decode cX9_framesOf 66 = .ok (.ireturn, 1) := by decide +kernel
theorem dX9_differentLabels_0 : decode cX9_differentLabels 0 = .ok (.iconst 0, 1) := by decide +kernel
theorem dX9_differentLabels_1 : decode cX9_differentLabels 1 = .ok (.istore_n 2, 1) := by decide +kernel
theorem dX9_differentLabels_2 : decode cX9_differentLabels 2 = .ok (.iconst 0, 1) := by decide +kernel
theorem dX9_differentLabels_3 : decode cX9_differentLabels 3 = .ok (.istore_n 3, 1) := by decide +kernel
theorem dX9_differentLabels_4 : decode cX9_differentLabels 4 = .ok (.iload_n 3, 1) := by decide +kernel
theorem dX9_differentLabels_5 : decode cX9_differentLabels 5 = .ok (.aload_n 0, 1) := by decide +kernel
theorem dX9_differentLabels_6 : decode cX9_differentLabels 6 = .ok (.iload_n 1, 1) := by decide +kernel
theorem dX9_differentLabels_7 : decode cX9_differentLabels 7 = .ok (.invokevirtual 149, 3) := by decide +kernel
theorem dX9_differentLabels_10 : decode cX9_differentLabels 10 = .ok (.if_icmp .ge 69, 3) := by decide +kernel
theorem dX9_differentLabels_13 : decode cX9_differentLabels 13 = .ok (.iconst 1, 1) := by decide +kernel
theorem dX9_differentLabels_14 : decode cX9_differentLabels 14 = .ok (.istore 4, 2) := by decide +kernel
theorem dX9_differentLabels_16 : decode cX9_differentLabels 16 = .ok (.iconst 0, 1) := by decide +kernel
theorem dX9_differentLabels_17 : decode cX9_differentLabels 17 = .ok (.istore 5, 2) := by decide +kernel
theorem dX9_differentLabels_19 : decode cX9_differentLabels 19 = .ok (.iload 5, 2) := by decide +kernel
theorem dX9_differentLabels_21 : decode cX9_differentLabels 21 = .ok (.iload_n 3, 1) := by decide +kernel
theorem dX9_differentLabels_22 : decode cX9_differentLabels 22 = .ok (.if_icmp .ge 38, 3) := by decide +kernel
theorem dX9_differentLabels_25 : decode cX9_differentLabels 25 = .ok (.iload 4, 2) := by decide +kernel
theorem dX9_differentLabels_27 : decode cX9_differentLabels 27 = .ok (.ifCond .eq 24, 3) := by decide +kernel
theorem dX9_differentLabels_30 : decode cX9_differentLabels 30 = .ok (.aload_n 0, 1) := by decide +kernel
theorem dX9_differentLabels_31 : decode cX9_differentLabels 31 = .ok (.iload_n 1, 1) := by decide +kernel
theorem dX9_differentLabels_32 : decode cX9_differentLabels 32 = .ok (.iload 5, 2) := by decide +kernel
theorem dX9_differentLabels_34 : decode cX9_differentLabels 34 = .ok (.invokevirtual 177, 3) := by decide +kernel
theorem dX9_differentLabels_37 : decode cX9_differentLabels 37 = .ok (.aload_n 0, 1) := by decide +kernel
theorem dX9_differentLabels_38 : decode cX9_differentLabels 38 = .ok (.iload_n 1, 1) := by decide +kernel
theorem dX9_differentLabels_39 : decode cX9_differentLabels 39 = .ok (.iload_n 3, 1) := by decide +kernel
theorem dX9_differentLabels_40 : decode cX9_differentLabels 40 = .ok (.invokevirtual 177, 3) := by decide +kernel
theorem dX9_differentLabels_43 : decode cX9_differentLabels 43 = .ok (.lcmp, 1) := by decide +kernel
theorem dX9_differentLabels_44 : decode cX9_differentLabels 44 = .ok (.ifCond .eq 7, 3) := by decide +kernel
theorem dX9_differentLabels_47 : decode cX9_differentLabels 47 = .ok (.iconst 1, 1) := by decide +kernel
theorem dX9_differentLabels_48 : decode cX9_differentLabels 48 = .ok (.goto 4, 3) := by decide +kernel
theorem dX9_differentLabels_51 : decode cX9_differentLabels 51 = .ok (.iconst 0, 1) := by decide +kernel
theorem dX9_differentLabels_52 : decode cX9_differentLabels 52 = .ok (.istore 4, 2) := by decide +kernel
theorem dX9_differentLabels_54 : decode cX9_differentLabels 54 = .ok (.iinc 5 1, 3) := by decide +kernel
theorem dX9_differentLabels_57 : decode cX9_differentLabels 57 = .ok (.goto (-38), 3) := by decide +kernel
theorem dX9_differentLabels_60 : decode cX9_differentLabels 60 = .ok (.iload_n 2, 1) := by decide +kernel
theorem dX9_differentLabels_61 : decode cX9_differentLabels 61 = .ok (.iload 4, 2) := by decide +kernel
theorem dX9_differentLabels_63 : decode cX9_differentLabels 63 = .ok (.ifCond .eq 7, 3) := by decide +kernel
theorem dX9_differentLabels_66 : decode cX9_differentLabels 66 = .ok (.iconst 1, 1) := by decide +kernel
theorem dX9_differentLabels_67 : decode cX9_differentLabels 67 = .ok (.goto 4, 3) := by decide +kernel
theorem dX9_differentLabels_70 : decode cX9_differentLabels 70 = .ok (.iconst 0, 1) := by decide +kernel
theorem dX9_differentLabels_71 : decode cX9_differentLabels 71 = .ok (.iadd, 1) := by decide +kernel
theorem dX9_differentLabels_72 : decode cX9_differentLabels 72 = .ok (.istore_n 2, 1) := by decide +kernel
theorem dX9_differentLabels_73 : decode cX9_differentLabels 73 = .ok (.iinc 3 1, 3) := by decide +kernel
theorem dX9_differentLabels_76 : decode cX9_differentLabels 76 = .ok (.goto (-72), 3) := by decide +kernel
theorem dX9_differentLabels_79 : decode cX9_differentLabels 79 = .ok (.iload_n 2, 1) := by decide +kernel
theorem dX9_differentLabels_80 : decode cX9_differentLabels 80 = .ok (.ireturn, 1) := by decide +kernel
theorem dX9_tier_0 : decode cX9_tier 0 = .ok (.aload_n 0, 1) := by decide +kernel
theorem dX9_tier_1 : decode cX9_tier 1 = .ok (.aload_n 0, 1) := by decide +kernel
theorem dX9_tier_2 : decode cX9_tier 2 = .ok (.iload_n 1, 1) := by decide +kernel
theorem dX9_tier_3 : decode cX9_tier 3 = .ok (.invokevirtual 130, 3) := by decide +kernel
theorem dX9_tier_6 : decode cX9_tier 6 = .ok (.ifCond .ne 7, 3) := by decide +kernel
theorem dX9_tier_9 : decode cX9_tier 9 = .ok (.iconst 1, 1) := by decide +kernel
theorem dX9_tier_10 : decode cX9_tier 10 = .ok (.goto 18, 3) := by decide +kernel
theorem dX9_tier_13 : decode cX9_tier 13 = .ok (.iload_n 2, 1) := by decide +kernel
theorem dX9_tier_14 : decode cX9_tier 14 = .ok (.iconst 0, 1) := by decide +kernel
theorem dX9_tier_15 : decode cX9_tier 15 = .ok (.bipush 7, 2) := by decide +kernel
theorem dX9_tier_17 : decode cX9_tier 17 = .ok (.invokestatic 126, 3) := by decide +kernel
theorem dX9_tier_20 : decode cX9_tier 20 = .ok (.ifCond .ne 7, 3) := by decide +kernel
theorem dX9_tier_23 : decode cX9_tier 23 = .ok (.iconst 2, 1) := by decide +kernel
theorem dX9_tier_24 : decode cX9_tier 24 = .ok (.goto 4, 3) := by decide +kernel
theorem dX9_tier_27 : decode cX9_tier 27 = .ok (.iconst 0, 1) := by decide +kernel
theorem dX9_tier_28 : decode cX9_tier 28 = .ok (.putfield 97, 3) := by decide +kernel
theorem dX9_tier_31 : decode cX9_tier 31 = .ok (.aload_n 0, 1) := by decide +kernel
theorem dX9_tier_32 : decode cX9_tier 32 = .ok (.getfield 97, 3) := by decide +kernel
theorem dX9_tier_35 : decode cX9_tier 35 = .ok (.ifCond .le 5, 3) := by decide +kernel
theorem dX9_tier_38 : decode cX9_tier 38 = .ok (.iconst 0, 1) := by decide +kernel
theorem dX9_tier_39 : decode cX9_tier 39 = .ok (.ireturn, 1) := by decide +kernel
theorem dX9_tier_40 : decode cX9_tier 40 = .ok (.iload_n 2, 1) := by decide +kernel
theorem dX9_tier_41 : decode cX9_tier 41 = .ok (.tableswitch 117 3 7 #[35, 41, 51, 68, 111], 35) := by decide +kernel
theorem dX9_tier_76 : decode cX9_tier 76 = .ok (.aload_n 0, 1) := by decide +kernel
theorem dX9_tier_77 : decode cX9_tier 77 = .ok (.iload_n 1, 1) := by decide +kernel
theorem dX9_tier_78 : decode cX9_tier 78 = .ok (.invokevirtual 149, 3) := by decide +kernel
theorem dX9_tier_81 : decode cX9_tier 81 = .ok (.ireturn, 1) := by decide +kernel
theorem dX9_tier_82 : decode cX9_tier 82 = .ok (.aload_n 0, 1) := by decide +kernel
theorem dX9_tier_83 : decode cX9_tier 83 = .ok (.aload_n 0, 1) := by decide +kernel
theorem dX9_tier_84 : decode cX9_tier 84 = .ok (.invokevirtual 139, 3) := by decide +kernel
theorem dX9_tier_87 : decode cX9_tier 87 = .ok (.iload_n 1, 1) := by decide +kernel
theorem dX9_tier_88 : decode cX9_tier 88 = .ok (.invokevirtual 181, 3) := by decide +kernel
theorem dX9_tier_91 : decode cX9_tier 91 = .ok (.ireturn, 1) := by decide +kernel
theorem dX9_tier_92 : decode cX9_tier 92 = .ok (.aload_n 0, 1) := by decide +kernel
theorem dX9_tier_93 : decode cX9_tier 93 = .ok (.getfield 9, 3) := by decide +kernel
theorem dX9_tier_96 : decode cX9_tier 96 = .ok (.iconst 1, 1) := by decide +kernel
theorem dX9_tier_97 : decode cX9_tier 97 = .ok (.aload_n 0, 1) := by decide +kernel
theorem dX9_tier_98 : decode cX9_tier 98 = .ok (.invokevirtual 139, 3) := by decide +kernel
theorem dX9_tier_101 : decode cX9_tier 101 = .ok (.isub, 1) := by decide +kernel
theorem dX9_tier_102 : decode cX9_tier 102 = .ok (.iload_n 1, 1) := by decide +kernel
theorem dX9_tier_103 : decode cX9_tier 103 = .ok (.invokestatic 142, 3) := by decide +kernel
theorem dX9_tier_106 : decode cX9_tier 106 = .ok (.laload, 1) := by decide +kernel
theorem dX9_tier_107 : decode cX9_tier 107 = .ok (.l2i, 1) := by decide +kernel
theorem dX9_tier_108 : decode cX9_tier 108 = .ok (.ireturn, 1) := by decide +kernel
theorem dX9_tier_109 : decode cX9_tier 109 = .ok (.iconst 0, 1) := by decide +kernel
theorem dX9_tier_110 : decode cX9_tier 110 = .ok (.istore_n 3, 1) := by decide +kernel
theorem dX9_tier_111 : decode cX9_tier 111 = .ok (.iconst 0, 1) := by decide +kernel
theorem dX9_tier_112 : decode cX9_tier 112 = .ok (.istore 4, 2) := by decide +kernel
theorem dX9_tier_114 : decode cX9_tier 114 = .ok (.iload 4, 2) := by decide +kernel
theorem dX9_tier_116 : decode cX9_tier 116 = .ok (.aload_n 0, 1) := by decide +kernel
theorem dX9_tier_117 : decode cX9_tier 117 = .ok (.invokevirtual 122, 3) := by decide +kernel
theorem dX9_tier_120 : decode cX9_tier 120 = .ok (.if_icmp .ge 30, 3) := by decide +kernel
theorem dX9_tier_123 : decode cX9_tier 123 = .ok (.iload_n 3, 1) := by decide +kernel
theorem dX9_tier_124 : decode cX9_tier 124 = .ok (.aload_n 0, 1) := by decide +kernel
theorem dX9_tier_125 : decode cX9_tier 125 = .ok (.iload 4, 2) := by decide +kernel
theorem dX9_tier_127 : decode cX9_tier 127 = .ok (.invokevirtual 161, 3) := by decide +kernel
theorem dX9_tier_130 : decode cX9_tier 130 = .ok (.iload_n 1, 1) := by decide +kernel
theorem dX9_tier_131 : decode cX9_tier 131 = .ok (.if_icmp .ne 10, 3) := by decide +kernel
theorem dX9_tier_134 : decode cX9_tier 134 = .ok (.iconst 1, 1) := by decide +kernel
theorem dX9_tier_135 : decode cX9_tier 135 = .ok (.iload 4, 2) := by decide +kernel
theorem dX9_tier_137 : decode cX9_tier 137 = .ok (.ishl, 1) := by decide +kernel
theorem dX9_tier_138 : decode cX9_tier 138 = .ok (.goto 4, 3) := by decide +kernel
theorem dX9_tier_141 : decode cX9_tier 141 = .ok (.iconst 0, 1) := by decide +kernel
theorem dX9_tier_142 : decode cX9_tier 142 = .ok (.ior, 1) := by decide +kernel
theorem dX9_tier_143 : decode cX9_tier 143 = .ok (.istore_n 3, 1) := by decide +kernel
theorem dX9_tier_144 : decode cX9_tier 144 = .ok (.iinc 4 1, 3) := by decide +kernel
theorem dX9_tier_147 : decode cX9_tier 147 = .ok (.goto (-33), 3) := by decide +kernel
theorem dX9_tier_150 : decode cX9_tier 150 = .ok (.iload_n 3, 1) := by decide +kernel
theorem dX9_tier_151 : decode cX9_tier 151 = .ok (.ireturn, 1) := by decide +kernel
theorem dX9_tier_152 : decode cX9_tier 152 = .ok (.aload_n 0, 1) := by decide +kernel
theorem dX9_tier_153 : decode cX9_tier 153 = .ok (.iload_n 1, 1) := by decide +kernel
theorem dX9_tier_154 : decode cX9_tier 154 = .ok (.invokevirtual 184, 3) := by decide +kernel
theorem dX9_tier_157 : decode cX9_tier 157 = .ok (.ireturn, 1) := by decide +kernel
theorem dX9_tier_158 : decode cX9_tier 158 = .ok (.aload_n 0, 1) := by decide +kernel
theorem dX9_tier_159 : decode cX9_tier 159 = .ok (.getfield 9, 3) := by decide +kernel
theorem dX9_tier_162 : decode cX9_tier 162 = .ok (.iconst 4, 1) := by decide +kernel
theorem dX9_tier_163 : decode cX9_tier 163 = .ok (.iconst 3, 1) := by decide +kernel
theorem dX9_tier_164 : decode cX9_tier 164 = .ok (.iload_n 1, 1) := by decide +kernel
theorem dX9_tier_165 : decode cX9_tier 165 = .ok (.imul, 1) := by decide +kernel
theorem dX9_tier_166 : decode cX9_tier 166 = .ok (.iadd, 1) := by decide +kernel
theorem dX9_tier_167 : decode cX9_tier 167 = .ok (.iload_n 2, 1) := by decide +kernel
theorem dX9_tier_168 : decode cX9_tier 168 = .ok (.iadd, 1) := by decide +kernel
theorem dX9_tier_169 : decode cX9_tier 169 = .ok (.laload, 1) := by decide +kernel
theorem dX9_tier_170 : decode cX9_tier 170 = .ok (.l2i, 1) := by decide +kernel
theorem dX9_tier_171 : decode cX9_tier 171 = .ok (.ireturn, 1) := by decide +kernel
theorem dX9_book_0 : decode cX9_book 0 = .ok (.aload_n 0, 1) := by decide +kernel
theorem dX9_book_1 : decode cX9_book 1 = .ok (.iload_n 1, 1) := by decide +kernel
theorem dX9_book_2 : decode cX9_book 2 = .ok (.iconst 0, 1) := by decide +kernel
theorem dX9_book_3 : decode cX9_book 3 = .ok (.bipush 7, 2) := by decide +kernel
theorem dX9_book_5 : decode cX9_book 5 = .ok (.invokestatic 126, 3) := by decide +kernel
theorem dX9_book_8 : decode cX9_book 8 = .ok (.ifCond .eq 7, 3) := by decide +kernel
theorem dX9_book_11 : decode cX9_book 11 = .ok (.iconst 0, 1) := by decide +kernel
theorem dX9_book_12 : decode cX9_book 12 = .ok (.goto 4, 3) := by decide +kernel
theorem dX9_book_15 : decode cX9_book 15 = .ok (.iconst 1, 1) := by decide +kernel
theorem dX9_book_16 : decode cX9_book 16 = .ok (.putfield 97, 3) := by decide +kernel
theorem dX9_book_19 : decode cX9_book 19 = .ok (.aload_n 0, 1) := by decide +kernel
theorem dX9_book_20 : decode cX9_book 20 = .ok (.getfield 97, 3) := by decide +kernel
theorem dX9_book_23 : decode cX9_book 23 = .ok (.ifCond .le 5, 3) := by decide +kernel
theorem dX9_book_26 : decode cX9_book 26 = .ok (.iconst 0, 1) := by decide +kernel
theorem dX9_book_27 : decode cX9_book 27 = .ok (.ireturn, 1) := by decide +kernel
theorem dX9_book_28 : decode cX9_book 28 = .ok (.iload_n 1, 1) := by decide +kernel
theorem dX9_book_29 : decode cX9_book 29 = .ok (.tableswitch 89 4 7 #[31, 74, 79, 84], 31) := by decide +kernel
theorem dX9_book_60 : decode cX9_book 60 = .ok (.iconst 0, 1) := by decide +kernel
theorem dX9_book_61 : decode cX9_book 61 = .ok (.istore_n 2, 1) := by decide +kernel
theorem dX9_book_62 : decode cX9_book 62 = .ok (.iconst 0, 1) := by decide +kernel
theorem dX9_book_63 : decode cX9_book 63 = .ok (.istore_n 3, 1) := by decide +kernel
theorem dX9_book_64 : decode cX9_book 64 = .ok (.iload_n 3, 1) := by decide +kernel
theorem dX9_book_65 : decode cX9_book 65 = .ok (.bipush 6, 2) := by decide +kernel
theorem dX9_book_67 : decode cX9_book 67 = .ok (.if_icmp .ge 34, 3) := by decide +kernel
theorem dX9_book_70 : decode cX9_book 70 = .ok (.iload_n 2, 1) := by decide +kernel
theorem dX9_book_71 : decode cX9_book 71 = .ok (.aload_n 0, 1) := by decide +kernel
theorem dX9_book_72 : decode cX9_book 72 = .ok (.getfield 9, 3) := by decide +kernel
theorem dX9_book_75 : decode cX9_book 75 = .ok (.iconst 0, 1) := by decide +kernel
theorem dX9_book_76 : decode cX9_book 76 = .ok (.iload_n 3, 1) := by decide +kernel
theorem dX9_book_77 : decode cX9_book 77 = .ok (.invokestatic 142, 3) := by decide +kernel
theorem dX9_book_80 : decode cX9_book 80 = .ok (.laload, 1) := by decide +kernel
theorem dX9_book_81 : decode cX9_book 81 = .ok (.aload_n 0, 1) := by decide +kernel
theorem dX9_book_82 : decode cX9_book 82 = .ok (.getfield 9, 3) := by decide +kernel
theorem dX9_book_85 : decode cX9_book 85 = .ok (.iconst 1, 1) := by decide +kernel
theorem dX9_book_86 : decode cX9_book 86 = .ok (.iload_n 3, 1) := by decide +kernel
theorem dX9_book_87 : decode cX9_book 87 = .ok (.invokestatic 142, 3) := by decide +kernel
theorem dX9_book_90 : decode cX9_book 90 = .ok (.laload, 1) := by decide +kernel
theorem dX9_book_91 : decode cX9_book 91 = .ok (.ladd, 1) := by decide +kernel
theorem dX9_book_92 : decode cX9_book 92 = .ok (.l2i, 1) := by decide +kernel
theorem dX9_book_93 : decode cX9_book 93 = .ok (.iadd, 1) := by decide +kernel
theorem dX9_book_94 : decode cX9_book 94 = .ok (.istore_n 2, 1) := by decide +kernel
theorem dX9_book_95 : decode cX9_book 95 = .ok (.iinc 3 1, 3) := by decide +kernel
theorem dX9_book_98 : decode cX9_book 98 = .ok (.goto (-34), 3) := by decide +kernel
theorem dX9_book_101 : decode cX9_book 101 = .ok (.iload_n 2, 1) := by decide +kernel
theorem dX9_book_102 : decode cX9_book 102 = .ok (.ireturn, 1) := by decide +kernel
theorem dX9_book_103 : decode cX9_book 103 = .ok (.aload_n 0, 1) := by decide +kernel
theorem dX9_book_104 : decode cX9_book 104 = .ok (.getfield 187, 3) := by decide +kernel
theorem dX9_book_107 : decode cX9_book 107 = .ok (.ireturn, 1) := by decide +kernel
theorem dX9_book_108 : decode cX9_book 108 = .ok (.aload_n 0, 1) := by decide +kernel
theorem dX9_book_109 : decode cX9_book 109 = .ok (.getfield 104, 3) := by decide +kernel
theorem dX9_book_112 : decode cX9_book 112 = .ok (.ireturn, 1) := by decide +kernel
theorem dX9_book_113 : decode cX9_book 113 = .ok (.aload_n 0, 1) := by decide +kernel
theorem dX9_book_114 : decode cX9_book 114 = .ok (.getfield 107, 3) := by decide +kernel
theorem dX9_book_117 : decode cX9_book 117 = .ok (.ireturn, 1) := by decide +kernel
theorem dX9_book_118 : decode cX9_book 118 = .ok (.aload_n 0, 1) := by decide +kernel
theorem dX9_book_119 : decode cX9_book 119 = .ok (.getfield 9, 3) := by decide +kernel
theorem dX9_book_122 : decode cX9_book 122 = .ok (.iload_n 1, 1) := by decide +kernel
theorem dX9_book_123 : decode cX9_book 123 = .ok (.laload, 1) := by decide +kernel
theorem dX9_book_124 : decode cX9_book 124 = .ok (.l2i, 1) := by decide +kernel
theorem dX9_book_125 : decode cX9_book 125 = .ok (.ireturn, 1) := by decide +kernel
theorem dX9_append_0 : decode cX9_append 0 = .ok (.iconst 0, 1) := by decide +kernel
theorem dX9_append_1 : decode cX9_append 1 = .ok (.istore_n 2, 1) := by decide +kernel
theorem dX9_append_2 : decode cX9_append 2 = .ok (.aload_n 0, 1) := by decide +kernel
theorem dX9_append_3 : decode cX9_append 3 = .ok (.iconst 0, 1) := by decide +kernel
theorem dX9_append_4 : decode cX9_append 4 = .ok (.putfield 97, 3) := by decide +kernel
theorem dX9_append_7 : decode cX9_append 7 = .ok (.bipush 24, 2) := by decide +kernel
theorem dX9_append_9 : decode cX9_append 9 = .ok (.istore_n 3, 1) := by decide +kernel
theorem dX9_append_10 : decode cX9_append 10 = .ok (.iload_n 3, 1) := by decide +kernel
theorem dX9_append_11 : decode cX9_append 11 = .ok (.ifCond .lt 60, 3) := by decide +kernel
theorem dX9_append_14 : decode cX9_append 14 = .ok (.iload_n 1, 1) := by decide +kernel
theorem dX9_append_15 : decode cX9_append 15 = .ok (.iload_n 3, 1) := by decide +kernel
theorem dX9_append_16 : decode cX9_append 16 = .ok (.iushr, 1) := by decide +kernel
theorem dX9_append_17 : decode cX9_append 17 = .ok (.sipush 255, 3) := by decide +kernel
theorem dX9_append_20 : decode cX9_append 20 = .ok (.iand, 1) := by decide +kernel
theorem dX9_append_21 : decode cX9_append 21 = .ok (.istore 4, 2) := by decide +kernel
theorem dX9_append_23 : decode cX9_append 23 = .ok (.iload_n 2, 1) := by decide +kernel
theorem dX9_append_24 : decode cX9_append 24 = .ok (.iload 4, 2) := by decide +kernel
theorem dX9_append_26 : decode cX9_append 26 = .ok (.ifCond .le 7, 3) := by decide +kernel
theorem dX9_append_29 : decode cX9_append 29 = .ok (.iconst 1, 1) := by decide +kernel
theorem dX9_append_30 : decode cX9_append 30 = .ok (.goto 4, 3) := by decide +kernel
theorem dX9_append_33 : decode cX9_append 33 = .ok (.iconst 0, 1) := by decide +kernel
theorem dX9_append_34 : decode cX9_append 34 = .ok (.iadd, 1) := by decide +kernel
theorem dX9_append_35 : decode cX9_append 35 = .ok (.istore_n 2, 1) := by decide +kernel
theorem dX9_append_36 : decode cX9_append 36 = .ok (.aload_n 0, 1) := by decide +kernel
theorem dX9_append_37 : decode cX9_append 37 = .ok (.iload 4, 2) := by decide +kernel
theorem dX9_append_39 : decode cX9_append 39 = .ok (.ifCond .le 19, 3) := by decide +kernel
theorem dX9_append_42 : decode cX9_append 42 = .ok (.iload 4, 2) := by decide +kernel
theorem dX9_append_44 : decode cX9_append 44 = .ok (.bipush 32, 2) := by decide +kernel
theorem dX9_append_46 : decode cX9_append 46 = .ok (.bipush 126, 2) := by decide +kernel
theorem dX9_append_48 : decode cX9_append 48 = .ok (.invokestatic 126, 3) := by decide +kernel
theorem dX9_append_51 : decode cX9_append 51 = .ok (.ifCond .ne 7, 3) := by decide +kernel
theorem dX9_append_54 : decode cX9_append 54 = .ok (.iconst 1, 1) := by decide +kernel
theorem dX9_append_55 : decode cX9_append 55 = .ok (.goto 7, 3) := by decide +kernel
theorem dX9_append_58 : decode cX9_append 58 = .ok (.aload_n 0, 1) := by decide +kernel
theorem dX9_append_59 : decode cX9_append 59 = .ok (.getfield 97, 3) := by decide +kernel
theorem dX9_append_62 : decode cX9_append 62 = .ok (.putfield 97, 3) := by decide +kernel
theorem dX9_append_65 : decode cX9_append 65 = .ok (.iinc 3 (-8), 3) := by decide +kernel
theorem dX9_append_68 : decode cX9_append 68 = .ok (.goto (-58), 3) := by decide +kernel
theorem dX9_append_71 : decode cX9_append 71 = .ok (.aload_n 0, 1) := by decide +kernel
theorem dX9_append_72 : decode cX9_append 72 = .ok (.aload_n 0, 1) := by decide +kernel
theorem dX9_append_73 : decode cX9_append 73 = .ok (.getfield 97, 3) := by decide +kernel
theorem dX9_append_76 : decode cX9_append 76 = .ok (.ifCond .ne 18, 3) := by decide +kernel
theorem dX9_append_79 : decode cX9_append 79 = .ok (.aload_n 0, 1) := by decide +kernel
theorem dX9_append_80 : decode cX9_append 80 = .ok (.getfield 187, 3) := by decide +kernel
theorem dX9_append_83 : decode cX9_append 83 = .ok (.iload_n 2, 1) := by decide +kernel
theorem dX9_append_84 : decode cX9_append 84 = .ok (.iadd, 1) := by decide +kernel
theorem dX9_append_85 : decode cX9_append 85 = .ok (.bipush 100, 2) := by decide +kernel
theorem dX9_append_87 : decode cX9_append 87 = .ok (.if_icmp .le 7, 3) := by decide +kernel
theorem dX9_append_90 : decode cX9_append 90 = .ok (.iconst 2, 1) := by decide +kernel
theorem dX9_append_91 : decode cX9_append 91 = .ok (.goto 7, 3) := by decide +kernel
theorem dX9_append_94 : decode cX9_append 94 = .ok (.aload_n 0, 1) := by decide +kernel
theorem dX9_append_95 : decode cX9_append 95 = .ok (.getfield 97, 3) := by decide +kernel
theorem dX9_append_98 : decode cX9_append 98 = .ok (.putfield 97, 3) := by decide +kernel
theorem dX9_append_101 : decode cX9_append 101 = .ok (.aload_n 0, 1) := by decide +kernel
theorem dX9_append_102 : decode cX9_append 102 = .ok (.getfield 97, 3) := by decide +kernel
theorem dX9_append_105 : decode cX9_append 105 = .ok (.ifCond .le 5, 3) := by decide +kernel
theorem dX9_append_108 : decode cX9_append 108 = .ok (.iconst 0, 1) := by decide +kernel
theorem dX9_append_109 : decode cX9_append 109 = .ok (.ireturn, 1) := by decide +kernel
theorem dX9_append_110 : decode cX9_append 110 = .ok (.bipush 24, 2) := by decide +kernel
theorem dX9_append_112 : decode cX9_append 112 = .ok (.istore_n 3, 1) := by decide +kernel
theorem dX9_append_113 : decode cX9_append 113 = .ok (.iload_n 3, 1) := by decide +kernel
theorem dX9_append_114 : decode cX9_append 114 = .ok (.ifCond .lt 44, 3) := by decide +kernel
theorem dX9_append_117 : decode cX9_append 117 = .ok (.iload_n 1, 1) := by decide +kernel
theorem dX9_append_118 : decode cX9_append 118 = .ok (.iload_n 3, 1) := by decide +kernel
theorem dX9_append_119 : decode cX9_append 119 = .ok (.iushr, 1) := by decide +kernel
theorem dX9_append_120 : decode cX9_append 120 = .ok (.sipush 255, 3) := by decide +kernel
theorem dX9_append_123 : decode cX9_append 123 = .ok (.iand, 1) := by decide +kernel
theorem dX9_append_124 : decode cX9_append 124 = .ok (.istore 4, 2) := by decide +kernel
theorem dX9_append_126 : decode cX9_append 126 = .ok (.iload 4, 2) := by decide +kernel
theorem dX9_append_128 : decode cX9_append 128 = .ok (.ifCond .le 24, 3) := by decide +kernel
theorem dX9_append_131 : decode cX9_append 131 = .ok (.aload_n 0, 1) := by decide +kernel
theorem dX9_append_132 : decode cX9_append 132 = .ok (.getfield 22, 3) := by decide +kernel
theorem dX9_append_135 : decode cX9_append 135 = .ok (.aload_n 0, 1) := by decide +kernel
theorem dX9_append_136 : decode cX9_append 136 = .ok (.getfield 187, 3) := by decide +kernel
theorem dX9_append_139 : decode cX9_append 139 = .ok (.iload 4, 2) := by decide +kernel
theorem dX9_append_141 : decode cX9_append 141 = .ok (.iastore, 1) := by decide +kernel
theorem dX9_append_142 : decode cX9_append 142 = .ok (.aload_n 0, 1) := by decide +kernel
theorem dX9_append_143 : decode cX9_append 143 = .ok (.dup, 1) := by decide +kernel
theorem dX9_append_144 : decode cX9_append 144 = .ok (.getfield 187, 3) := by decide +kernel
theorem dX9_append_147 : decode cX9_append 147 = .ok (.iconst 1, 1) := by decide +kernel
theorem dX9_append_148 : decode cX9_append 148 = .ok (.iadd, 1) := by decide +kernel
theorem dX9_append_149 : decode cX9_append 149 = .ok (.putfield 187, 3) := by decide +kernel
theorem dX9_append_152 : decode cX9_append 152 = .ok (.iinc 3 (-8), 3) := by decide +kernel
theorem dX9_append_155 : decode cX9_append 155 = .ok (.goto (-42), 3) := by decide +kernel
theorem dX9_append_158 : decode cX9_append 158 = .ok (.aload_n 0, 1) := by decide +kernel
theorem dX9_append_159 : decode cX9_append 159 = .ok (.getfield 187, 3) := by decide +kernel
theorem dX9_append_162 : decode cX9_append 162 = .ok (.ireturn, 1) := by decide +kernel
theorem dX9_here_0 : decode cX9_here 0 = .ok (.aload_n 0, 1) := by decide +kernel
theorem dX9_here_1 : decode cX9_here 1 = .ok (.getfield 190, 3) := by decide +kernel
theorem dX9_here_4 : decode cX9_here 4 = .ok (.aload_n 0, 1) := by decide +kernel
theorem dX9_here_5 : decode cX9_here 5 = .ok (.getfield 187, 3) := by decide +kernel
theorem dX9_here_8 : decode cX9_here 8 = .ok (.if_icmp .ge 15, 3) := by decide +kernel
theorem dX9_here_11 : decode cX9_here 11 = .ok (.aload_n 0, 1) := by decide +kernel
theorem dX9_here_12 : decode cX9_here 12 = .ok (.getfield 22, 3) := by decide +kernel
theorem dX9_here_15 : decode cX9_here 15 = .ok (.aload_n 0, 1) := by decide +kernel
theorem dX9_here_16 : decode cX9_here 16 = .ok (.getfield 190, 3) := by decide +kernel
theorem dX9_here_19 : decode cX9_here 19 = .ok (.iaload, 1) := by decide +kernel
theorem dX9_here_20 : decode cX9_here 20 = .ok (.goto 4, 3) := by decide +kernel
theorem dX9_here_23 : decode cX9_here 23 = .ok (.iconst 0, 1) := by decide +kernel
theorem dX9_here_24 : decode cX9_here 24 = .ok (.ireturn, 1) := by decide +kernel
theorem dX9_isOf_0 : decode cX9_isOf 0 = .ok (.iload_n 0, 1) := by decide +kernel
theorem dX9_isOf_1 : decode cX9_isOf 1 = .ok (.lookupswitch 60 #[(1, 27), (2, 51)], 27) := by decide +kernel
theorem dX9_isOf_28 : decode cX9_isOf 28 = .ok (.iload_n 1, 1) := by decide +kernel
theorem dX9_isOf_29 : decode cX9_isOf 29 = .ok (.bipush 108, 2) := by decide +kernel
theorem dX9_isOf_31 : decode cX9_isOf 31 = .ok (.if_icmp .eq 15, 3) := by decide +kernel
theorem dX9_isOf_34 : decode cX9_isOf 34 = .ok (.iload_n 1, 1) := by decide +kernel
theorem dX9_isOf_35 : decode cX9_isOf 35 = .ok (.bipush 114, 2) := by decide +kernel
theorem dX9_isOf_37 : decode cX9_isOf 37 = .ok (.if_icmp .eq 9, 3) := by decide +kernel
theorem dX9_isOf_40 : decode cX9_isOf 40 = .ok (.iload_n 1, 1) := by decide +kernel
theorem dX9_isOf_41 : decode cX9_isOf 41 = .ok (.bipush 98, 2) := by decide +kernel
theorem dX9_isOf_43 : decode cX9_isOf 43 = .ok (.if_icmp .ne 7, 3) := by decide +kernel
theorem dX9_isOf_46 : decode cX9_isOf 46 = .ok (.iconst 1, 1) := by decide +kernel
theorem dX9_isOf_47 : decode cX9_isOf 47 = .ok (.goto 4, 3) := by decide +kernel
theorem dX9_isOf_50 : decode cX9_isOf 50 = .ok (.iconst 0, 1) := by decide +kernel
theorem dX9_isOf_51 : decode cX9_isOf 51 = .ok (.ireturn, 1) := by decide +kernel
theorem dX9_isOf_52 : decode cX9_isOf 52 = .ok (.iload_n 1, 1) := by decide +kernel
theorem dX9_isOf_53 : decode cX9_isOf 53 = .ok (.bipush 48, 2) := by decide +kernel
theorem dX9_isOf_55 : decode cX9_isOf 55 = .ok (.bipush 57, 2) := by decide +kernel
theorem dX9_isOf_57 : decode cX9_isOf 57 = .ok (.invokestatic 126, 3) := by decide +kernel
theorem dX9_isOf_60 : decode cX9_isOf 60 = .ok (.ireturn, 1) := by decide +kernel
theorem dX9_isOf_61 : decode cX9_isOf 61 = .ok (.iload_n 1, 1) := by decide +kernel
theorem dX9_isOf_62 : decode cX9_isOf 62 = .ok (.bipush 97, 2) := by decide +kernel
theorem dX9_isOf_64 : decode cX9_isOf 64 = .ok (.bipush 122, 2) := by decide +kernel
theorem dX9_isOf_66 : decode cX9_isOf 66 = .ok (.invokestatic 126, 3) := by decide +kernel
theorem dX9_isOf_69 : decode cX9_isOf 69 = .ok (.ireturn, 1) := by decide +kernel
theorem dX9_readLabel_0 : decode cX9_readLabel 0 = .ok (.lconst 0, 1) := by decide +kernel
theorem dX9_readLabel_1 : decode cX9_readLabel 1 = .ok (.lstore_n 2, 1) := by decide +kernel
theorem dX9_readLabel_2 : decode cX9_readLabel 2 = .ok (.iload_n 1, 1) := by decide +kernel
theorem dX9_readLabel_3 : decode cX9_readLabel 3 = .ok (.iconst 1, 1) := by decide +kernel
theorem dX9_readLabel_4 : decode cX9_readLabel 4 = .ok (.if_icmp .eq 8, 3) := by decide +kernel
theorem dX9_readLabel_7 : decode cX9_readLabel 7 = .ok (.iload_n 1, 1) := by decide +kernel
theorem dX9_readLabel_8 : decode cX9_readLabel 8 = .ok (.iconst 2, 1) := by decide +kernel
theorem dX9_readLabel_9 : decode cX9_readLabel 9 = .ok (.if_icmp .ne 7, 3) := by decide +kernel
theorem dX9_readLabel_12 : decode cX9_readLabel 12 = .ok (.iconst 1, 1) := by decide +kernel
theorem dX9_readLabel_13 : decode cX9_readLabel 13 = .ok (.goto 5, 3) := by decide +kernel
theorem dX9_readLabel_16 : decode cX9_readLabel 16 = .ok (.bipush 8, 2) := by decide +kernel
theorem dX9_readLabel_18 : decode cX9_readLabel 18 = .ok (.istore 4, 2) := by decide +kernel
theorem dX9_readLabel_20 : decode cX9_readLabel 20 = .ok (.iconst 0, 1) := by decide +kernel
theorem dX9_readLabel_21 : decode cX9_readLabel 21 = .ok (.istore 5, 2) := by decide +kernel
theorem dX9_readLabel_23 : decode cX9_readLabel 23 = .ok (.aload_n 0, 1) := by decide +kernel
theorem dX9_readLabel_24 : decode cX9_readLabel 24 = .ok (.getfield 193, 3) := by decide +kernel
theorem dX9_readLabel_27 : decode cX9_readLabel 27 = .ok (.ifCond .ne 49, 3) := by decide +kernel
theorem dX9_readLabel_30 : decode cX9_readLabel 30 = .ok (.iload 5, 2) := by decide +kernel
theorem dX9_readLabel_32 : decode cX9_readLabel 32 = .ok (.iload 4, 2) := by decide +kernel
theorem dX9_readLabel_34 : decode cX9_readLabel 34 = .ok (.if_icmp .ge 42, 3) := by decide +kernel
theorem dX9_readLabel_37 : decode cX9_readLabel 37 = .ok (.iload_n 1, 1) := by decide +kernel
theorem dX9_readLabel_38 : decode cX9_readLabel 38 = .ok (.aload_n 0, 1) := by decide +kernel
theorem dX9_readLabel_39 : decode cX9_readLabel 39 = .ok (.invokevirtual 197, 3) := by decide +kernel
theorem dX9_readLabel_42 : decode cX9_readLabel 42 = .ok (.invokestatic 200, 3) := by decide +kernel
theorem dX9_readLabel_45 : decode cX9_readLabel 45 = .ok (.ifCond .eq 31, 3) := by decide +kernel
theorem dX9_readLabel_48 : decode cX9_readLabel 48 = .ok (.ldc2_w 204, 3) := by decide +kernel
theorem dX9_readLabel_51 : decode cX9_readLabel 51 = .ok (.lload_n 2, 1) := by decide +kernel
theorem dX9_readLabel_52 : decode cX9_readLabel 52 = .ok (.lmul, 1) := by decide +kernel
theorem dX9_readLabel_53 : decode cX9_readLabel 53 = .ok (.aload_n 0, 1) := by decide +kernel
theorem dX9_readLabel_54 : decode cX9_readLabel 54 = .ok (.invokevirtual 197, 3) := by decide +kernel
theorem dX9_readLabel_57 : decode cX9_readLabel 57 = .ok (.i2l, 1) := by decide +kernel
theorem dX9_readLabel_58 : decode cX9_readLabel 58 = .ok (.ladd, 1) := by decide +kernel
theorem dX9_readLabel_59 : decode cX9_readLabel 59 = .ok (.lstore_n 2, 1) := by decide +kernel
theorem dX9_readLabel_60 : decode cX9_readLabel 60 = .ok (.aload_n 0, 1) := by decide +kernel
theorem dX9_readLabel_61 : decode cX9_readLabel 61 = .ok (.dup, 1) := by decide +kernel
theorem dX9_readLabel_62 : decode cX9_readLabel 62 = .ok (.getfield 190, 3) := by decide +kernel
theorem dX9_readLabel_65 : decode cX9_readLabel 65 = .ok (.iconst 1, 1) := by decide +kernel
theorem dX9_readLabel_66 : decode cX9_readLabel 66 = .ok (.iadd, 1) := by decide +kernel
theorem dX9_readLabel_67 : decode cX9_readLabel 67 = .ok (.putfield 190, 3) := by decide +kernel
theorem dX9_readLabel_70 : decode cX9_readLabel 70 = .ok (.iinc 5 1, 3) := by decide +kernel
theorem dX9_readLabel_73 : decode cX9_readLabel 73 = .ok (.goto (-50), 3) := by decide +kernel
theorem dX9_readLabel_76 : decode cX9_readLabel 76 = .ok (.aload_n 0, 1) := by decide +kernel
theorem dX9_readLabel_77 : decode cX9_readLabel 77 = .ok (.aload_n 0, 1) := by decide +kernel
theorem dX9_readLabel_78 : decode cX9_readLabel 78 = .ok (.getfield 193, 3) := by decide +kernel
theorem dX9_readLabel_81 : decode cX9_readLabel 81 = .ok (.ifCond .ne 8, 3) := by decide +kernel
theorem dX9_readLabel_84 : decode cX9_readLabel 84 = .ok (.iload 5, 2) := by decide +kernel
theorem dX9_readLabel_86 : decode cX9_readLabel 86 = .ok (.ifCond .ne 7, 3) := by decide +kernel
theorem dX9_readLabel_89 : decode cX9_readLabel 89 = .ok (.iconst 1, 1) := by decide +kernel
theorem dX9_readLabel_90 : decode cX9_readLabel 90 = .ok (.goto 4, 3) := by decide +kernel
theorem dX9_readLabel_93 : decode cX9_readLabel 93 = .ok (.iconst 0, 1) := by decide +kernel
theorem dX9_readLabel_94 : decode cX9_readLabel 94 = .ok (.putfield 193, 3) := by decide +kernel
theorem dX9_readLabel_97 : decode cX9_readLabel 97 = .ok (.lload_n 2, 1) := by decide +kernel
theorem dX9_readLabel_98 : decode cX9_readLabel 98 = .ok (.lreturn, 1) := by decide +kernel
theorem dX9_beginText_0 : decode cX9_beginText 0 = .ok (.aload_n 0, 1) := by decide +kernel
theorem dX9_beginText_1 : decode cX9_beginText 1 = .ok (.iconst 0, 1) := by decide +kernel
theorem dX9_beginText_2 : decode cX9_beginText 2 = .ok (.putfield 190, 3) := by decide +kernel
theorem dX9_beginText_5 : decode cX9_beginText 5 = .ok (.aload_n 0, 1) := by decide +kernel
theorem dX9_beginText_6 : decode cX9_beginText 6 = .ok (.iconst 0, 1) := by decide +kernel
theorem dX9_beginText_7 : decode cX9_beginText 7 = .ok (.putfield 193, 3) := by decide +kernel
theorem dX9_beginText_10 : decode cX9_beginText 10 = .ok (.return_, 1) := by decide +kernel
theorem dX9_endText_0 : decode cX9_endText 0 = .ok (.aload_n 0, 1) := by decide +kernel
theorem dX9_endText_1 : decode cX9_endText 1 = .ok (.aload_n 0, 1) := by decide +kernel
theorem dX9_endText_2 : decode cX9_endText 2 = .ok (.getfield 193, 3) := by decide +kernel
theorem dX9_endText_5 : decode cX9_endText 5 = .ok (.ifCond .ne 14, 3) := by decide +kernel
theorem dX9_endText_8 : decode cX9_endText 8 = .ok (.aload_n 0, 1) := by decide +kernel
theorem dX9_endText_9 : decode cX9_endText 9 = .ok (.getfield 190, 3) := by decide +kernel
theorem dX9_endText_12 : decode cX9_endText 12 = .ok (.aload_n 0, 1) := by decide +kernel
theorem dX9_endText_13 : decode cX9_endText 13 = .ok (.getfield 187, 3) := by decide +kernel
theorem dX9_endText_16 : decode cX9_endText 16 = .ok (.if_icmp .ge 7, 3) := by decide +kernel
theorem dX9_endText_19 : decode cX9_endText 19 = .ok (.iconst 1, 1) := by decide +kernel
theorem dX9_endText_20 : decode cX9_endText 20 = .ok (.goto 4, 3) := by decide +kernel
theorem dX9_endText_23 : decode cX9_endText 23 = .ok (.iconst 0, 1) := by decide +kernel
theorem dX9_endText_24 : decode cX9_endText 24 = .ok (.putfield 193, 3) := by decide +kernel
theorem dX9_endText_27 : decode cX9_endText 27 = .ok (.aload_n 0, 1) := by decide +kernel
theorem dX9_endText_28 : decode cX9_endText 28 = .ok (.iconst 0, 1) := by decide +kernel
theorem dX9_endText_29 : decode cX9_endText 29 = .ok (.putfield 187, 3) := by decide +kernel
theorem dX9_endText_32 : decode cX9_endText 32 = .ok (.aload_n 0, 1) := by decide +kernel
theorem dX9_endText_33 : decode cX9_endText 33 = .ok (.aload_n 0, 1) := by decide +kernel
theorem dX9_endText_34 : decode cX9_endText 34 = .ok (.getfield 193, 3) := by decide +kernel
theorem dX9_endText_37 : decode cX9_endText 37 = .ok (.ifCond .eq 10, 3) := by decide +kernel
theorem dX9_endText_40 : decode cX9_endText 40 = .ok (.aload_n 0, 1) := by decide +kernel
theorem dX9_endText_41 : decode cX9_endText 41 = .ok (.getfield 190, 3) := by decide +kernel
theorem dX9_endText_44 : decode cX9_endText 44 = .ok (.goto 7, 3) := by decide +kernel
theorem dX9_endText_47 : decode cX9_endText 47 = .ok (.aload_n 0, 1) := by decide +kernel
theorem dX9_endText_48 : decode cX9_endText 48 = .ok (.getfield 26, 3) := by decide +kernel
theorem dX9_endText_51 : decode cX9_endText 51 = .ok (.putfield 26, 3) := by decide +kernel
theorem dX9_endText_54 : decode cX9_endText 54 = .ok (.aload_n 0, 1) := by decide +kernel
theorem dX9_endText_55 : decode cX9_endText 55 = .ok (.getfield 193, 3) := by decide +kernel
theorem dX9_endText_58 : decode cX9_endText 58 = .ok (.ireturn, 1) := by decide +kernel
theorem dX9_lengthOf_0 : decode cX9_lengthOf 0 = .ok (.iconst 0, 1) := by decide +kernel
theorem dX9_lengthOf_1 : decode cX9_lengthOf 1 = .ok (.istore_n 2, 1) := by decide +kernel
theorem dX9_lengthOf_2 : decode cX9_lengthOf 2 = .ok (.lload_n 0, 1) := by decide +kernel
theorem dX9_lengthOf_3 : decode cX9_lengthOf 3 = .ok (.lstore_n 3, 1) := by decide +kernel
theorem dX9_lengthOf_4 : decode cX9_lengthOf 4 = .ok (.lload_n 3, 1) := by decide +kernel
theorem dX9_lengthOf_5 : decode cX9_lengthOf 5 = .ok (.lconst 0, 1) := by decide +kernel
theorem dX9_lengthOf_6 : decode cX9_lengthOf 6 = .ok (.lcmp, 1) := by decide +kernel
theorem dX9_lengthOf_7 : decode cX9_lengthOf 7 = .ok (.ifCond .le 15, 3) := by decide +kernel
theorem dX9_lengthOf_10 : decode cX9_lengthOf 10 = .ok (.iinc 2 1, 3) := by decide +kernel
theorem dX9_lengthOf_13 : decode cX9_lengthOf 13 = .ok (.lload_n 3, 1) := by decide +kernel
theorem dX9_lengthOf_14 : decode cX9_lengthOf 14 = .ok (.ldc2_w 204, 3) := by decide +kernel
theorem dX9_lengthOf_17 : decode cX9_lengthOf 17 = .ok (.ldiv, 1) := by decide +kernel
theorem dX9_lengthOf_18 : decode cX9_lengthOf 18 = .ok (.lstore_n 3, 1) := by decide +kernel
theorem dX9_lengthOf_19 : decode cX9_lengthOf 19 = .ok (.goto (-15), 3) := by decide +kernel
theorem dX9_lengthOf_22 : decode cX9_lengthOf 22 = .ok (.iload_n 2, 1) := by decide +kernel
theorem dX9_lengthOf_23 : decode cX9_lengthOf 23 = .ok (.ireturn, 1) := by decide +kernel
theorem dX9_isRefused_0 : decode cX9_isRefused 0 = .ok (.iload_n 1, 1) := by decide +kernel
theorem dX9_isRefused_1 : decode cX9_isRefused 1 = .ok (.ifCond .le 13, 3) := by decide +kernel
theorem dX9_isRefused_4 : decode cX9_isRefused 4 = .ok (.aload_n 0, 1) := by decide +kernel
theorem dX9_isRefused_5 : decode cX9_isRefused 5 = .ok (.iload_n 1, 1) := by decide +kernel
theorem dX9_isRefused_6 : decode cX9_isRefused 6 = .ok (.putfield 206, 3) := by decide +kernel
theorem dX9_isRefused_9 : decode cX9_isRefused 9 = .ok (.aload_n 0, 1) := by decide +kernel
theorem dX9_isRefused_10 : decode cX9_isRefused 10 = .ok (.iload_n 2, 1) := by decide +kernel
theorem dX9_isRefused_11 : decode cX9_isRefused 11 = .ok (.putfield 209, 3) := by decide +kernel
theorem dX9_isRefused_14 : decode cX9_isRefused 14 = .ok (.iload_n 1, 1) := by decide +kernel
theorem dX9_isRefused_15 : decode cX9_isRefused 15 = .ok (.ifCond .le 7, 3) := by decide +kernel
theorem dX9_isRefused_18 : decode cX9_isRefused 18 = .ok (.iconst 1, 1) := by decide +kernel
theorem dX9_isRefused_19 : decode cX9_isRefused 19 = .ok (.goto 4, 3) := by decide +kernel
theorem dX9_isRefused_22 : decode cX9_isRefused 22 = .ok (.iconst 0, 1) := by decide +kernel
theorem dX9_isRefused_23 : decode cX9_isRefused 23 = .ok (.ireturn, 1) := by decide +kernel
theorem dX9_inTheWay_0 : decode cX9_inTheWay 0 = .ok (.iconst 0, 1) := by decide +kernel
theorem dX9_inTheWay_1 : decode cX9_inTheWay 1 = .ok (.istore 5, 2) := by decide +kernel
theorem dX9_inTheWay_3 : decode cX9_inTheWay 3 = .ok (.iload 5, 2) := by decide +kernel
theorem dX9_inTheWay_5 : decode cX9_inTheWay 5 = .ok (.aload_n 0, 1) := by decide +kernel
theorem dX9_inTheWay_6 : decode cX9_inTheWay 6 = .ok (.iload_n 1, 1) := by decide +kernel
theorem dX9_inTheWay_7 : decode cX9_inTheWay 7 = .ok (.invokevirtual 149, 3) := by decide +kernel
theorem dX9_inTheWay_10 : decode cX9_inTheWay 10 = .ok (.if_icmp .ge 41, 3) := by decide +kernel
theorem dX9_inTheWay_13 : decode cX9_inTheWay 13 = .ok (.iload 5, 2) := by decide +kernel
theorem dX9_inTheWay_15 : decode cX9_inTheWay 15 = .ok (.iload_n 2, 1) := by decide +kernel
theorem dX9_inTheWay_16 : decode cX9_inTheWay 16 = .ok (.if_icmp .eq 29, 3) := by decide +kernel
theorem dX9_inTheWay_19 : decode cX9_inTheWay 19 = .ok (.aload_n 0, 1) := by decide +kernel
theorem dX9_inTheWay_20 : decode cX9_inTheWay 20 = .ok (.iload_n 1, 1) := by decide +kernel
theorem dX9_inTheWay_21 : decode cX9_inTheWay 21 = .ok (.iload 5, 2) := by decide +kernel
theorem dX9_inTheWay_23 : decode cX9_inTheWay 23 = .ok (.invokevirtual 155, 3) := by decide +kernel
theorem dX9_inTheWay_26 : decode cX9_inTheWay 26 = .ok (.iload 4, 2) := by decide +kernel
theorem dX9_inTheWay_28 : decode cX9_inTheWay 28 = .ok (.if_icmp .ge 17, 3) := by decide +kernel
theorem dX9_inTheWay_31 : decode cX9_inTheWay 31 = .ok (.iload_n 3, 1) := by decide +kernel
theorem dX9_inTheWay_32 : decode cX9_inTheWay 32 = .ok (.aload_n 0, 1) := by decide +kernel
theorem dX9_inTheWay_33 : decode cX9_inTheWay 33 = .ok (.iload_n 1, 1) := by decide +kernel
theorem dX9_inTheWay_34 : decode cX9_inTheWay 34 = .ok (.iload 5, 2) := by decide +kernel
theorem dX9_inTheWay_36 : decode cX9_inTheWay 36 = .ok (.invokevirtual 164, 3) := by decide +kernel
theorem dX9_inTheWay_39 : decode cX9_inTheWay 39 = .ok (.if_icmp .ge 6, 3) := by decide +kernel
theorem dX9_inTheWay_42 : decode cX9_inTheWay 42 = .ok (.iload 5, 2) := by decide +kernel
theorem dX9_inTheWay_44 : decode cX9_inTheWay 44 = .ok (.ireturn, 1) := by decide +kernel
theorem dX9_inTheWay_45 : decode cX9_inTheWay 45 = .ok (.iinc 5 1, 3) := by decide +kernel
theorem dX9_inTheWay_48 : decode cX9_inTheWay 48 = .ok (.goto (-45), 3) := by decide +kernel
theorem dX9_inTheWay_51 : decode cX9_inTheWay 51 = .ok (.iconst (-1), 1) := by decide +kernel
theorem dX9_inTheWay_52 : decode cX9_inTheWay 52 = .ok (.ireturn, 1) := by decide +kernel
theorem dX9_areFrames_0 : decode cX9_areFrames 0 = .ok (.iload_n 0, 1) := by decide +kernel
theorem dX9_areFrames_1 : decode cX9_areFrames 1 = .ok (.iconst 0, 1) := by decide +kernel
theorem dX9_areFrames_2 : decode cX9_areFrames 2 = .ok (.sipush 999, 3) := by decide +kernel
theorem dX9_areFrames_5 : decode cX9_areFrames 5 = .ok (.invokestatic 126, 3) := by decide +kernel
theorem dX9_areFrames_8 : decode cX9_areFrames 8 = .ok (.ifCond .eq 23, 3) := by decide +kernel
theorem dX9_areFrames_11 : decode cX9_areFrames 11 = .ok (.iload_n 1, 1) := by decide +kernel
theorem dX9_areFrames_12 : decode cX9_areFrames 12 = .ok (.iconst 1, 1) := by decide +kernel
theorem dX9_areFrames_13 : decode cX9_areFrames 13 = .ok (.sipush 1000, 3) := by decide +kernel
theorem dX9_areFrames_16 : decode cX9_areFrames 16 = .ok (.invokestatic 126, 3) := by decide +kernel
theorem dX9_areFrames_19 : decode cX9_areFrames 19 = .ok (.ifCond .eq 12, 3) := by decide +kernel
theorem dX9_areFrames_22 : decode cX9_areFrames 22 = .ok (.iload_n 1, 1) := by decide +kernel
theorem dX9_areFrames_23 : decode cX9_areFrames 23 = .ok (.iload_n 0, 1) := by decide +kernel
theorem dX9_areFrames_24 : decode cX9_areFrames 24 = .ok (.if_icmp .le 7, 3) := by decide +kernel
theorem dX9_areFrames_27 : decode cX9_areFrames 27 = .ok (.iconst 1, 1) := by decide +kernel
theorem dX9_areFrames_28 : decode cX9_areFrames 28 = .ok (.goto 4, 3) := by decide +kernel
theorem dX9_areFrames_31 : decode cX9_areFrames 31 = .ok (.iconst 0, 1) := by decide +kernel
theorem dX9_areFrames_32 : decode cX9_areFrames 32 = .ok (.ireturn, 1) := by decide +kernel
theorem dX9_areRefused_0 : decode cX9_areRefused 0 = .ok (.iload_n 3, 1) := by decide +kernel
theorem dX9_areRefused_1 : decode cX9_areRefused 1 = .ok (.iload 4, 2) := by decide +kernel
theorem dX9_areRefused_3 : decode cX9_areRefused 3 = .ok (.invokestatic 212, 3) := by decide +kernel
theorem dX9_areRefused_6 : decode cX9_areRefused 6 = .ok (.ifCond .ne 10, 3) := by decide +kernel
theorem dX9_areRefused_9 : decode cX9_areRefused 9 = .ok (.aload_n 0, 1) := by decide +kernel
theorem dX9_areRefused_10 : decode cX9_areRefused 10 = .ok (.iconst 1, 1) := by decide +kernel
theorem dX9_areRefused_11 : decode cX9_areRefused 11 = .ok (.iconst 0, 1) := by decide +kernel
theorem dX9_areRefused_12 : decode cX9_areRefused 12 = .ok (.invokevirtual 215, 3) := by decide +kernel
theorem dX9_areRefused_15 : decode cX9_areRefused 15 = .ok (.ireturn, 1) := by decide +kernel
theorem dX9_areRefused_16 : decode cX9_areRefused 16 = .ok (.aload_n 0, 1) := by decide +kernel
theorem dX9_areRefused_17 : decode cX9_areRefused 17 = .ok (.iload_n 1, 1) := by decide +kernel
theorem dX9_areRefused_18 : decode cX9_areRefused 18 = .ok (.iload_n 2, 1) := by decide +kernel
theorem dX9_areRefused_19 : decode cX9_areRefused 19 = .ok (.iload_n 3, 1) := by decide +kernel
theorem dX9_areRefused_20 : decode cX9_areRefused 20 = .ok (.iload 4, 2) := by decide +kernel
theorem dX9_areRefused_22 : decode cX9_areRefused 22 = .ok (.invokevirtual 218, 3) := by decide +kernel
theorem dX9_areRefused_25 : decode cX9_areRefused 25 = .ok (.istore 5, 2) := by decide +kernel
theorem dX9_areRefused_27 : decode cX9_areRefused 27 = .ok (.iload 5, 2) := by decide +kernel
theorem dX9_areRefused_29 : decode cX9_areRefused 29 = .ok (.ifCond .lt 13, 3) := by decide +kernel
theorem dX9_areRefused_32 : decode cX9_areRefused 32 = .ok (.aload_n 0, 1) := by decide +kernel
theorem dX9_areRefused_33 : decode cX9_areRefused 33 = .ok (.iconst 2, 1) := by decide +kernel
theorem dX9_areRefused_34 : decode cX9_areRefused 34 = .ok (.iload 5, 2) := by decide +kernel
theorem dX9_areRefused_36 : decode cX9_areRefused 36 = .ok (.invokevirtual 215, 3) := by decide +kernel
theorem dX9_areRefused_39 : decode cX9_areRefused 39 = .ok (.goto 24, 3) := by decide +kernel
theorem dX9_areRefused_42 : decode cX9_areRefused 42 = .ok (.aload_n 0, 1) := by decide +kernel
theorem dX9_areRefused_43 : decode cX9_areRefused 43 = .ok (.aload_n 0, 1) := by decide +kernel
theorem dX9_areRefused_44 : decode cX9_areRefused 44 = .ok (.iload_n 1, 1) := by decide +kernel
theorem dX9_areRefused_45 : decode cX9_areRefused 45 = .ok (.iload_n 3, 1) := by decide +kernel
theorem dX9_areRefused_46 : decode cX9_areRefused 46 = .ok (.iload 4, 2) := by decide +kernel
theorem dX9_areRefused_48 : decode cX9_areRefused 48 = .ok (.invokevirtual 171, 3) := by decide +kernel
theorem dX9_areRefused_51 : decode cX9_areRefused 51 = .ok (.ifCond .eq 7, 3) := by decide +kernel
theorem dX9_areRefused_54 : decode cX9_areRefused 54 = .ok (.iconst 3, 1) := by decide +kernel
theorem dX9_areRefused_55 : decode cX9_areRefused 55 = .ok (.goto 4, 3) := by decide +kernel
theorem dX9_areRefused_58 : decode cX9_areRefused 58 = .ok (.iconst 0, 1) := by decide +kernel
theorem dX9_areRefused_59 : decode cX9_areRefused 59 = .ok (.iconst 0, 1) := by decide +kernel
theorem dX9_areRefused_60 : decode cX9_areRefused 60 = .ok (.invokevirtual 215, 3) := by decide +kernel
theorem dX9_areRefused_63 : decode cX9_areRefused 63 = .ok (.ireturn, 1) := by decide +kernel
theorem dX9_add_0 : decode cX9_add 0 = .ok (.aload_n 0, 1) := by decide +kernel
theorem dX9_add_1 : decode cX9_add 1 = .ok (.iload_n 1, 1) := by decide +kernel
theorem dX9_add_2 : decode cX9_add 2 = .ok (.iconst (-1), 1) := by decide +kernel
theorem dX9_add_3 : decode cX9_add 3 = .ok (.iload_n 2, 1) := by decide +kernel
theorem dX9_add_4 : decode cX9_add 4 = .ok (.iload_n 3, 1) := by decide +kernel
theorem dX9_add_5 : decode cX9_add 5 = .ok (.invokevirtual 222, 3) := by decide +kernel
theorem dX9_add_8 : decode cX9_add 8 = .ok (.ifCond .ne 26, 3) := by decide +kernel
theorem dX9_add_11 : decode cX9_add 11 = .ok (.aload_n 0, 1) := by decide +kernel
theorem dX9_add_12 : decode cX9_add 12 = .ok (.aload_n 0, 1) := by decide +kernel
theorem dX9_add_13 : decode cX9_add 13 = .ok (.iload_n 1, 1) := by decide +kernel
theorem dX9_add_14 : decode cX9_add 14 = .ok (.invokevirtual 149, 3) := by decide +kernel
theorem dX9_add_17 : decode cX9_add 17 = .ok (.bipush 30, 2) := by decide +kernel
theorem dX9_add_19 : decode cX9_add 19 = .ok (.if_icmp .ne 7, 3) := by decide +kernel
theorem dX9_add_22 : decode cX9_add 22 = .ok (.iconst 5, 1) := by decide +kernel
theorem dX9_add_23 : decode cX9_add 23 = .ok (.goto 4, 3) := by decide +kernel
theorem dX9_add_26 : decode cX9_add 26 = .ok (.iconst 0, 1) := by decide +kernel
theorem dX9_add_27 : decode cX9_add 27 = .ok (.iconst 0, 1) := by decide +kernel
theorem dX9_add_28 : decode cX9_add 28 = .ok (.invokevirtual 215, 3) := by decide +kernel
theorem dX9_add_31 : decode cX9_add 31 = .ok (.ifCond .eq 5, 3) := by decide +kernel
theorem dX9_add_34 : decode cX9_add 34 = .ok (.iconst (-1), 1) := by decide +kernel
theorem dX9_add_35 : decode cX9_add 35 = .ok (.ireturn, 1) := by decide +kernel
theorem dX9_add_36 : decode cX9_add 36 = .ok (.aload_n 0, 1) := by decide +kernel
theorem dX9_add_37 : decode cX9_add 37 = .ok (.iload_n 1, 1) := by decide +kernel
theorem dX9_add_38 : decode cX9_add 38 = .ok (.iload_n 2, 1) := by decide +kernel
theorem dX9_add_39 : decode cX9_add 39 = .ok (.iload_n 3, 1) := by decide +kernel
theorem dX9_add_40 : decode cX9_add 40 = .ok (.lload 4, 2) := by decide +kernel
theorem dX9_add_42 : decode cX9_add 42 = .ok (.invokevirtual 226, 3) := by decide +kernel
theorem dX9_add_45 : decode cX9_add 45 = .ok (.ireturn, 1) := by decide +kernel
theorem dX9_addSpan_0 : decode cX9_addSpan 0 = .ok (.aload_n 0, 1) := by decide +kernel
theorem dX9_addSpan_1 : decode cX9_addSpan 1 = .ok (.aload_n 0, 1) := by decide +kernel
theorem dX9_addSpan_2 : decode cX9_addSpan 2 = .ok (.iload_n 1, 1) := by decide +kernel
theorem dX9_addSpan_3 : decode cX9_addSpan 3 = .ok (.invokevirtual 130, 3) := by decide +kernel
theorem dX9_addSpan_6 : decode cX9_addSpan 6 = .ok (.ifCond .eq 7, 3) := by decide +kernel
theorem dX9_addSpan_9 : decode cX9_addSpan 9 = .ok (.iconst 0, 1) := by decide +kernel
theorem dX9_addSpan_10 : decode cX9_addSpan 10 = .ok (.goto 4, 3) := by decide +kernel
theorem dX9_addSpan_13 : decode cX9_addSpan 13 = .ok (.iconst 1, 1) := by decide +kernel
theorem dX9_addSpan_14 : decode cX9_addSpan 14 = .ok (.putfield 97, 3) := by decide +kernel
theorem dX9_addSpan_17 : decode cX9_addSpan 17 = .ok (.aload_n 0, 1) := by decide +kernel
theorem dX9_addSpan_18 : decode cX9_addSpan 18 = .ok (.getfield 97, 3) := by decide +kernel
theorem dX9_addSpan_21 : decode cX9_addSpan 21 = .ok (.ifCond .le 5, 3) := by decide +kernel
theorem dX9_addSpan_24 : decode cX9_addSpan 24 = .ok (.iconst 0, 1) := by decide +kernel
theorem dX9_addSpan_25 : decode cX9_addSpan 25 = .ok (.ireturn, 1) := by decide +kernel
theorem dX9_addSpan_26 : decode cX9_addSpan 26 = .ok (.aload_n 0, 1) := by decide +kernel
theorem dX9_addSpan_27 : decode cX9_addSpan 27 = .ok (.invokevirtual 230, 3) := by decide +kernel
theorem dX9_addSpan_30 : decode cX9_addSpan 30 = .ok (.aload_n 0, 1) := by decide +kernel
theorem dX9_addSpan_31 : decode cX9_addSpan 31 = .ok (.aload_n 0, 1) := by decide +kernel
theorem dX9_addSpan_32 : decode cX9_addSpan 32 = .ok (.iload_n 1, 1) := by decide +kernel
theorem dX9_addSpan_33 : decode cX9_addSpan 33 = .ok (.invokevirtual 233, 3) := by decide +kernel
theorem dX9_addSpan_36 : decode cX9_addSpan 36 = .ok (.invokevirtual 236, 3) := by decide +kernel
theorem dX9_addSpan_39 : decode cX9_addSpan 39 = .ok (.lstore 4, 2) := by decide +kernel
theorem dX9_addSpan_41 : decode cX9_addSpan 41 = .ok (.aload_n 0, 1) := by decide +kernel
theorem dX9_addSpan_42 : decode cX9_addSpan 42 = .ok (.invokevirtual 240, 3) := by decide +kernel
theorem dX9_addSpan_45 : decode cX9_addSpan 45 = .ok (.ifCond .eq 10, 3) := by decide +kernel
theorem dX9_addSpan_48 : decode cX9_addSpan 48 = .ok (.aload_n 0, 1) := by decide +kernel
theorem dX9_addSpan_49 : decode cX9_addSpan 49 = .ok (.iconst 2, 1) := by decide +kernel
theorem dX9_addSpan_50 : decode cX9_addSpan 50 = .ok (.putfield 97, 3) := by decide +kernel
theorem dX9_addSpan_53 : decode cX9_addSpan 53 = .ok (.iconst 0, 1) := by decide +kernel
theorem dX9_addSpan_54 : decode cX9_addSpan 54 = .ok (.ireturn, 1) := by decide +kernel
theorem dX9_addSpan_55 : decode cX9_addSpan 55 = .ok (.aload_n 0, 1) := by decide +kernel
theorem dX9_addSpan_56 : decode cX9_addSpan 56 = .ok (.invokevirtual 116, 3) := by decide +kernel
theorem dX9_addSpan_59 : decode cX9_addSpan 59 = .ok (.aload_n 0, 1) := by decide +kernel
theorem dX9_addSpan_60 : decode cX9_addSpan 60 = .ok (.iload_n 1, 1) := by decide +kernel
theorem dX9_addSpan_61 : decode cX9_addSpan 61 = .ok (.iload_n 2, 1) := by decide +kernel
theorem dX9_addSpan_62 : decode cX9_addSpan 62 = .ok (.iload_n 3, 1) := by decide +kernel
theorem dX9_addSpan_63 : decode cX9_addSpan 63 = .ok (.lload 4, 2) := by decide +kernel
theorem dX9_addSpan_65 : decode cX9_addSpan 65 = .ok (.invokevirtual 244, 3) := by decide +kernel
theorem dX9_addSpan_68 : decode cX9_addSpan 68 = .ok (.istore 6, 2) := by decide +kernel
theorem dX9_addSpan_70 : decode cX9_addSpan 70 = .ok (.iload 6, 2) := by decide +kernel
theorem dX9_addSpan_72 : decode cX9_addSpan 72 = .ok (.ifCond .ge 10, 3) := by decide +kernel
theorem dX9_addSpan_75 : decode cX9_addSpan 75 = .ok (.aload_n 0, 1) := by decide +kernel
theorem dX9_addSpan_76 : decode cX9_addSpan 76 = .ok (.iconst 3, 1) := by decide +kernel
theorem dX9_addSpan_77 : decode cX9_addSpan 77 = .ok (.putfield 97, 3) := by decide +kernel
theorem dX9_addSpan_80 : decode cX9_addSpan 80 = .ok (.iconst 0, 1) := by decide +kernel
theorem dX9_addSpan_81 : decode cX9_addSpan 81 = .ok (.ireturn, 1) := by decide +kernel
theorem dX9_addSpan_82 : decode cX9_addSpan 82 = .ok (.aload_n 0, 1) := by decide +kernel
theorem dX9_addSpan_83 : decode cX9_addSpan 83 = .ok (.invokevirtual 119, 3) := by decide +kernel
theorem dX9_addSpan_86 : decode cX9_addSpan 86 = .ok (.iload 6, 2) := by decide +kernel
theorem dX9_addSpan_88 : decode cX9_addSpan 88 = .ok (.ireturn, 1) := by decide +kernel
theorem dX9_removeSpan_0 : decode cX9_removeSpan 0 = .ok (.aload_n 0, 1) := by decide +kernel
theorem dX9_removeSpan_1 : decode cX9_removeSpan 1 = .ok (.aload_n 0, 1) := by decide +kernel
theorem dX9_removeSpan_2 : decode cX9_removeSpan 2 = .ok (.iload_n 1, 1) := by decide +kernel
theorem dX9_removeSpan_3 : decode cX9_removeSpan 3 = .ok (.iload_n 2, 1) := by decide +kernel
theorem dX9_removeSpan_4 : decode cX9_removeSpan 4 = .ok (.invokevirtual 247, 3) := by decide +kernel
theorem dX9_removeSpan_7 : decode cX9_removeSpan 7 = .ok (.ifCond .eq 7, 3) := by decide +kernel
theorem dX9_removeSpan_10 : decode cX9_removeSpan 10 = .ok (.iconst 0, 1) := by decide +kernel
theorem dX9_removeSpan_11 : decode cX9_removeSpan 11 = .ok (.goto 4, 3) := by decide +kernel
theorem dX9_removeSpan_14 : decode cX9_removeSpan 14 = .ok (.iconst 1, 1) := by decide +kernel
theorem dX9_removeSpan_15 : decode cX9_removeSpan 15 = .ok (.putfield 97, 3) := by decide +kernel
theorem dX9_removeSpan_18 : decode cX9_removeSpan 18 = .ok (.aload_n 0, 1) := by decide +kernel
theorem dX9_removeSpan_19 : decode cX9_removeSpan 19 = .ok (.getfield 97, 3) := by decide +kernel
theorem dX9_removeSpan_22 : decode cX9_removeSpan 22 = .ok (.ifCond .le 5, 3) := by decide +kernel
theorem dX9_removeSpan_25 : decode cX9_removeSpan 25 = .ok (.iconst 0, 1) := by decide +kernel
theorem dX9_removeSpan_26 : decode cX9_removeSpan 26 = .ok (.ireturn, 1) := by decide +kernel
theorem dX9_removeSpan_27 : decode cX9_removeSpan 27 = .ok (.aload_n 0, 1) := by decide +kernel
theorem dX9_removeSpan_28 : decode cX9_removeSpan 28 = .ok (.invokevirtual 134, 3) := by decide +kernel
theorem dX9_removeSpan_31 : decode cX9_removeSpan 31 = .ok (.aload_n 0, 1) := by decide +kernel
theorem dX9_removeSpan_32 : decode cX9_removeSpan 32 = .ok (.iload_n 1, 1) := by decide +kernel
theorem dX9_removeSpan_33 : decode cX9_removeSpan 33 = .ok (.iload_n 2, 1) := by decide +kernel
theorem dX9_removeSpan_34 : decode cX9_removeSpan 34 = .ok (.invokevirtual 250, 3) := by decide +kernel
theorem dX9_removeSpan_37 : decode cX9_removeSpan 37 = .ok (.iconst 1, 1) := by decide +kernel
theorem dX9_removeSpan_38 : decode cX9_removeSpan 38 = .ok (.istore_n 3, 1) := by decide +kernel
theorem dX9_removeSpan_39 : decode cX9_removeSpan 39 = .ok (.iconst 0, 1) := by decide +kernel
theorem dX9_removeSpan_40 : decode cX9_removeSpan 40 = .ok (.istore 4, 2) := by decide +kernel
theorem dX9_removeSpan_42 : decode cX9_removeSpan 42 = .ok (.iload 4, 2) := by decide +kernel
theorem dX9_removeSpan_44 : decode cX9_removeSpan 44 = .ok (.aload_n 0, 1) := by decide +kernel
theorem dX9_removeSpan_45 : decode cX9_removeSpan 45 = .ok (.invokevirtual 122, 3) := by decide +kernel
theorem dX9_removeSpan_48 : decode cX9_removeSpan 48 = .ok (.if_icmp .ge 44, 3) := by decide +kernel
theorem dX9_removeSpan_51 : decode cX9_removeSpan 51 = .ok (.aload_n 0, 1) := by decide +kernel
theorem dX9_removeSpan_52 : decode cX9_removeSpan 52 = .ok (.iload 4, 2) := by decide +kernel
theorem dX9_removeSpan_54 : decode cX9_removeSpan 54 = .ok (.invokevirtual 174, 3) := by decide +kernel
theorem dX9_removeSpan_57 : decode cX9_removeSpan 57 = .ok (.istore 5, 2) := by decide +kernel
theorem dX9_removeSpan_59 : decode cX9_removeSpan 59 = .ok (.iload 5, 2) := by decide +kernel
theorem dX9_removeSpan_61 : decode cX9_removeSpan 61 = .ok (.ifCond .lt 25, 3) := by decide +kernel
theorem dX9_removeSpan_64 : decode cX9_removeSpan 64 = .ok (.aload_n 0, 1) := by decide +kernel
theorem dX9_removeSpan_65 : decode cX9_removeSpan 65 = .ok (.iload 4, 2) := by decide +kernel
theorem dX9_removeSpan_67 : decode cX9_removeSpan 67 = .ok (.iload 5, 2) := by decide +kernel
theorem dX9_removeSpan_69 : decode cX9_removeSpan 69 = .ok (.invokevirtual 250, 3) := by decide +kernel
theorem dX9_removeSpan_72 : decode cX9_removeSpan 72 = .ok (.iinc 3 1, 3) := by decide +kernel
theorem dX9_removeSpan_75 : decode cX9_removeSpan 75 = .ok (.aload_n 0, 1) := by decide +kernel
theorem dX9_removeSpan_76 : decode cX9_removeSpan 76 = .ok (.iload 4, 2) := by decide +kernel
theorem dX9_removeSpan_78 : decode cX9_removeSpan 78 = .ok (.invokevirtual 174, 3) := by decide +kernel
theorem dX9_removeSpan_81 : decode cX9_removeSpan 81 = .ok (.istore 5, 2) := by decide +kernel
theorem dX9_removeSpan_83 : decode cX9_removeSpan 83 = .ok (.goto (-24), 3) := by decide +kernel
theorem dX9_removeSpan_86 : decode cX9_removeSpan 86 = .ok (.iinc 4 1, 3) := by decide +kernel
theorem dX9_removeSpan_89 : decode cX9_removeSpan 89 = .ok (.goto (-47), 3) := by decide +kernel
theorem dX9_removeSpan_92 : decode cX9_removeSpan 92 = .ok (.iload_n 3, 1) := by decide +kernel
theorem dX9_removeSpan_93 : decode cX9_removeSpan 93 = .ok (.ireturn, 1) := by decide +kernel
theorem dX9_stays_0 : decode cX9_stays 0 = .ok (.aload_n 0, 1) := by decide +kernel
theorem dX9_stays_1 : decode cX9_stays 1 = .ok (.invokevirtual 254, 3) := by decide +kernel
theorem dX9_stays_4 : decode cX9_stays 4 = .ok (.istore_n 2, 1) := by decide +kernel
theorem dX9_stays_5 : decode cX9_stays 5 = .ok (.aload_n 0, 1) := by decide +kernel
theorem dX9_stays_6 : decode cX9_stays 6 = .ok (.iload_n 2, 1) := by decide +kernel
theorem dX9_stays_7 : decode cX9_stays 7 = .ok (.ifCond .lt 7, 3) := by decide +kernel
theorem dX9_stays_10 : decode cX9_stays 10 = .ok (.iconst 4, 1) := by decide +kernel
theorem dX9_stays_11 : decode cX9_stays 11 = .ok (.goto 4, 3) := by decide +kernel
theorem dX9_stays_14 : decode cX9_stays 14 = .ok (.iconst 0, 1) := by decide +kernel
theorem dX9_stays_15 : decode cX9_stays 15 = .ok (.iload_n 2, 1) := by decide +kernel
theorem dX9_stays_16 : decode cX9_stays 16 = .ok (.invokevirtual 215, 3) := by decide +kernel
theorem dX9_stays_19 : decode cX9_stays 19 = .ok (.ifCond .eq 14, 3) := by decide +kernel
theorem dX9_stays_22 : decode cX9_stays 22 = .ok (.aload_n 0, 1) := by decide +kernel
theorem dX9_stays_23 : decode cX9_stays 23 = .ok (.invokevirtual 257, 3) := by decide +kernel
theorem dX9_stays_26 : decode cX9_stays 26 = .ok (.aload_n 0, 1) := by decide +kernel
theorem dX9_stays_27 : decode cX9_stays 27 = .ok (.iload_n 1, 1) := by decide +kernel
theorem dX9_stays_28 : decode cX9_stays 28 = .ok (.putfield 97, 3) := by decide +kernel
theorem dX9_stays_31 : decode cX9_stays 31 = .ok (.iconst 0, 1) := by decide +kernel
theorem dX9_stays_32 : decode cX9_stays 32 = .ok (.ireturn, 1) := by decide +kernel
theorem dX9_stays_33 : decode cX9_stays 33 = .ok (.iconst 1, 1) := by decide +kernel
theorem dX9_stays_34 : decode cX9_stays 34 = .ok (.ireturn, 1) := by decide +kernel
theorem dX9_moveSpan_0 : decode cX9_moveSpan 0 = .ok (.aload_n 0, 1) := by decide +kernel
theorem dX9_moveSpan_1 : decode cX9_moveSpan 1 = .ok (.aload_n 0, 1) := by decide +kernel
theorem dX9_moveSpan_2 : decode cX9_moveSpan 2 = .ok (.iload_n 1, 1) := by decide +kernel
theorem dX9_moveSpan_3 : decode cX9_moveSpan 3 = .ok (.iload_n 2, 1) := by decide +kernel
theorem dX9_moveSpan_4 : decode cX9_moveSpan 4 = .ok (.invokevirtual 247, 3) := by decide +kernel
theorem dX9_moveSpan_7 : decode cX9_moveSpan 7 = .ok (.ifCond .ne 7, 3) := by decide +kernel
theorem dX9_moveSpan_10 : decode cX9_moveSpan 10 = .ok (.iconst 1, 1) := by decide +kernel
theorem dX9_moveSpan_11 : decode cX9_moveSpan 11 = .ok (.goto 20, 3) := by decide +kernel
theorem dX9_moveSpan_14 : decode cX9_moveSpan 14 = .ok (.aload_n 0, 1) := by decide +kernel
theorem dX9_moveSpan_15 : decode cX9_moveSpan 15 = .ok (.iload_n 1, 1) := by decide +kernel
theorem dX9_moveSpan_16 : decode cX9_moveSpan 16 = .ok (.iload_n 2, 1) := by decide +kernel
theorem dX9_moveSpan_17 : decode cX9_moveSpan 17 = .ok (.iload_n 3, 1) := by decide +kernel
theorem dX9_moveSpan_18 : decode cX9_moveSpan 18 = .ok (.iload 4, 2) := by decide +kernel
theorem dX9_moveSpan_20 : decode cX9_moveSpan 20 = .ok (.invokevirtual 222, 3) := by decide +kernel
theorem dX9_moveSpan_23 : decode cX9_moveSpan 23 = .ok (.ifCond .eq 7, 3) := by decide +kernel
theorem dX9_moveSpan_26 : decode cX9_moveSpan 26 = .ok (.iconst 2, 1) := by decide +kernel
theorem dX9_moveSpan_27 : decode cX9_moveSpan 27 = .ok (.goto 4, 3) := by decide +kernel
theorem dX9_moveSpan_30 : decode cX9_moveSpan 30 = .ok (.iconst 0, 1) := by decide +kernel
theorem dX9_moveSpan_31 : decode cX9_moveSpan 31 = .ok (.putfield 97, 3) := by decide +kernel
theorem dX9_moveSpan_34 : decode cX9_moveSpan 34 = .ok (.aload_n 0, 1) := by decide +kernel
theorem dX9_moveSpan_35 : decode cX9_moveSpan 35 = .ok (.getfield 97, 3) := by decide +kernel
theorem dX9_moveSpan_38 : decode cX9_moveSpan 38 = .ok (.ifCond .le 5, 3) := by decide +kernel
theorem dX9_moveSpan_41 : decode cX9_moveSpan 41 = .ok (.iconst 0, 1) := by decide +kernel
theorem dX9_moveSpan_42 : decode cX9_moveSpan 42 = .ok (.ireturn, 1) := by decide +kernel
theorem dX9_moveSpan_43 : decode cX9_moveSpan 43 = .ok (.aload_n 0, 1) := by decide +kernel
theorem dX9_moveSpan_44 : decode cX9_moveSpan 44 = .ok (.invokevirtual 116, 3) := by decide +kernel
theorem dX9_moveSpan_47 : decode cX9_moveSpan 47 = .ok (.aload_n 0, 1) := by decide +kernel
theorem dX9_moveSpan_48 : decode cX9_moveSpan 48 = .ok (.iload_n 1, 1) := by decide +kernel
theorem dX9_moveSpan_49 : decode cX9_moveSpan 49 = .ok (.iload_n 2, 1) := by decide +kernel
theorem dX9_moveSpan_50 : decode cX9_moveSpan 50 = .ok (.invokevirtual 177, 3) := by decide +kernel
theorem dX9_moveSpan_53 : decode cX9_moveSpan 53 = .ok (.lstore 5, 2) := by decide +kernel
theorem dX9_moveSpan_55 : decode cX9_moveSpan 55 = .ok (.aload_n 0, 1) := by decide +kernel
theorem dX9_moveSpan_56 : decode cX9_moveSpan 56 = .ok (.iload_n 1, 1) := by decide +kernel
theorem dX9_moveSpan_57 : decode cX9_moveSpan 57 = .ok (.iload_n 2, 1) := by decide +kernel
theorem dX9_moveSpan_58 : decode cX9_moveSpan 58 = .ok (.invokevirtual 250, 3) := by decide +kernel
theorem dX9_moveSpan_61 : decode cX9_moveSpan 61 = .ok (.aload_n 0, 1) := by decide +kernel
theorem dX9_moveSpan_62 : decode cX9_moveSpan 62 = .ok (.iload_n 1, 1) := by decide +kernel
theorem dX9_moveSpan_63 : decode cX9_moveSpan 63 = .ok (.iload_n 3, 1) := by decide +kernel
theorem dX9_moveSpan_64 : decode cX9_moveSpan 64 = .ok (.iload 4, 2) := by decide +kernel
theorem dX9_moveSpan_66 : decode cX9_moveSpan 66 = .ok (.lload 5, 2) := by decide +kernel
theorem dX9_moveSpan_68 : decode cX9_moveSpan 68 = .ok (.invokevirtual 226, 3) := by decide +kernel
theorem dX9_moveSpan_71 : decode cX9_moveSpan 71 = .ok (.istore 7, 2) := by decide +kernel
theorem dX9_moveSpan_73 : decode cX9_moveSpan 73 = .ok (.aload_n 0, 1) := by decide +kernel
theorem dX9_moveSpan_74 : decode cX9_moveSpan 74 = .ok (.iconst 2, 1) := by decide +kernel
theorem dX9_moveSpan_75 : decode cX9_moveSpan 75 = .ok (.invokevirtual 260, 3) := by decide +kernel
theorem dX9_moveSpan_78 : decode cX9_moveSpan 78 = .ok (.ifCond .ne 5, 3) := by decide +kernel
theorem dX9_moveSpan_81 : decode cX9_moveSpan 81 = .ok (.iconst 0, 1) := by decide +kernel
theorem dX9_moveSpan_82 : decode cX9_moveSpan 82 = .ok (.ireturn, 1) := by decide +kernel
theorem dX9_moveSpan_83 : decode cX9_moveSpan 83 = .ok (.aload_n 0, 1) := by decide +kernel
theorem dX9_moveSpan_84 : decode cX9_moveSpan 84 = .ok (.invokevirtual 119, 3) := by decide +kernel
theorem dX9_moveSpan_87 : decode cX9_moveSpan 87 = .ok (.iload 7, 2) := by decide +kernel
theorem dX9_moveSpan_89 : decode cX9_moveSpan 89 = .ok (.ireturn, 1) := by decide +kernel
theorem dX9_rename_0 : decode cX9_rename 0 = .ok (.aload_n 0, 1) := by decide +kernel
theorem dX9_rename_1 : decode cX9_rename 1 = .ok (.aload_n 0, 1) := by decide +kernel
theorem dX9_rename_2 : decode cX9_rename 2 = .ok (.iload_n 1, 1) := by decide +kernel
theorem dX9_rename_3 : decode cX9_rename 3 = .ok (.iload_n 2, 1) := by decide +kernel
theorem dX9_rename_4 : decode cX9_rename 4 = .ok (.invokevirtual 247, 3) := by decide +kernel
theorem dX9_rename_7 : decode cX9_rename 7 = .ok (.ifCond .eq 7, 3) := by decide +kernel
theorem dX9_rename_10 : decode cX9_rename 10 = .ok (.iconst 0, 1) := by decide +kernel
theorem dX9_rename_11 : decode cX9_rename 11 = .ok (.goto 4, 3) := by decide +kernel
theorem dX9_rename_14 : decode cX9_rename 14 = .ok (.iconst 1, 1) := by decide +kernel
theorem dX9_rename_15 : decode cX9_rename 15 = .ok (.putfield 97, 3) := by decide +kernel
theorem dX9_rename_18 : decode cX9_rename 18 = .ok (.aload_n 0, 1) := by decide +kernel
theorem dX9_rename_19 : decode cX9_rename 19 = .ok (.getfield 97, 3) := by decide +kernel
theorem dX9_rename_22 : decode cX9_rename 22 = .ok (.ifCond .le 5, 3) := by decide +kernel
theorem dX9_rename_25 : decode cX9_rename 25 = .ok (.iconst 0, 1) := by decide +kernel
theorem dX9_rename_26 : decode cX9_rename 26 = .ok (.ireturn, 1) := by decide +kernel
theorem dX9_rename_27 : decode cX9_rename 27 = .ok (.aload_n 0, 1) := by decide +kernel
theorem dX9_rename_28 : decode cX9_rename 28 = .ok (.invokevirtual 230, 3) := by decide +kernel
theorem dX9_rename_31 : decode cX9_rename 31 = .ok (.aload_n 0, 1) := by decide +kernel
theorem dX9_rename_32 : decode cX9_rename 32 = .ok (.aload_n 0, 1) := by decide +kernel
theorem dX9_rename_33 : decode cX9_rename 33 = .ok (.iload_n 1, 1) := by decide +kernel
theorem dX9_rename_34 : decode cX9_rename 34 = .ok (.invokevirtual 233, 3) := by decide +kernel
theorem dX9_rename_37 : decode cX9_rename 37 = .ok (.invokevirtual 236, 3) := by decide +kernel
theorem dX9_rename_40 : decode cX9_rename 40 = .ok (.lstore_n 3, 1) := by decide +kernel
theorem dX9_rename_41 : decode cX9_rename 41 = .ok (.aload_n 0, 1) := by decide +kernel
theorem dX9_rename_42 : decode cX9_rename 42 = .ok (.invokevirtual 240, 3) := by decide +kernel
theorem dX9_rename_45 : decode cX9_rename 45 = .ok (.ifCond .eq 10, 3) := by decide +kernel
theorem dX9_rename_48 : decode cX9_rename 48 = .ok (.aload_n 0, 1) := by decide +kernel
theorem dX9_rename_49 : decode cX9_rename 49 = .ok (.iconst 2, 1) := by decide +kernel
theorem dX9_rename_50 : decode cX9_rename 50 = .ok (.putfield 97, 3) := by decide +kernel
theorem dX9_rename_53 : decode cX9_rename 53 = .ok (.iconst 0, 1) := by decide +kernel
theorem dX9_rename_54 : decode cX9_rename 54 = .ok (.ireturn, 1) := by decide +kernel
theorem dX9_rename_55 : decode cX9_rename 55 = .ok (.aload_n 0, 1) := by decide +kernel
theorem dX9_rename_56 : decode cX9_rename 56 = .ok (.invokevirtual 134, 3) := by decide +kernel
theorem dX9_rename_59 : decode cX9_rename 59 = .ok (.aload_n 0, 1) := by decide +kernel
theorem dX9_rename_60 : decode cX9_rename 60 = .ok (.iload_n 1, 1) := by decide +kernel
theorem dX9_rename_61 : decode cX9_rename 61 = .ok (.iload_n 2, 1) := by decide +kernel
theorem dX9_rename_62 : decode cX9_rename 62 = .ok (.invokevirtual 177, 3) := by decide +kernel
theorem dX9_rename_65 : decode cX9_rename 65 = .ok (.lload_n 3, 1) := by decide +kernel
theorem dX9_rename_66 : decode cX9_rename 66 = .ok (.lcmp, 1) := by decide +kernel
theorem dX9_rename_67 : decode cX9_rename 67 = .ok (.ifCond .eq 7, 3) := by decide +kernel
theorem dX9_rename_70 : decode cX9_rename 70 = .ok (.iconst 1, 1) := by decide +kernel
theorem dX9_rename_71 : decode cX9_rename 71 = .ok (.goto 4, 3) := by decide +kernel
theorem dX9_rename_74 : decode cX9_rename 74 = .ok (.iconst 0, 1) := by decide +kernel
theorem dX9_rename_75 : decode cX9_rename 75 = .ok (.istore 5, 2) := by decide +kernel
theorem dX9_rename_77 : decode cX9_rename 77 = .ok (.aload_n 0, 1) := by decide +kernel
theorem dX9_rename_78 : decode cX9_rename 78 = .ok (.getfield 9, 3) := by decide +kernel
theorem dX9_rename_81 : decode cX9_rename 81 = .ok (.aload_n 0, 1) := by decide +kernel
theorem dX9_rename_82 : decode cX9_rename 82 = .ok (.iload_n 1, 1) := by decide +kernel
theorem dX9_rename_83 : decode cX9_rename 83 = .ok (.iload_n 2, 1) := by decide +kernel
theorem dX9_rename_84 : decode cX9_rename 84 = .ok (.invokevirtual 152, 3) := by decide +kernel
theorem dX9_rename_87 : decode cX9_rename 87 = .ok (.iconst 2, 1) := by decide +kernel
theorem dX9_rename_88 : decode cX9_rename 88 = .ok (.iadd, 1) := by decide +kernel
theorem dX9_rename_89 : decode cX9_rename 89 = .ok (.lload_n 3, 1) := by decide +kernel
theorem dX9_rename_90 : decode cX9_rename 90 = .ok (.lastore, 1) := by decide +kernel
theorem dX9_rename_91 : decode cX9_rename 91 = .ok (.iload 5, 2) := by decide +kernel
theorem dX9_rename_93 : decode cX9_rename 93 = .ok (.ifCond .eq 7, 3) := by decide +kernel
theorem dX9_rename_96 : decode cX9_rename 96 = .ok (.iconst 1, 1) := by decide +kernel
theorem dX9_rename_97 : decode cX9_rename 97 = .ok (.goto 4, 3) := by decide +kernel
theorem dX9_rename_100 : decode cX9_rename 100 = .ok (.iconst 0, 1) := by decide +kernel
theorem dX9_rename_101 : decode cX9_rename 101 = .ok (.ireturn, 1) := by decide +kernel
theorem dX9_split_0 : decode cX9_split 0 = .ok (.aload_n 0, 1) := by decide +kernel
theorem dX9_split_1 : decode cX9_split 1 = .ok (.aload_n 0, 1) := by decide +kernel
theorem dX9_split_2 : decode cX9_split 2 = .ok (.iload_n 1, 1) := by decide +kernel
theorem dX9_split_3 : decode cX9_split 3 = .ok (.iload_n 2, 1) := by decide +kernel
theorem dX9_split_4 : decode cX9_split 4 = .ok (.invokevirtual 247, 3) := by decide +kernel
theorem dX9_split_7 : decode cX9_split 7 = .ok (.ifCond .eq 7, 3) := by decide +kernel
theorem dX9_split_10 : decode cX9_split 10 = .ok (.iconst 0, 1) := by decide +kernel
theorem dX9_split_11 : decode cX9_split 11 = .ok (.goto 4, 3) := by decide +kernel
theorem dX9_split_14 : decode cX9_split 14 = .ok (.iconst 1, 1) := by decide +kernel
theorem dX9_split_15 : decode cX9_split 15 = .ok (.putfield 97, 3) := by decide +kernel
theorem dX9_split_18 : decode cX9_split 18 = .ok (.aload_n 0, 1) := by decide +kernel
theorem dX9_split_19 : decode cX9_split 19 = .ok (.getfield 97, 3) := by decide +kernel
theorem dX9_split_22 : decode cX9_split 22 = .ok (.ifCond .le 5, 3) := by decide +kernel
theorem dX9_split_25 : decode cX9_split 25 = .ok (.iconst 0, 1) := by decide +kernel
theorem dX9_split_26 : decode cX9_split 26 = .ok (.ireturn, 1) := by decide +kernel
theorem dX9_split_27 : decode cX9_split 27 = .ok (.aload_n 0, 1) := by decide +kernel
theorem dX9_split_28 : decode cX9_split 28 = .ok (.iload_n 1, 1) := by decide +kernel
theorem dX9_split_29 : decode cX9_split 29 = .ok (.iload_n 2, 1) := by decide +kernel
theorem dX9_split_30 : decode cX9_split 30 = .ok (.invokevirtual 155, 3) := by decide +kernel
theorem dX9_split_33 : decode cX9_split 33 = .ok (.istore 4, 2) := by decide +kernel
theorem dX9_split_35 : decode cX9_split 35 = .ok (.aload_n 0, 1) := by decide +kernel
theorem dX9_split_36 : decode cX9_split 36 = .ok (.iload_n 1, 1) := by decide +kernel
theorem dX9_split_37 : decode cX9_split 37 = .ok (.iload_n 2, 1) := by decide +kernel
theorem dX9_split_38 : decode cX9_split 38 = .ok (.invokevirtual 164, 3) := by decide +kernel
theorem dX9_split_41 : decode cX9_split 41 = .ok (.istore 5, 2) := by decide +kernel
theorem dX9_split_43 : decode cX9_split 43 = .ok (.iconst 0, 1) := by decide +kernel
theorem dX9_split_44 : decode cX9_split 44 = .ok (.istore 6, 2) := by decide +kernel
theorem dX9_split_46 : decode cX9_split 46 = .ok (.iload_n 3, 1) := by decide +kernel
theorem dX9_split_47 : decode cX9_split 47 = .ok (.iload 4, 2) := by decide +kernel
theorem dX9_split_49 : decode cX9_split 49 = .ok (.iconst 1, 1) := by decide +kernel
theorem dX9_split_50 : decode cX9_split 50 = .ok (.iadd, 1) := by decide +kernel
theorem dX9_split_51 : decode cX9_split 51 = .ok (.iload 5, 2) := by decide +kernel
theorem dX9_split_53 : decode cX9_split 53 = .ok (.iconst 1, 1) := by decide +kernel
theorem dX9_split_54 : decode cX9_split 54 = .ok (.isub, 1) := by decide +kernel
theorem dX9_split_55 : decode cX9_split 55 = .ok (.invokestatic 126, 3) := by decide +kernel
theorem dX9_split_58 : decode cX9_split 58 = .ok (.ifCond .ne 9, 3) := by decide +kernel
theorem dX9_split_61 : decode cX9_split 61 = .ok (.iconst 1, 1) := by decide +kernel
theorem dX9_split_62 : decode cX9_split 62 = .ok (.istore 6, 2) := by decide +kernel
theorem dX9_split_64 : decode cX9_split 64 = .ok (.goto 28, 3) := by decide +kernel
theorem dX9_split_67 : decode cX9_split 67 = .ok (.aload_n 0, 1) := by decide +kernel
theorem dX9_split_68 : decode cX9_split 68 = .ok (.iload_n 1, 1) := by decide +kernel
theorem dX9_split_69 : decode cX9_split 69 = .ok (.iload 4, 2) := by decide +kernel
theorem dX9_split_71 : decode cX9_split 71 = .ok (.iload_n 3, 1) := by decide +kernel
theorem dX9_split_72 : decode cX9_split 72 = .ok (.invokevirtual 171, 3) := by decide +kernel
theorem dX9_split_75 : decode cX9_split 75 = .ok (.ifCond .ne 14, 3) := by decide +kernel
theorem dX9_split_78 : decode cX9_split 78 = .ok (.aload_n 0, 1) := by decide +kernel
theorem dX9_split_79 : decode cX9_split 79 = .ok (.iload_n 1, 1) := by decide +kernel
theorem dX9_split_80 : decode cX9_split 80 = .ok (.iload_n 3, 1) := by decide +kernel
theorem dX9_split_81 : decode cX9_split 81 = .ok (.iload 5, 2) := by decide +kernel
theorem dX9_split_83 : decode cX9_split 83 = .ok (.invokevirtual 171, 3) := by decide +kernel
theorem dX9_split_86 : decode cX9_split 86 = .ok (.ifCond .eq 6, 3) := by decide +kernel
theorem dX9_split_89 : decode cX9_split 89 = .ok (.iconst 3, 1) := by decide +kernel
theorem dX9_split_90 : decode cX9_split 90 = .ok (.istore 6, 2) := by decide +kernel
theorem dX9_split_92 : decode cX9_split 92 = .ok (.aload_n 0, 1) := by decide +kernel
theorem dX9_split_93 : decode cX9_split 93 = .ok (.aload_n 0, 1) := by decide +kernel
theorem dX9_split_94 : decode cX9_split 94 = .ok (.iload 6, 2) := by decide +kernel
theorem dX9_split_96 : decode cX9_split 96 = .ok (.iconst 0, 1) := by decide +kernel
theorem dX9_split_97 : decode cX9_split 97 = .ok (.invokevirtual 215, 3) := by decide +kernel
theorem dX9_split_100 : decode cX9_split 100 = .ok (.ifCond .eq 7, 3) := by decide +kernel
theorem dX9_split_103 : decode cX9_split 103 = .ok (.iconst 2, 1) := by decide +kernel
theorem dX9_split_104 : decode cX9_split 104 = .ok (.goto 4, 3) := by decide +kernel
theorem dX9_split_107 : decode cX9_split 107 = .ok (.iconst 0, 1) := by decide +kernel
theorem dX9_split_108 : decode cX9_split 108 = .ok (.putfield 97, 3) := by decide +kernel
theorem dX9_split_111 : decode cX9_split 111 = .ok (.aload_n 0, 1) := by decide +kernel
theorem dX9_split_112 : decode cX9_split 112 = .ok (.getfield 97, 3) := by decide +kernel
theorem dX9_split_115 : decode cX9_split 115 = .ok (.ifCond .le 5, 3) := by decide +kernel
theorem dX9_split_118 : decode cX9_split 118 = .ok (.iconst 0, 1) := by decide +kernel
theorem dX9_split_119 : decode cX9_split 119 = .ok (.ireturn, 1) := by decide +kernel
theorem dX9_split_120 : decode cX9_split 120 = .ok (.aload_n 0, 1) := by decide +kernel
theorem dX9_split_121 : decode cX9_split 121 = .ok (.invokevirtual 116, 3) := by decide +kernel
theorem dX9_split_124 : decode cX9_split 124 = .ok (.aload_n 0, 1) := by decide +kernel
theorem dX9_split_125 : decode cX9_split 125 = .ok (.iload_n 1, 1) := by decide +kernel
theorem dX9_split_126 : decode cX9_split 126 = .ok (.iload_n 2, 1) := by decide +kernel
theorem dX9_split_127 : decode cX9_split 127 = .ok (.invokevirtual 177, 3) := by decide +kernel
theorem dX9_split_130 : decode cX9_split 130 = .ok (.lstore 7, 2) := by decide +kernel
theorem dX9_split_132 : decode cX9_split 132 = .ok (.aload_n 0, 1) := by decide +kernel
theorem dX9_split_133 : decode cX9_split 133 = .ok (.iload_n 1, 1) := by decide +kernel
theorem dX9_split_134 : decode cX9_split 134 = .ok (.invokevirtual 149, 3) := by decide +kernel
theorem dX9_split_137 : decode cX9_split 137 = .ok (.bipush 30, 2) := by decide +kernel
theorem dX9_split_139 : decode cX9_split 139 = .ok (.if_icmp .ne 7, 3) := by decide +kernel
theorem dX9_split_142 : decode cX9_split 142 = .ok (.iconst 1, 1) := by decide +kernel
theorem dX9_split_143 : decode cX9_split 143 = .ok (.goto 4, 3) := by decide +kernel
theorem dX9_split_146 : decode cX9_split 146 = .ok (.iconst 0, 1) := by decide +kernel
theorem dX9_split_147 : decode cX9_split 147 = .ok (.istore 9, 2) := by decide +kernel
theorem dX9_split_149 : decode cX9_split 149 = .ok (.aload_n 0, 1) := by decide +kernel
theorem dX9_split_150 : decode cX9_split 150 = .ok (.getfield 9, 3) := by decide +kernel
theorem dX9_split_153 : decode cX9_split 153 = .ok (.aload_n 0, 1) := by decide +kernel
theorem dX9_split_154 : decode cX9_split 154 = .ok (.iload_n 1, 1) := by decide +kernel
theorem dX9_split_155 : decode cX9_split 155 = .ok (.iload_n 2, 1) := by decide +kernel
theorem dX9_split_156 : decode cX9_split 156 = .ok (.invokevirtual 152, 3) := by decide +kernel
theorem dX9_split_159 : decode cX9_split 159 = .ok (.iconst 1, 1) := by decide +kernel
theorem dX9_split_160 : decode cX9_split 160 = .ok (.iadd, 1) := by decide +kernel
theorem dX9_split_161 : decode cX9_split 161 = .ok (.iload_n 3, 1) := by decide +kernel
theorem dX9_split_162 : decode cX9_split 162 = .ok (.i2l, 1) := by decide +kernel
theorem dX9_split_163 : decode cX9_split 163 = .ok (.lastore, 1) := by decide +kernel
theorem dX9_split_164 : decode cX9_split 164 = .ok (.iload 9, 2) := by decide +kernel
theorem dX9_split_166 : decode cX9_split 166 = .ok (.ifCond .eq 13, 3) := by decide +kernel
theorem dX9_split_169 : decode cX9_split 169 = .ok (.aload_n 0, 1) := by decide +kernel
theorem dX9_split_170 : decode cX9_split 170 = .ok (.iload_n 1, 1) := by decide +kernel
theorem dX9_split_171 : decode cX9_split 171 = .ok (.iload_n 2, 1) := by decide +kernel
theorem dX9_split_172 : decode cX9_split 172 = .ok (.iload_n 3, 1) := by decide +kernel
theorem dX9_split_173 : decode cX9_split 173 = .ok (.iload 5, 2) := by decide +kernel
theorem dX9_split_175 : decode cX9_split 175 = .ok (.invokevirtual 263, 3) := by decide +kernel
theorem dX9_split_178 : decode cX9_split 178 = .ok (.ireturn, 1) := by decide +kernel
theorem dX9_split_179 : decode cX9_split 179 = .ok (.aload_n 0, 1) := by decide +kernel
theorem dX9_split_180 : decode cX9_split 180 = .ok (.iload_n 1, 1) := by decide +kernel
theorem dX9_split_181 : decode cX9_split 181 = .ok (.iload_n 3, 1) := by decide +kernel
theorem dX9_split_182 : decode cX9_split 182 = .ok (.iload 5, 2) := by decide +kernel
theorem dX9_split_184 : decode cX9_split 184 = .ok (.lload 7, 2) := by decide +kernel
theorem dX9_split_186 : decode cX9_split 186 = .ok (.invokevirtual 226, 3) := by decide +kernel
theorem dX9_split_189 : decode cX9_split 189 = .ok (.istore 10, 2) := by decide +kernel
theorem dX9_split_191 : decode cX9_split 191 = .ok (.aload_n 0, 1) := by decide +kernel
theorem dX9_split_192 : decode cX9_split 192 = .ok (.iconst 2, 1) := by decide +kernel
theorem dX9_split_193 : decode cX9_split 193 = .ok (.invokevirtual 260, 3) := by decide +kernel
theorem dX9_split_196 : decode cX9_split 196 = .ok (.ifCond .ne 5, 3) := by decide +kernel
theorem dX9_split_199 : decode cX9_split 199 = .ok (.iconst 0, 1) := by decide +kernel
theorem dX9_split_200 : decode cX9_split 200 = .ok (.ireturn, 1) := by decide +kernel
theorem dX9_split_201 : decode cX9_split 201 = .ok (.aload_n 0, 1) := by decide +kernel
theorem dX9_split_202 : decode cX9_split 202 = .ok (.invokevirtual 119, 3) := by decide +kernel
theorem dX9_split_205 : decode cX9_split 205 = .ok (.iload 10, 2) := by decide +kernel
theorem dX9_split_207 : decode cX9_split 207 = .ok (.ifCond .ge 7, 3) := by decide +kernel
theorem dX9_split_210 : decode cX9_split 210 = .ok (.iconst 0, 1) := by decide +kernel
theorem dX9_split_211 : decode cX9_split 211 = .ok (.goto 8, 3) := by decide +kernel
theorem dX9_split_214 : decode cX9_split 214 = .ok (.aload_n 0, 1) := by decide +kernel
theorem dX9_split_215 : decode cX9_split 215 = .ok (.iload_n 1, 1) := by decide +kernel
theorem dX9_split_216 : decode cX9_split 216 = .ok (.invokevirtual 149, 3) := by decide +kernel
theorem dX9_split_219 : decode cX9_split 219 = .ok (.ireturn, 1) := by decide +kernel
theorem dX9_splitFull_0 : decode cX9_splitFull 0 = .ok (.iconst (-1), 1) := by decide +kernel
theorem dX9_splitFull_1 : decode cX9_splitFull 1 = .ok (.istore 5, 2) := by decide +kernel
theorem dX9_splitFull_3 : decode cX9_splitFull 3 = .ok (.aload_n 0, 1) := by decide +kernel
theorem dX9_splitFull_4 : decode cX9_splitFull 4 = .ok (.invokevirtual 122, 3) := by decide +kernel
theorem dX9_splitFull_7 : decode cX9_splitFull 7 = .ok (.iconst 1, 1) := by decide +kernel
theorem dX9_splitFull_8 : decode cX9_splitFull 8 = .ok (.isub, 1) := by decide +kernel
theorem dX9_splitFull_9 : decode cX9_splitFull 9 = .ok (.istore 6, 2) := by decide +kernel
theorem dX9_splitFull_11 : decode cX9_splitFull 11 = .ok (.iload 6, 2) := by decide +kernel
theorem dX9_splitFull_13 : decode cX9_splitFull 13 = .ok (.iload_n 1, 1) := by decide +kernel
theorem dX9_splitFull_14 : decode cX9_splitFull 14 = .ok (.if_icmp .le 116, 3) := by decide +kernel
theorem dX9_splitFull_17 : decode cX9_splitFull 17 = .ok (.iconst 0, 1) := by decide +kernel
theorem dX9_splitFull_18 : decode cX9_splitFull 18 = .ok (.istore 7, 2) := by decide +kernel
theorem dX9_splitFull_20 : decode cX9_splitFull 20 = .ok (.iload 7, 2) := by decide +kernel
theorem dX9_splitFull_22 : decode cX9_splitFull 22 = .ok (.aload_n 0, 1) := by decide +kernel
theorem dX9_splitFull_23 : decode cX9_splitFull 23 = .ok (.iload 6, 2) := by decide +kernel
theorem dX9_splitFull_25 : decode cX9_splitFull 25 = .ok (.invokevirtual 149, 3) := by decide +kernel
theorem dX9_splitFull_28 : decode cX9_splitFull 28 = .ok (.if_icmp .ge 96, 3) := by decide +kernel
theorem dX9_splitFull_31 : decode cX9_splitFull 31 = .ok (.aload_n 0, 1) := by decide +kernel
theorem dX9_splitFull_32 : decode cX9_splitFull 32 = .ok (.iload 6, 2) := by decide +kernel
theorem dX9_splitFull_34 : decode cX9_splitFull 34 = .ok (.invokevirtual 161, 3) := by decide +kernel
theorem dX9_splitFull_37 : decode cX9_splitFull 37 = .ok (.iload_n 1, 1) := by decide +kernel
theorem dX9_splitFull_38 : decode cX9_splitFull 38 = .ok (.if_icmp .ne 7, 3) := by decide +kernel
theorem dX9_splitFull_41 : decode cX9_splitFull 41 = .ok (.iconst 1, 1) := by decide +kernel
theorem dX9_splitFull_42 : decode cX9_splitFull 42 = .ok (.goto 4, 3) := by decide +kernel
theorem dX9_splitFull_45 : decode cX9_splitFull 45 = .ok (.iconst 0, 1) := by decide +kernel
theorem dX9_splitFull_46 : decode cX9_splitFull 46 = .ok (.istore 8, 2) := by decide +kernel
theorem dX9_splitFull_48 : decode cX9_splitFull 48 = .ok (.iload 8, 2) := by decide +kernel
theorem dX9_splitFull_50 : decode cX9_splitFull 50 = .ok (.ifCond .eq 46, 3) := by decide +kernel
theorem dX9_splitFull_53 : decode cX9_splitFull 53 = .ok (.aload_n 0, 1) := by decide +kernel
theorem dX9_splitFull_54 : decode cX9_splitFull 54 = .ok (.iload 6, 2) := by decide +kernel
theorem dX9_splitFull_56 : decode cX9_splitFull 56 = .ok (.aload_n 0, 1) := by decide +kernel
theorem dX9_splitFull_57 : decode cX9_splitFull 57 = .ok (.iload 6, 2) := by decide +kernel
theorem dX9_splitFull_59 : decode cX9_splitFull 59 = .ok (.iload 7, 2) := by decide +kernel
theorem dX9_splitFull_61 : decode cX9_splitFull 61 = .ok (.invokevirtual 155, 3) := by decide +kernel
theorem dX9_splitFull_64 : decode cX9_splitFull 64 = .ok (.aload_n 0, 1) := by decide +kernel
theorem dX9_splitFull_65 : decode cX9_splitFull 65 = .ok (.iload 6, 2) := by decide +kernel
theorem dX9_splitFull_67 : decode cX9_splitFull 67 = .ok (.iload 7, 2) := by decide +kernel
theorem dX9_splitFull_69 : decode cX9_splitFull 69 = .ok (.invokevirtual 164, 3) := by decide +kernel
theorem dX9_splitFull_72 : decode cX9_splitFull 72 = .ok (.invokevirtual 167, 3) := by decide +kernel
theorem dX9_splitFull_75 : decode cX9_splitFull 75 = .ok (.ifCond .ge 17, 3) := by decide +kernel
theorem dX9_splitFull_78 : decode cX9_splitFull 78 = .ok (.aload_n 0, 1) := by decide +kernel
theorem dX9_splitFull_79 : decode cX9_splitFull 79 = .ok (.iload 6, 2) := by decide +kernel
theorem dX9_splitFull_81 : decode cX9_splitFull 81 = .ok (.iload 7, 2) := by decide +kernel
theorem dX9_splitFull_83 : decode cX9_splitFull 83 = .ok (.iload_n 3, 1) := by decide +kernel
theorem dX9_splitFull_84 : decode cX9_splitFull 84 = .ok (.iload 4, 2) := by decide +kernel
theorem dX9_splitFull_86 : decode cX9_splitFull 86 = .ok (.invokevirtual 266, 3) := by decide +kernel
theorem dX9_splitFull_89 : decode cX9_splitFull 89 = .ok (.ifCond .eq 7, 3) := by decide +kernel
theorem dX9_splitFull_92 : decode cX9_splitFull 92 = .ok (.iconst 1, 1) := by decide +kernel
theorem dX9_splitFull_93 : decode cX9_splitFull 93 = .ok (.goto 4, 3) := by decide +kernel
theorem dX9_splitFull_96 : decode cX9_splitFull 96 = .ok (.iconst 0, 1) := by decide +kernel
theorem dX9_splitFull_97 : decode cX9_splitFull 97 = .ok (.istore 9, 2) := by decide +kernel
theorem dX9_splitFull_99 : decode cX9_splitFull 99 = .ok (.iload 8, 2) := by decide +kernel
theorem dX9_splitFull_101 : decode cX9_splitFull 101 = .ok (.ifCond .eq 13, 3) := by decide +kernel
theorem dX9_splitFull_104 : decode cX9_splitFull 104 = .ok (.iload 9, 2) := by decide +kernel
theorem dX9_splitFull_106 : decode cX9_splitFull 106 = .ok (.ifCond .ne 8, 3) := by decide +kernel
theorem dX9_splitFull_109 : decode cX9_splitFull 109 = .ok (.iload 6, 2) := by decide +kernel
theorem dX9_splitFull_111 : decode cX9_splitFull 111 = .ok (.goto 5, 3) := by decide +kernel
theorem dX9_splitFull_114 : decode cX9_splitFull 114 = .ok (.iload 5, 2) := by decide +kernel
theorem dX9_splitFull_116 : decode cX9_splitFull 116 = .ok (.istore 5, 2) := by decide +kernel
theorem dX9_splitFull_118 : decode cX9_splitFull 118 = .ok (.iinc 7 1, 3) := by decide +kernel
theorem dX9_splitFull_121 : decode cX9_splitFull 121 = .ok (.goto (-101), 3) := by decide +kernel
theorem dX9_splitFull_124 : decode cX9_splitFull 124 = .ok (.iinc 6 (-1), 3) := by decide +kernel
theorem dX9_splitFull_127 : decode cX9_splitFull 127 = .ok (.goto (-116), 3) := by decide +kernel
theorem dX9_splitFull_130 : decode cX9_splitFull 130 = .ok (.aload_n 0, 1) := by decide +kernel
theorem dX9_splitFull_131 : decode cX9_splitFull 131 = .ok (.invokevirtual 257, 3) := by decide +kernel
theorem dX9_splitFull_134 : decode cX9_splitFull 134 = .ok (.iload 5, 2) := by decide +kernel
theorem dX9_splitFull_136 : decode cX9_splitFull 136 = .ok (.ifCond .lt 13, 3) := by decide +kernel
theorem dX9_splitFull_139 : decode cX9_splitFull 139 = .ok (.aload_n 0, 1) := by decide +kernel
theorem dX9_splitFull_140 : decode cX9_splitFull 140 = .ok (.iconst 4, 1) := by decide +kernel
theorem dX9_splitFull_141 : decode cX9_splitFull 141 = .ok (.iload 5, 2) := by decide +kernel
theorem dX9_splitFull_143 : decode cX9_splitFull 143 = .ok (.invokevirtual 215, 3) := by decide +kernel
theorem dX9_splitFull_146 : decode cX9_splitFull 146 = .ok (.goto 9, 3) := by decide +kernel
theorem dX9_splitFull_149 : decode cX9_splitFull 149 = .ok (.aload_n 0, 1) := by decide +kernel
theorem dX9_splitFull_150 : decode cX9_splitFull 150 = .ok (.iconst 5, 1) := by decide +kernel
theorem dX9_splitFull_151 : decode cX9_splitFull 151 = .ok (.iconst 0, 1) := by decide +kernel
theorem dX9_splitFull_152 : decode cX9_splitFull 152 = .ok (.invokevirtual 215, 3) := by decide +kernel
theorem dX9_splitFull_155 : decode cX9_splitFull 155 = .ok (.istore 6, 2) := by decide +kernel
theorem dX9_splitFull_157 : decode cX9_splitFull 157 = .ok (.aload_n 0, 1) := by decide +kernel
theorem dX9_splitFull_158 : decode cX9_splitFull 158 = .ok (.iload 6, 2) := by decide +kernel
theorem dX9_splitFull_160 : decode cX9_splitFull 160 = .ok (.ifCond .eq 7, 3) := by decide +kernel
theorem dX9_splitFull_163 : decode cX9_splitFull 163 = .ok (.iconst 2, 1) := by decide +kernel
theorem dX9_splitFull_164 : decode cX9_splitFull 164 = .ok (.goto 4, 3) := by decide +kernel
theorem dX9_splitFull_167 : decode cX9_splitFull 167 = .ok (.iconst 0, 1) := by decide +kernel
theorem dX9_splitFull_168 : decode cX9_splitFull 168 = .ok (.putfield 97, 3) := by decide +kernel
theorem dX9_splitFull_171 : decode cX9_splitFull 171 = .ok (.iconst 0, 1) := by decide +kernel
theorem dX9_splitFull_172 : decode cX9_splitFull 172 = .ok (.ireturn, 1) := by decide +kernel
theorem dX9_isHosted_0 : decode cX9_isHosted 0 = .ok (.aload_n 0, 1) := by decide +kernel
theorem dX9_isHosted_1 : decode cX9_isHosted 1 = .ok (.iload_n 1, 1) := by decide +kernel
theorem dX9_isHosted_2 : decode cX9_isHosted 2 = .ok (.iload_n 2, 1) := by decide +kernel
theorem dX9_isHosted_3 : decode cX9_isHosted 3 = .ok (.invokevirtual 155, 3) := by decide +kernel
theorem dX9_isHosted_6 : decode cX9_isHosted 6 = .ok (.istore 5, 2) := by decide +kernel
theorem dX9_isHosted_8 : decode cX9_isHosted 8 = .ok (.aload_n 0, 1) := by decide +kernel
theorem dX9_isHosted_9 : decode cX9_isHosted 9 = .ok (.iload_n 1, 1) := by decide +kernel
theorem dX9_isHosted_10 : decode cX9_isHosted 10 = .ok (.iload_n 2, 1) := by decide +kernel
theorem dX9_isHosted_11 : decode cX9_isHosted 11 = .ok (.invokevirtual 164, 3) := by decide +kernel
theorem dX9_isHosted_14 : decode cX9_isHosted 14 = .ok (.istore 6, 2) := by decide +kernel
theorem dX9_isHosted_16 : decode cX9_isHosted 16 = .ok (.aload_n 0, 1) := by decide +kernel
theorem dX9_isHosted_17 : decode cX9_isHosted 17 = .ok (.iload_n 1, 1) := by decide +kernel
theorem dX9_isHosted_18 : decode cX9_isHosted 18 = .ok (.invokevirtual 158, 3) := by decide +kernel
theorem dX9_isHosted_21 : decode cX9_isHosted 21 = .ok (.iconst 1, 1) := by decide +kernel
theorem dX9_isHosted_22 : decode cX9_isHosted 22 = .ok (.if_icmp .ne 24, 3) := by decide +kernel
theorem dX9_isHosted_25 : decode cX9_isHosted 25 = .ok (.iload_n 3, 1) := by decide +kernel
theorem dX9_isHosted_26 : decode cX9_isHosted 26 = .ok (.iload 5, 2) := by decide +kernel
theorem dX9_isHosted_28 : decode cX9_isHosted 28 = .ok (.if_icmp .gt 14, 3) := by decide +kernel
theorem dX9_isHosted_31 : decode cX9_isHosted 31 = .ok (.iload 6, 2) := by decide +kernel
theorem dX9_isHosted_33 : decode cX9_isHosted 33 = .ok (.iload 4, 2) := by decide +kernel
theorem dX9_isHosted_35 : decode cX9_isHosted 35 = .ok (.if_icmp .gt 7, 3) := by decide +kernel
theorem dX9_isHosted_38 : decode cX9_isHosted 38 = .ok (.iconst 1, 1) := by decide +kernel
theorem dX9_isHosted_39 : decode cX9_isHosted 39 = .ok (.goto 34, 3) := by decide +kernel
theorem dX9_isHosted_42 : decode cX9_isHosted 42 = .ok (.iconst 0, 1) := by decide +kernel
theorem dX9_isHosted_43 : decode cX9_isHosted 43 = .ok (.goto 30, 3) := by decide +kernel
theorem dX9_isHosted_46 : decode cX9_isHosted 46 = .ok (.iload_n 3, 1) := by decide +kernel
theorem dX9_isHosted_47 : decode cX9_isHosted 47 = .ok (.iload 5, 2) := by decide +kernel
theorem dX9_isHosted_49 : decode cX9_isHosted 49 = .ok (.if_icmp .ne 23, 3) := by decide +kernel
theorem dX9_isHosted_52 : decode cX9_isHosted 52 = .ok (.aload_n 0, 1) := by decide +kernel
theorem dX9_isHosted_53 : decode cX9_isHosted 53 = .ok (.iload_n 1, 1) := by decide +kernel
theorem dX9_isHosted_54 : decode cX9_isHosted 54 = .ok (.invokevirtual 158, 3) := by decide +kernel
theorem dX9_isHosted_57 : decode cX9_isHosted 57 = .ok (.iconst 3, 1) := by decide +kernel
theorem dX9_isHosted_58 : decode cX9_isHosted 58 = .ok (.if_icmp .eq 10, 3) := by decide +kernel
theorem dX9_isHosted_61 : decode cX9_isHosted 61 = .ok (.iload 4, 2) := by decide +kernel
theorem dX9_isHosted_63 : decode cX9_isHosted 63 = .ok (.iload 6, 2) := by decide +kernel
theorem dX9_isHosted_65 : decode cX9_isHosted 65 = .ok (.if_icmp .ne 7, 3) := by decide +kernel
theorem dX9_isHosted_68 : decode cX9_isHosted 68 = .ok (.iconst 1, 1) := by decide +kernel
theorem dX9_isHosted_69 : decode cX9_isHosted 69 = .ok (.goto 4, 3) := by decide +kernel
theorem dX9_isHosted_72 : decode cX9_isHosted 72 = .ok (.iconst 0, 1) := by decide +kernel
theorem dX9_isHosted_73 : decode cX9_isHosted 73 = .ok (.ireturn, 1) := by decide +kernel
theorem dX9_join_0 : decode cX9_join 0 = .ok (.aload_n 0, 1) := by decide +kernel
theorem dX9_join_1 : decode cX9_join 1 = .ok (.aload_n 0, 1) := by decide +kernel
theorem dX9_join_2 : decode cX9_join 2 = .ok (.iload_n 1, 1) := by decide +kernel
theorem dX9_join_3 : decode cX9_join 3 = .ok (.iload_n 2, 1) := by decide +kernel
theorem dX9_join_4 : decode cX9_join 4 = .ok (.invokevirtual 247, 3) := by decide +kernel
theorem dX9_join_7 : decode cX9_join 7 = .ok (.ifCond .eq 7, 3) := by decide +kernel
theorem dX9_join_10 : decode cX9_join 10 = .ok (.iconst 0, 1) := by decide +kernel
theorem dX9_join_11 : decode cX9_join 11 = .ok (.goto 4, 3) := by decide +kernel
theorem dX9_join_14 : decode cX9_join 14 = .ok (.iconst 1, 1) := by decide +kernel
theorem dX9_join_15 : decode cX9_join 15 = .ok (.putfield 97, 3) := by decide +kernel
theorem dX9_join_18 : decode cX9_join 18 = .ok (.aload_n 0, 1) := by decide +kernel
theorem dX9_join_19 : decode cX9_join 19 = .ok (.getfield 97, 3) := by decide +kernel
theorem dX9_join_22 : decode cX9_join 22 = .ok (.ifCond .le 5, 3) := by decide +kernel
theorem dX9_join_25 : decode cX9_join 25 = .ok (.iconst 0, 1) := by decide +kernel
theorem dX9_join_26 : decode cX9_join 26 = .ok (.ireturn, 1) := by decide +kernel
theorem dX9_join_27 : decode cX9_join 27 = .ok (.aload_n 0, 1) := by decide +kernel
theorem dX9_join_28 : decode cX9_join 28 = .ok (.iload_n 1, 1) := by decide +kernel
theorem dX9_join_29 : decode cX9_join 29 = .ok (.iload_n 2, 1) := by decide +kernel
theorem dX9_join_30 : decode cX9_join 30 = .ok (.invokevirtual 155, 3) := by decide +kernel
theorem dX9_join_33 : decode cX9_join 33 = .ok (.istore_n 3, 1) := by decide +kernel
theorem dX9_join_34 : decode cX9_join 34 = .ok (.iload_n 2, 1) := by decide +kernel
theorem dX9_join_35 : decode cX9_join 35 = .ok (.aload_n 0, 1) := by decide +kernel
theorem dX9_join_36 : decode cX9_join 36 = .ok (.iload_n 1, 1) := by decide +kernel
theorem dX9_join_37 : decode cX9_join 37 = .ok (.invokevirtual 149, 3) := by decide +kernel
theorem dX9_join_40 : decode cX9_join 40 = .ok (.iconst 1, 1) := by decide +kernel
theorem dX9_join_41 : decode cX9_join 41 = .ok (.isub, 1) := by decide +kernel
theorem dX9_join_42 : decode cX9_join 42 = .ok (.if_icmp .ne 7, 3) := by decide +kernel
theorem dX9_join_45 : decode cX9_join 45 = .ok (.iconst 1, 1) := by decide +kernel
theorem dX9_join_46 : decode cX9_join 46 = .ok (.goto 4, 3) := by decide +kernel
theorem dX9_join_49 : decode cX9_join 49 = .ok (.iconst 0, 1) := by decide +kernel
theorem dX9_join_50 : decode cX9_join 50 = .ok (.istore 4, 2) := by decide +kernel
theorem dX9_join_52 : decode cX9_join 52 = .ok (.iload 4, 2) := by decide +kernel
theorem dX9_join_54 : decode cX9_join 54 = .ok (.ifCond .eq 7, 3) := by decide +kernel
theorem dX9_join_57 : decode cX9_join 57 = .ok (.iconst 0, 1) := by decide +kernel
theorem dX9_join_58 : decode cX9_join 58 = .ok (.goto 11, 3) := by decide +kernel
theorem dX9_join_61 : decode cX9_join 61 = .ok (.aload_n 0, 1) := by decide +kernel
theorem dX9_join_62 : decode cX9_join 62 = .ok (.iload_n 1, 1) := by decide +kernel
theorem dX9_join_63 : decode cX9_join 63 = .ok (.iload_n 2, 1) := by decide +kernel
theorem dX9_join_64 : decode cX9_join 64 = .ok (.iconst 1, 1) := by decide +kernel
theorem dX9_join_65 : decode cX9_join 65 = .ok (.iadd, 1) := by decide +kernel
theorem dX9_join_66 : decode cX9_join 66 = .ok (.invokevirtual 164, 3) := by decide +kernel
theorem dX9_join_69 : decode cX9_join 69 = .ok (.istore 5, 2) := by decide +kernel
theorem dX9_join_71 : decode cX9_join 71 = .ok (.iload 4, 2) := by decide +kernel
theorem dX9_join_73 : decode cX9_join 73 = .ok (.ifCond .eq 7, 3) := by decide +kernel
theorem dX9_join_76 : decode cX9_join 76 = .ok (.iconst 1, 1) := by decide +kernel
theorem dX9_join_77 : decode cX9_join 77 = .ok (.goto 19, 3) := by decide +kernel
theorem dX9_join_80 : decode cX9_join 80 = .ok (.aload_n 0, 1) := by decide +kernel
theorem dX9_join_81 : decode cX9_join 81 = .ok (.iload_n 1, 1) := by decide +kernel
theorem dX9_join_82 : decode cX9_join 82 = .ok (.iload_n 3, 1) := by decide +kernel
theorem dX9_join_83 : decode cX9_join 83 = .ok (.iload 5, 2) := by decide +kernel
theorem dX9_join_85 : decode cX9_join 85 = .ok (.invokevirtual 171, 3) := by decide +kernel
theorem dX9_join_88 : decode cX9_join 88 = .ok (.ifCond .eq 7, 3) := by decide +kernel
theorem dX9_join_91 : decode cX9_join 91 = .ok (.iconst 3, 1) := by decide +kernel
theorem dX9_join_92 : decode cX9_join 92 = .ok (.goto 4, 3) := by decide +kernel
theorem dX9_join_95 : decode cX9_join 95 = .ok (.iconst 0, 1) := by decide +kernel
theorem dX9_join_96 : decode cX9_join 96 = .ok (.istore 6, 2) := by decide +kernel
theorem dX9_join_98 : decode cX9_join 98 = .ok (.aload_n 0, 1) := by decide +kernel
theorem dX9_join_99 : decode cX9_join 99 = .ok (.aload_n 0, 1) := by decide +kernel
theorem dX9_join_100 : decode cX9_join 100 = .ok (.iload 6, 2) := by decide +kernel
theorem dX9_join_102 : decode cX9_join 102 = .ok (.iconst 0, 1) := by decide +kernel
theorem dX9_join_103 : decode cX9_join 103 = .ok (.invokevirtual 215, 3) := by decide +kernel
theorem dX9_join_106 : decode cX9_join 106 = .ok (.ifCond .eq 7, 3) := by decide +kernel
theorem dX9_join_109 : decode cX9_join 109 = .ok (.iconst 2, 1) := by decide +kernel
theorem dX9_join_110 : decode cX9_join 110 = .ok (.goto 4, 3) := by decide +kernel
theorem dX9_join_113 : decode cX9_join 113 = .ok (.iconst 0, 1) := by decide +kernel
theorem dX9_join_114 : decode cX9_join 114 = .ok (.putfield 97, 3) := by decide +kernel
theorem dX9_join_117 : decode cX9_join 117 = .ok (.aload_n 0, 1) := by decide +kernel
theorem dX9_join_118 : decode cX9_join 118 = .ok (.getfield 97, 3) := by decide +kernel
theorem dX9_join_121 : decode cX9_join 121 = .ok (.ifCond .le 5, 3) := by decide +kernel
theorem dX9_join_124 : decode cX9_join 124 = .ok (.iconst 0, 1) := by decide +kernel
theorem dX9_join_125 : decode cX9_join 125 = .ok (.ireturn, 1) := by decide +kernel
theorem dX9_join_126 : decode cX9_join 126 = .ok (.aload_n 0, 1) := by decide +kernel
theorem dX9_join_127 : decode cX9_join 127 = .ok (.invokevirtual 116, 3) := by decide +kernel
theorem dX9_join_130 : decode cX9_join 130 = .ok (.aload_n 0, 1) := by decide +kernel
theorem dX9_join_131 : decode cX9_join 131 = .ok (.iload_n 1, 1) := by decide +kernel
theorem dX9_join_132 : decode cX9_join 132 = .ok (.iload_n 2, 1) := by decide +kernel
theorem dX9_join_133 : decode cX9_join 133 = .ok (.iconst 1, 1) := by decide +kernel
theorem dX9_join_134 : decode cX9_join 134 = .ok (.iadd, 1) := by decide +kernel
theorem dX9_join_135 : decode cX9_join 135 = .ok (.invokevirtual 250, 3) := by decide +kernel
theorem dX9_join_138 : decode cX9_join 138 = .ok (.aload_n 0, 1) := by decide +kernel
theorem dX9_join_139 : decode cX9_join 139 = .ok (.getfield 9, 3) := by decide +kernel
theorem dX9_join_142 : decode cX9_join 142 = .ok (.aload_n 0, 1) := by decide +kernel
theorem dX9_join_143 : decode cX9_join 143 = .ok (.iload_n 1, 1) := by decide +kernel
theorem dX9_join_144 : decode cX9_join 144 = .ok (.iload_n 2, 1) := by decide +kernel
theorem dX9_join_145 : decode cX9_join 145 = .ok (.invokevirtual 152, 3) := by decide +kernel
theorem dX9_join_148 : decode cX9_join 148 = .ok (.iconst 1, 1) := by decide +kernel
theorem dX9_join_149 : decode cX9_join 149 = .ok (.iadd, 1) := by decide +kernel
theorem dX9_join_150 : decode cX9_join 150 = .ok (.iload 5, 2) := by decide +kernel
theorem dX9_join_152 : decode cX9_join 152 = .ok (.i2l, 1) := by decide +kernel
theorem dX9_join_153 : decode cX9_join 153 = .ok (.lastore, 1) := by decide +kernel
theorem dX9_join_154 : decode cX9_join 154 = .ok (.aload_n 0, 1) := by decide +kernel
theorem dX9_join_155 : decode cX9_join 155 = .ok (.iconst 2, 1) := by decide +kernel
theorem dX9_join_156 : decode cX9_join 156 = .ok (.invokevirtual 260, 3) := by decide +kernel
theorem dX9_join_159 : decode cX9_join 159 = .ok (.ifCond .ne 5, 3) := by decide +kernel
theorem dX9_join_162 : decode cX9_join 162 = .ok (.iconst 0, 1) := by decide +kernel
theorem dX9_join_163 : decode cX9_join 163 = .ok (.ireturn, 1) := by decide +kernel
theorem dX9_join_164 : decode cX9_join 164 = .ok (.aload_n 0, 1) := by decide +kernel
theorem dX9_join_165 : decode cX9_join 165 = .ok (.invokevirtual 119, 3) := by decide +kernel
theorem dX9_join_168 : decode cX9_join 168 = .ok (.aload_n 0, 1) := by decide +kernel
theorem dX9_join_169 : decode cX9_join 169 = .ok (.iload_n 1, 1) := by decide +kernel
theorem dX9_join_170 : decode cX9_join 170 = .ok (.invokevirtual 149, 3) := by decide +kernel
theorem dX9_join_173 : decode cX9_join 173 = .ok (.ireturn, 1) := by decide +kernel
theorem dX9_hosted_0 : decode cX9_hosted 0 = .ok (.iconst 0, 1) := by decide +kernel
theorem dX9_hosted_1 : decode cX9_hosted 1 = .ok (.istore_n 3, 1) := by decide +kernel
theorem dX9_hosted_2 : decode cX9_hosted 2 = .ok (.iconst 0, 1) := by decide +kernel
theorem dX9_hosted_3 : decode cX9_hosted 3 = .ok (.istore 4, 2) := by decide +kernel
theorem dX9_hosted_5 : decode cX9_hosted 5 = .ok (.iload 4, 2) := by decide +kernel
theorem dX9_hosted_7 : decode cX9_hosted 7 = .ok (.aload_n 0, 1) := by decide +kernel
theorem dX9_hosted_8 : decode cX9_hosted 8 = .ok (.invokevirtual 122, 3) := by decide +kernel
theorem dX9_hosted_11 : decode cX9_hosted 11 = .ok (.if_icmp .ge 73, 3) := by decide +kernel
theorem dX9_hosted_14 : decode cX9_hosted 14 = .ok (.iconst 0, 1) := by decide +kernel
theorem dX9_hosted_15 : decode cX9_hosted 15 = .ok (.istore 5, 2) := by decide +kernel
theorem dX9_hosted_17 : decode cX9_hosted 17 = .ok (.iload 5, 2) := by decide +kernel
theorem dX9_hosted_19 : decode cX9_hosted 19 = .ok (.aload_n 0, 1) := by decide +kernel
theorem dX9_hosted_20 : decode cX9_hosted 20 = .ok (.iload 4, 2) := by decide +kernel
theorem dX9_hosted_22 : decode cX9_hosted 22 = .ok (.invokevirtual 149, 3) := by decide +kernel
theorem dX9_hosted_25 : decode cX9_hosted 25 = .ok (.if_icmp .ge 53, 3) := by decide +kernel
theorem dX9_hosted_28 : decode cX9_hosted 28 = .ok (.aload_n 0, 1) := by decide +kernel
theorem dX9_hosted_29 : decode cX9_hosted 29 = .ok (.iload 4, 2) := by decide +kernel
theorem dX9_hosted_31 : decode cX9_hosted 31 = .ok (.invokevirtual 161, 3) := by decide +kernel
theorem dX9_hosted_34 : decode cX9_hosted 34 = .ok (.iload_n 1, 1) := by decide +kernel
theorem dX9_hosted_35 : decode cX9_hosted 35 = .ok (.if_icmp .ne 43, 3) := by decide +kernel
theorem dX9_hosted_38 : decode cX9_hosted 38 = .ok (.iload_n 3, 1) := by decide +kernel
theorem dX9_hosted_39 : decode cX9_hosted 39 = .ok (.aload_n 0, 1) := by decide +kernel
theorem dX9_hosted_40 : decode cX9_hosted 40 = .ok (.iload 4, 2) := by decide +kernel
theorem dX9_hosted_42 : decode cX9_hosted 42 = .ok (.aload_n 0, 1) := by decide +kernel
theorem dX9_hosted_43 : decode cX9_hosted 43 = .ok (.iload 4, 2) := by decide +kernel
theorem dX9_hosted_45 : decode cX9_hosted 45 = .ok (.iload 5, 2) := by decide +kernel
theorem dX9_hosted_47 : decode cX9_hosted 47 = .ok (.invokevirtual 155, 3) := by decide +kernel
theorem dX9_hosted_50 : decode cX9_hosted 50 = .ok (.aload_n 0, 1) := by decide +kernel
theorem dX9_hosted_51 : decode cX9_hosted 51 = .ok (.iload 4, 2) := by decide +kernel
theorem dX9_hosted_53 : decode cX9_hosted 53 = .ok (.iload 5, 2) := by decide +kernel
theorem dX9_hosted_55 : decode cX9_hosted 55 = .ok (.invokevirtual 164, 3) := by decide +kernel
theorem dX9_hosted_58 : decode cX9_hosted 58 = .ok (.invokevirtual 167, 3) := by decide +kernel
theorem dX9_hosted_61 : decode cX9_hosted 61 = .ok (.iload_n 2, 1) := by decide +kernel
theorem dX9_hosted_62 : decode cX9_hosted 62 = .ok (.if_icmp .ne 7, 3) := by decide +kernel
theorem dX9_hosted_65 : decode cX9_hosted 65 = .ok (.iconst 1, 1) := by decide +kernel
theorem dX9_hosted_66 : decode cX9_hosted 66 = .ok (.goto 4, 3) := by decide +kernel
theorem dX9_hosted_69 : decode cX9_hosted 69 = .ok (.iconst 0, 1) := by decide +kernel
theorem dX9_hosted_70 : decode cX9_hosted 70 = .ok (.iadd, 1) := by decide +kernel
theorem dX9_hosted_71 : decode cX9_hosted 71 = .ok (.istore_n 3, 1) := by decide +kernel
theorem dX9_hosted_72 : decode cX9_hosted 72 = .ok (.iinc 5 1, 3) := by decide +kernel
theorem dX9_hosted_75 : decode cX9_hosted 75 = .ok (.goto (-58), 3) := by decide +kernel
theorem dX9_hosted_78 : decode cX9_hosted 78 = .ok (.iinc 4 1, 3) := by decide +kernel
theorem dX9_hosted_81 : decode cX9_hosted 81 = .ok (.goto (-76), 3) := by decide +kernel
theorem dX9_hosted_84 : decode cX9_hosted 84 = .ok (.iload_n 3, 1) := by decide +kernel
theorem dX9_hosted_85 : decode cX9_hosted 85 = .ok (.ireturn, 1) := by decide +kernel
theorem dX9_span_0 : decode cX9_span 0 = .ok (.aload_n 0, 1) := by decide +kernel
theorem dX9_span_1 : decode cX9_span 1 = .ok (.aload_n 0, 1) := by decide +kernel
theorem dX9_span_2 : decode cX9_span 2 = .ok (.iload_n 1, 1) := by decide +kernel
theorem dX9_span_3 : decode cX9_span 3 = .ok (.iload_n 2, 1) := by decide +kernel
theorem dX9_span_4 : decode cX9_span 4 = .ok (.invokevirtual 247, 3) := by decide +kernel
theorem dX9_span_7 : decode cX9_span 7 = .ok (.ifCond .ne 7, 3) := by decide +kernel
theorem dX9_span_10 : decode cX9_span 10 = .ok (.iconst 1, 1) := by decide +kernel
theorem dX9_span_11 : decode cX9_span 11 = .ok (.goto 17, 3) := by decide +kernel
theorem dX9_span_14 : decode cX9_span 14 = .ok (.iload_n 3, 1) := by decide +kernel
theorem dX9_span_15 : decode cX9_span 15 = .ok (.iconst 0, 1) := by decide +kernel
theorem dX9_span_16 : decode cX9_span 16 = .ok (.iconst 4, 1) := by decide +kernel
theorem dX9_span_17 : decode cX9_span 17 = .ok (.invokestatic 126, 3) := by decide +kernel
theorem dX9_span_20 : decode cX9_span 20 = .ok (.ifCond .ne 7, 3) := by decide +kernel
theorem dX9_span_23 : decode cX9_span 23 = .ok (.iconst 2, 1) := by decide +kernel
theorem dX9_span_24 : decode cX9_span 24 = .ok (.goto 4, 3) := by decide +kernel
theorem dX9_span_27 : decode cX9_span 27 = .ok (.iconst 0, 1) := by decide +kernel
theorem dX9_span_28 : decode cX9_span 28 = .ok (.putfield 97, 3) := by decide +kernel
theorem dX9_span_31 : decode cX9_span 31 = .ok (.aload_n 0, 1) := by decide +kernel
theorem dX9_span_32 : decode cX9_span 32 = .ok (.getfield 97, 3) := by decide +kernel
theorem dX9_span_35 : decode cX9_span 35 = .ok (.ifCond .le 5, 3) := by decide +kernel
theorem dX9_span_38 : decode cX9_span 38 = .ok (.iconst 0, 1) := by decide +kernel
theorem dX9_span_39 : decode cX9_span 39 = .ok (.ireturn, 1) := by decide +kernel
theorem dX9_span_40 : decode cX9_span 40 = .ok (.iload_n 3, 1) := by decide +kernel
theorem dX9_span_41 : decode cX9_span 41 = .ok (.tableswitch 73 0 3 #[31, 38, 45, 55], 31) := by decide +kernel
theorem dX9_span_72 : decode cX9_span 72 = .ok (.aload_n 0, 1) := by decide +kernel
theorem dX9_span_73 : decode cX9_span 73 = .ok (.iload_n 1, 1) := by decide +kernel
theorem dX9_span_74 : decode cX9_span 74 = .ok (.iload_n 2, 1) := by decide +kernel
theorem dX9_span_75 : decode cX9_span 75 = .ok (.invokevirtual 155, 3) := by decide +kernel
theorem dX9_span_78 : decode cX9_span 78 = .ok (.ireturn, 1) := by decide +kernel
theorem dX9_span_79 : decode cX9_span 79 = .ok (.aload_n 0, 1) := by decide +kernel
theorem dX9_span_80 : decode cX9_span 80 = .ok (.iload_n 1, 1) := by decide +kernel
theorem dX9_span_81 : decode cX9_span 81 = .ok (.iload_n 2, 1) := by decide +kernel
theorem dX9_span_82 : decode cX9_span 82 = .ok (.invokevirtual 164, 3) := by decide +kernel
theorem dX9_span_85 : decode cX9_span 85 = .ok (.ireturn, 1) := by decide +kernel
theorem dX9_span_86 : decode cX9_span 86 = .ok (.aload_n 0, 1) := by decide +kernel
theorem dX9_span_87 : decode cX9_span 87 = .ok (.iload_n 1, 1) := by decide +kernel
theorem dX9_span_88 : decode cX9_span 88 = .ok (.iload_n 2, 1) := by decide +kernel
theorem dX9_span_89 : decode cX9_span 89 = .ok (.invokevirtual 177, 3) := by decide +kernel
theorem dX9_span_92 : decode cX9_span 92 = .ok (.invokestatic 269, 3) := by decide +kernel
theorem dX9_span_95 : decode cX9_span 95 = .ok (.ireturn, 1) := by decide +kernel
theorem dX9_span_96 : decode cX9_span 96 = .ok (.aload_n 0, 1) := by decide +kernel
theorem dX9_span_97 : decode cX9_span 97 = .ok (.iload_n 1, 1) := by decide +kernel
theorem dX9_span_98 : decode cX9_span 98 = .ok (.aload_n 0, 1) := by decide +kernel
theorem dX9_span_99 : decode cX9_span 99 = .ok (.iload_n 1, 1) := by decide +kernel
theorem dX9_span_100 : decode cX9_span 100 = .ok (.iload_n 2, 1) := by decide +kernel
theorem dX9_span_101 : decode cX9_span 101 = .ok (.invokevirtual 155, 3) := by decide +kernel
theorem dX9_span_104 : decode cX9_span 104 = .ok (.aload_n 0, 1) := by decide +kernel
theorem dX9_span_105 : decode cX9_span 105 = .ok (.iload_n 1, 1) := by decide +kernel
theorem dX9_span_106 : decode cX9_span 106 = .ok (.iload_n 2, 1) := by decide +kernel
theorem dX9_span_107 : decode cX9_span 107 = .ok (.invokevirtual 164, 3) := by decide +kernel
theorem dX9_span_110 : decode cX9_span 110 = .ok (.invokevirtual 167, 3) := by decide +kernel
theorem dX9_span_113 : decode cX9_span 113 = .ok (.ireturn, 1) := by decide +kernel
theorem dX9_span_114 : decode cX9_span 114 = .ok (.aload_n 0, 1) := by decide +kernel
theorem dX9_span_115 : decode cX9_span 115 = .ok (.iload_n 1, 1) := by decide +kernel
theorem dX9_span_116 : decode cX9_span 116 = .ok (.iload_n 2, 1) := by decide +kernel
theorem dX9_span_117 : decode cX9_span 117 = .ok (.invokevirtual 273, 3) := by decide +kernel
theorem dX9_span_120 : decode cX9_span 120 = .ok (.ireturn, 1) := by decide +kernel
theorem dX9_letter_0 : decode cX9_letter 0 = .ok (.aload_n 0, 1) := by decide +kernel
theorem dX9_letter_1 : decode cX9_letter 1 = .ok (.aload_n 0, 1) := by decide +kernel
theorem dX9_letter_2 : decode cX9_letter 2 = .ok (.iload_n 1, 1) := by decide +kernel
theorem dX9_letter_3 : decode cX9_letter 3 = .ok (.iload_n 2, 1) := by decide +kernel
theorem dX9_letter_4 : decode cX9_letter 4 = .ok (.invokevirtual 247, 3) := by decide +kernel
theorem dX9_letter_7 : decode cX9_letter 7 = .ok (.ifCond .ne 7, 3) := by decide +kernel
theorem dX9_letter_10 : decode cX9_letter 10 = .ok (.iconst 1, 1) := by decide +kernel
theorem dX9_letter_11 : decode cX9_letter 11 = .ok (.goto 27, 3) := by decide +kernel
theorem dX9_letter_14 : decode cX9_letter 14 = .ok (.iload_n 3, 1) := by decide +kernel
theorem dX9_letter_15 : decode cX9_letter 15 = .ok (.iconst 0, 1) := by decide +kernel
theorem dX9_letter_16 : decode cX9_letter 16 = .ok (.aload_n 0, 1) := by decide +kernel
theorem dX9_letter_17 : decode cX9_letter 17 = .ok (.iload_n 1, 1) := by decide +kernel
theorem dX9_letter_18 : decode cX9_letter 18 = .ok (.iload_n 2, 1) := by decide +kernel
theorem dX9_letter_19 : decode cX9_letter 19 = .ok (.invokevirtual 177, 3) := by decide +kernel
theorem dX9_letter_22 : decode cX9_letter 22 = .ok (.invokestatic 269, 3) := by decide +kernel
theorem dX9_letter_25 : decode cX9_letter 25 = .ok (.iconst 1, 1) := by decide +kernel
theorem dX9_letter_26 : decode cX9_letter 26 = .ok (.isub, 1) := by decide +kernel
theorem dX9_letter_27 : decode cX9_letter 27 = .ok (.invokestatic 126, 3) := by decide +kernel
theorem dX9_letter_30 : decode cX9_letter 30 = .ok (.ifCond .ne 7, 3) := by decide +kernel
theorem dX9_letter_33 : decode cX9_letter 33 = .ok (.iconst 2, 1) := by decide +kernel
theorem dX9_letter_34 : decode cX9_letter 34 = .ok (.goto 4, 3) := by decide +kernel
theorem dX9_letter_37 : decode cX9_letter 37 = .ok (.iconst 0, 1) := by decide +kernel
theorem dX9_letter_38 : decode cX9_letter 38 = .ok (.putfield 97, 3) := by decide +kernel
theorem dX9_letter_41 : decode cX9_letter 41 = .ok (.aload_n 0, 1) := by decide +kernel
theorem dX9_letter_42 : decode cX9_letter 42 = .ok (.getfield 97, 3) := by decide +kernel
theorem dX9_letter_45 : decode cX9_letter 45 = .ok (.ifCond .le 5, 3) := by decide +kernel
theorem dX9_letter_48 : decode cX9_letter 48 = .ok (.iconst 0, 1) := by decide +kernel
theorem dX9_letter_49 : decode cX9_letter 49 = .ok (.ireturn, 1) := by decide +kernel
theorem dX9_letter_50 : decode cX9_letter 50 = .ok (.aload_n 0, 1) := by decide +kernel
theorem dX9_letter_51 : decode cX9_letter 51 = .ok (.iload_n 1, 1) := by decide +kernel
theorem dX9_letter_52 : decode cX9_letter 52 = .ok (.iload_n 2, 1) := by decide +kernel
theorem dX9_letter_53 : decode cX9_letter 53 = .ok (.invokevirtual 177, 3) := by decide +kernel
theorem dX9_letter_56 : decode cX9_letter 56 = .ok (.lstore 4, 2) := by decide +kernel
theorem dX9_letter_58 : decode cX9_letter 58 = .ok (.lload 4, 2) := by decide +kernel
theorem dX9_letter_60 : decode cX9_letter 60 = .ok (.bipush 7, 2) := by decide +kernel
theorem dX9_letter_62 : decode cX9_letter 62 = .ok (.lload 4, 2) := by decide +kernel
theorem dX9_letter_64 : decode cX9_letter 64 = .ok (.invokestatic 269, 3) := by decide +kernel
theorem dX9_letter_67 : decode cX9_letter 67 = .ok (.iconst 1, 1) := by decide +kernel
theorem dX9_letter_68 : decode cX9_letter 68 = .ok (.isub, 1) := by decide +kernel
theorem dX9_letter_69 : decode cX9_letter 69 = .ok (.iload_n 3, 1) := by decide +kernel
theorem dX9_letter_70 : decode cX9_letter 70 = .ok (.isub, 1) := by decide +kernel
theorem dX9_letter_71 : decode cX9_letter 71 = .ok (.imul, 1) := by decide +kernel
theorem dX9_letter_72 : decode cX9_letter 72 = .ok (.lushr, 1) := by decide +kernel
theorem dX9_letter_73 : decode cX9_letter 73 = .ok (.ldc2_w 276, 3) := by decide +kernel
theorem dX9_letter_76 : decode cX9_letter 76 = .ok (.land, 1) := by decide +kernel
theorem dX9_letter_77 : decode cX9_letter 77 = .ok (.l2i, 1) := by decide +kernel
theorem dX9_letter_78 : decode cX9_letter 78 = .ok (.i2c, 1) := by decide +kernel
theorem dX9_letter_79 : decode cX9_letter 79 = .ok (.ireturn, 1) := by decide +kernel
theorem dX9_spanAt_0 : decode cX9_spanAt 0 = .ok (.aload_n 0, 1) := by decide +kernel
theorem dX9_spanAt_1 : decode cX9_spanAt 1 = .ok (.aload_n 0, 1) := by decide +kernel
theorem dX9_spanAt_2 : decode cX9_spanAt 2 = .ok (.iload_n 1, 1) := by decide +kernel
theorem dX9_spanAt_3 : decode cX9_spanAt 3 = .ok (.invokevirtual 130, 3) := by decide +kernel
theorem dX9_spanAt_6 : decode cX9_spanAt 6 = .ok (.ifCond .eq 7, 3) := by decide +kernel
theorem dX9_spanAt_9 : decode cX9_spanAt 9 = .ok (.iconst 0, 1) := by decide +kernel
theorem dX9_spanAt_10 : decode cX9_spanAt 10 = .ok (.goto 4, 3) := by decide +kernel
theorem dX9_spanAt_13 : decode cX9_spanAt 13 = .ok (.iconst 1, 1) := by decide +kernel
theorem dX9_spanAt_14 : decode cX9_spanAt 14 = .ok (.putfield 97, 3) := by decide +kernel
theorem dX9_spanAt_17 : decode cX9_spanAt 17 = .ok (.iconst (-1), 1) := by decide +kernel
theorem dX9_spanAt_18 : decode cX9_spanAt 18 = .ok (.istore_n 3, 1) := by decide +kernel
theorem dX9_spanAt_19 : decode cX9_spanAt 19 = .ok (.iconst 0, 1) := by decide +kernel
theorem dX9_spanAt_20 : decode cX9_spanAt 20 = .ok (.istore 4, 2) := by decide +kernel
theorem dX9_spanAt_22 : decode cX9_spanAt 22 = .ok (.aload_n 0, 1) := by decide +kernel
theorem dX9_spanAt_23 : decode cX9_spanAt 23 = .ok (.getfield 97, 3) := by decide +kernel
theorem dX9_spanAt_26 : decode cX9_spanAt 26 = .ok (.ifCond .ne 49, 3) := by decide +kernel
theorem dX9_spanAt_29 : decode cX9_spanAt 29 = .ok (.iload 4, 2) := by decide +kernel
theorem dX9_spanAt_31 : decode cX9_spanAt 31 = .ok (.aload_n 0, 1) := by decide +kernel
theorem dX9_spanAt_32 : decode cX9_spanAt 32 = .ok (.iload_n 1, 1) := by decide +kernel
theorem dX9_spanAt_33 : decode cX9_spanAt 33 = .ok (.invokevirtual 149, 3) := by decide +kernel
theorem dX9_spanAt_36 : decode cX9_spanAt 36 = .ok (.if_icmp .ge 39, 3) := by decide +kernel
theorem dX9_spanAt_39 : decode cX9_spanAt 39 = .ok (.iload_n 2, 1) := by decide +kernel
theorem dX9_spanAt_40 : decode cX9_spanAt 40 = .ok (.aload_n 0, 1) := by decide +kernel
theorem dX9_spanAt_41 : decode cX9_spanAt 41 = .ok (.iload_n 1, 1) := by decide +kernel
theorem dX9_spanAt_42 : decode cX9_spanAt 42 = .ok (.iload 4, 2) := by decide +kernel
theorem dX9_spanAt_44 : decode cX9_spanAt 44 = .ok (.invokevirtual 155, 3) := by decide +kernel
theorem dX9_spanAt_47 : decode cX9_spanAt 47 = .ok (.aload_n 0, 1) := by decide +kernel
theorem dX9_spanAt_48 : decode cX9_spanAt 48 = .ok (.iload_n 1, 1) := by decide +kernel
theorem dX9_spanAt_49 : decode cX9_spanAt 49 = .ok (.iload 4, 2) := by decide +kernel
theorem dX9_spanAt_51 : decode cX9_spanAt 51 = .ok (.invokevirtual 164, 3) := by decide +kernel
theorem dX9_spanAt_54 : decode cX9_spanAt 54 = .ok (.iconst 1, 1) := by decide +kernel
theorem dX9_spanAt_55 : decode cX9_spanAt 55 = .ok (.isub, 1) := by decide +kernel
theorem dX9_spanAt_56 : decode cX9_spanAt 56 = .ok (.invokestatic 126, 3) := by decide +kernel
theorem dX9_spanAt_59 : decode cX9_spanAt 59 = .ok (.ifCond .eq 8, 3) := by decide +kernel
theorem dX9_spanAt_62 : decode cX9_spanAt 62 = .ok (.iload 4, 2) := by decide +kernel
theorem dX9_spanAt_64 : decode cX9_spanAt 64 = .ok (.goto 4, 3) := by decide +kernel
theorem dX9_spanAt_67 : decode cX9_spanAt 67 = .ok (.iload_n 3, 1) := by decide +kernel
theorem dX9_spanAt_68 : decode cX9_spanAt 68 = .ok (.istore_n 3, 1) := by decide +kernel
theorem dX9_spanAt_69 : decode cX9_spanAt 69 = .ok (.iinc 4 1, 3) := by decide +kernel
theorem dX9_spanAt_72 : decode cX9_spanAt 72 = .ok (.goto (-50), 3) := by decide +kernel
theorem dX9_spanAt_75 : decode cX9_spanAt 75 = .ok (.aload_n 0, 1) := by decide +kernel
theorem dX9_spanAt_76 : decode cX9_spanAt 76 = .ok (.getfield 97, 3) := by decide +kernel
theorem dX9_spanAt_79 : decode cX9_spanAt 79 = .ok (.ifCond .le 7, 3) := by decide +kernel
theorem dX9_spanAt_82 : decode cX9_spanAt 82 = .ok (.iconst 0, 1) := by decide +kernel
theorem dX9_spanAt_83 : decode cX9_spanAt 83 = .ok (.goto 4, 3) := by decide +kernel
theorem dX9_spanAt_86 : decode cX9_spanAt 86 = .ok (.iload_n 3, 1) := by decide +kernel
theorem dX9_spanAt_87 : decode cX9_spanAt 87 = .ok (.ireturn, 1) := by decide +kernel
theorem dX9_refusal_0 : decode cX9_refusal 0 = .ok (.aload_n 0, 1) := by decide +kernel
theorem dX9_refusal_1 : decode cX9_refusal 1 = .ok (.aload_n 0, 1) := by decide +kernel
theorem dX9_refusal_2 : decode cX9_refusal 2 = .ok (.getfield 206, 3) := by decide +kernel
theorem dX9_refusal_5 : decode cX9_refusal 5 = .ok (.ifCond .ne 7, 3) := by decide +kernel
theorem dX9_refusal_8 : decode cX9_refusal 8 = .ok (.iconst 1, 1) := by decide +kernel
theorem dX9_refusal_9 : decode cX9_refusal 9 = .ok (.goto 4, 3) := by decide +kernel
theorem dX9_refusal_12 : decode cX9_refusal 12 = .ok (.iconst 0, 1) := by decide +kernel
theorem dX9_refusal_13 : decode cX9_refusal 13 = .ok (.putfield 97, 3) := by decide +kernel
theorem dX9_refusal_16 : decode cX9_refusal 16 = .ok (.iload_n 1, 1) := by decide +kernel
theorem dX9_refusal_17 : decode cX9_refusal 17 = .ok (.ifCond .eq 10, 3) := by decide +kernel
theorem dX9_refusal_20 : decode cX9_refusal 20 = .ok (.aload_n 0, 1) := by decide +kernel
theorem dX9_refusal_21 : decode cX9_refusal 21 = .ok (.getfield 206, 3) := by decide +kernel
theorem dX9_refusal_24 : decode cX9_refusal 24 = .ok (.goto 7, 3) := by decide +kernel
theorem dX9_refusal_27 : decode cX9_refusal 27 = .ok (.aload_n 0, 1) := by decide +kernel
theorem dX9_refusal_28 : decode cX9_refusal 28 = .ok (.getfield 209, 3) := by decide +kernel
theorem dX9_refusal_31 : decode cX9_refusal 31 = .ok (.ireturn, 1) := by decide +kernel
theorem dX9_cell_0 : decode cX9_cell 0 = .ok (.bipush 31, 2) := by decide +kernel
theorem dX9_cell_2 : decode cX9_cell 2 = .ok (.iload_n 0, 1) := by decide +kernel
theorem dX9_cell_3 : decode cX9_cell 3 = .ok (.imul, 1) := by decide +kernel
theorem dX9_cell_4 : decode cX9_cell 4 = .ok (.iload_n 1, 1) := by decide +kernel
theorem dX9_cell_5 : decode cX9_cell 5 = .ok (.iadd, 1) := by decide +kernel
theorem dX9_cell_6 : decode cX9_cell 6 = .ok (.ireturn, 1) := by decide +kernel
theorem dX9_distance_0 : decode cX9_distance 0 = .ok (.aload_n 0, 1) := by decide +kernel
theorem dX9_distance_1 : decode cX9_distance 1 = .ok (.iload_n 1, 1) := by decide +kernel
theorem dX9_distance_2 : decode cX9_distance 2 = .ok (.iload_n 2, 1) := by decide +kernel
theorem dX9_distance_3 : decode cX9_distance 3 = .ok (.invokevirtual 155, 3) := by decide +kernel
theorem dX9_distance_6 : decode cX9_distance 6 = .ok (.aload_n 0, 1) := by decide +kernel
theorem dX9_distance_7 : decode cX9_distance 7 = .ok (.iload_n 3, 1) := by decide +kernel
theorem dX9_distance_8 : decode cX9_distance 8 = .ok (.iload 4, 2) := by decide +kernel
theorem dX9_distance_10 : decode cX9_distance 10 = .ok (.invokevirtual 155, 3) := by decide +kernel
theorem dX9_distance_13 : decode cX9_distance 13 = .ok (.isub, 1) := by decide +kernel
theorem dX9_distance_14 : decode cX9_distance 14 = .ok (.invokestatic 278, 3) := by decide +kernel
theorem dX9_distance_17 : decode cX9_distance 17 = .ok (.aload_n 0, 1) := by decide +kernel
theorem dX9_distance_18 : decode cX9_distance 18 = .ok (.iload_n 1, 1) := by decide +kernel
theorem dX9_distance_19 : decode cX9_distance 19 = .ok (.iload_n 2, 1) := by decide +kernel
theorem dX9_distance_20 : decode cX9_distance 20 = .ok (.invokevirtual 164, 3) := by decide +kernel
theorem dX9_distance_23 : decode cX9_distance 23 = .ok (.aload_n 0, 1) := by decide +kernel
theorem dX9_distance_24 : decode cX9_distance 24 = .ok (.iload_n 3, 1) := by decide +kernel
theorem dX9_distance_25 : decode cX9_distance 25 = .ok (.iload 4, 2) := by decide +kernel
theorem dX9_distance_27 : decode cX9_distance 27 = .ok (.invokevirtual 164, 3) := by decide +kernel
theorem dX9_distance_30 : decode cX9_distance 30 = .ok (.isub, 1) := by decide +kernel
theorem dX9_distance_31 : decode cX9_distance 31 = .ok (.invokestatic 278, 3) := by decide +kernel
theorem dX9_distance_34 : decode cX9_distance 34 = .ok (.iadd, 1) := by decide +kernel
theorem dX9_distance_35 : decode cX9_distance 35 = .ok (.ireturn, 1) := by decide +kernel
theorem dX9_isBestPair_0 : decode cX9_isBestPair 0 = .ok (.aload_n 0, 1) := by decide +kernel
theorem dX9_isBestPair_1 : decode cX9_isBestPair 1 = .ok (.iload_n 1, 1) := by decide +kernel
theorem dX9_isBestPair_2 : decode cX9_isBestPair 2 = .ok (.iload_n 2, 1) := by decide +kernel
theorem dX9_isBestPair_3 : decode cX9_isBestPair 3 = .ok (.iload_n 3, 1) := by decide +kernel
theorem dX9_isBestPair_4 : decode cX9_isBestPair 4 = .ok (.iload 4, 2) := by decide +kernel
theorem dX9_isBestPair_6 : decode cX9_isBestPair 6 = .ok (.invokevirtual 283, 3) := by decide +kernel
theorem dX9_isBestPair_9 : decode cX9_isBestPair 9 = .ok (.istore 6, 2) := by decide +kernel
theorem dX9_isBestPair_11 : decode cX9_isBestPair 11 = .ok (.iload_n 2, 1) := by decide +kernel
theorem dX9_isBestPair_12 : decode cX9_isBestPair 12 = .ok (.iconst 1, 1) := by decide +kernel
theorem dX9_isBestPair_13 : decode cX9_isBestPair 13 = .ok (.iadd, 1) := by decide +kernel
theorem dX9_isBestPair_14 : decode cX9_isBestPair 14 = .ok (.iload 4, 2) := by decide +kernel
theorem dX9_isBestPair_16 : decode cX9_isBestPair 16 = .ok (.iconst 1, 1) := by decide +kernel
theorem dX9_isBestPair_17 : decode cX9_isBestPair 17 = .ok (.iadd, 1) := by decide +kernel
theorem dX9_isBestPair_18 : decode cX9_isBestPair 18 = .ok (.invokestatic 286, 3) := by decide +kernel
theorem dX9_isBestPair_21 : decode cX9_isBestPair 21 = .ok (.istore 7, 2) := by decide +kernel
theorem dX9_isBestPair_23 : decode cX9_isBestPair 23 = .ok (.iload 6, 2) := by decide +kernel
theorem dX9_isBestPair_25 : decode cX9_isBestPair 25 = .ok (.i2l, 1) := by decide +kernel
theorem dX9_isBestPair_26 : decode cX9_isBestPair 26 = .ok (.aload_n 0, 1) := by decide +kernel
theorem dX9_isBestPair_27 : decode cX9_isBestPair 27 = .ok (.getfield 9, 3) := by decide +kernel
theorem dX9_isBestPair_30 : decode cX9_isBestPair 30 = .ok (.iconst 2, 1) := by decide +kernel
theorem dX9_isBestPair_31 : decode cX9_isBestPair 31 = .ok (.laload, 1) := by decide +kernel
theorem dX9_isBestPair_32 : decode cX9_isBestPair 32 = .ok (.lcmp, 1) := by decide +kernel
theorem dX9_isBestPair_33 : decode cX9_isBestPair 33 = .ok (.ifCond .gt 46, 3) := by decide +kernel
theorem dX9_isBestPair_36 : decode cX9_isBestPair 36 = .ok (.aload_n 0, 1) := by decide +kernel
theorem dX9_isBestPair_37 : decode cX9_isBestPair 37 = .ok (.getfield 30, 3) := by decide +kernel
theorem dX9_isBestPair_40 : decode cX9_isBestPair 40 = .ok (.iload 7, 2) := by decide +kernel
theorem dX9_isBestPair_42 : decode cX9_isBestPair 42 = .ok (.iaload, 1) := by decide +kernel
theorem dX9_isBestPair_43 : decode cX9_isBestPair 43 = .ok (.iconst 1, 1) := by decide +kernel
theorem dX9_isBestPair_44 : decode cX9_isBestPair 44 = .ok (.iadd, 1) := by decide +kernel
theorem dX9_isBestPair_45 : decode cX9_isBestPair 45 = .ok (.aload_n 0, 1) := by decide +kernel
theorem dX9_isBestPair_46 : decode cX9_isBestPair 46 = .ok (.getfield 30, 3) := by decide +kernel
theorem dX9_isBestPair_49 : decode cX9_isBestPair 49 = .ok (.iload 5, 2) := by decide +kernel
theorem dX9_isBestPair_51 : decode cX9_isBestPair 51 = .ok (.iaload, 1) := by decide +kernel
theorem dX9_isBestPair_52 : decode cX9_isBestPair 52 = .ok (.if_icmp .ne 27, 3) := by decide +kernel
theorem dX9_isBestPair_55 : decode cX9_isBestPair 55 = .ok (.aload_n 0, 1) := by decide +kernel
theorem dX9_isBestPair_56 : decode cX9_isBestPair 56 = .ok (.getfield 33, 3) := by decide +kernel
theorem dX9_isBestPair_59 : decode cX9_isBestPair 59 = .ok (.iload 7, 2) := by decide +kernel
theorem dX9_isBestPair_61 : decode cX9_isBestPair 61 = .ok (.iaload, 1) := by decide +kernel
theorem dX9_isBestPair_62 : decode cX9_isBestPair 62 = .ok (.iload 6, 2) := by decide +kernel
theorem dX9_isBestPair_64 : decode cX9_isBestPair 64 = .ok (.iadd, 1) := by decide +kernel
theorem dX9_isBestPair_65 : decode cX9_isBestPair 65 = .ok (.aload_n 0, 1) := by decide +kernel
theorem dX9_isBestPair_66 : decode cX9_isBestPair 66 = .ok (.getfield 33, 3) := by decide +kernel
theorem dX9_isBestPair_69 : decode cX9_isBestPair 69 = .ok (.iload 5, 2) := by decide +kernel
theorem dX9_isBestPair_71 : decode cX9_isBestPair 71 = .ok (.iaload, 1) := by decide +kernel
theorem dX9_isBestPair_72 : decode cX9_isBestPair 72 = .ok (.if_icmp .ne 7, 3) := by decide +kernel
theorem dX9_isBestPair_75 : decode cX9_isBestPair 75 = .ok (.iconst 1, 1) := by decide +kernel
theorem dX9_isBestPair_76 : decode cX9_isBestPair 76 = .ok (.goto 4, 3) := by decide +kernel
theorem dX9_isBestPair_79 : decode cX9_isBestPair 79 = .ok (.iconst 0, 1) := by decide +kernel
theorem dX9_isBestPair_80 : decode cX9_isBestPair 80 = .ok (.ireturn, 1) := by decide +kernel
theorem dX9_align_0 : decode cX9_align 0 = .ok (.aload_n 0, 1) := by decide +kernel
theorem dX9_align_1 : decode cX9_align 1 = .ok (.iload_n 1, 1) := by decide +kernel
theorem dX9_align_2 : decode cX9_align 2 = .ok (.invokevirtual 149, 3) := by decide +kernel
theorem dX9_align_5 : decode cX9_align 5 = .ok (.istore_n 3, 1) := by decide +kernel
theorem dX9_align_6 : decode cX9_align 6 = .ok (.iload_n 3, 1) := by decide +kernel
theorem dX9_align_7 : decode cX9_align 7 = .ok (.ifCond .lt 145, 3) := by decide +kernel
theorem dX9_align_10 : decode cX9_align 10 = .ok (.aload_n 0, 1) := by decide +kernel
theorem dX9_align_11 : decode cX9_align 11 = .ok (.iload_n 2, 1) := by decide +kernel
theorem dX9_align_12 : decode cX9_align 12 = .ok (.invokevirtual 149, 3) := by decide +kernel
theorem dX9_align_15 : decode cX9_align 15 = .ok (.istore 4, 2) := by decide +kernel
theorem dX9_align_17 : decode cX9_align 17 = .ok (.iload 4, 2) := by decide +kernel
theorem dX9_align_19 : decode cX9_align 19 = .ok (.ifCond .lt 127, 3) := by decide +kernel
theorem dX9_align_22 : decode cX9_align 22 = .ok (.iload_n 3, 1) := by decide +kernel
theorem dX9_align_23 : decode cX9_align 23 = .ok (.iload 4, 2) := by decide +kernel
theorem dX9_align_25 : decode cX9_align 25 = .ok (.invokestatic 286, 3) := by decide +kernel
theorem dX9_align_28 : decode cX9_align 28 = .ok (.istore 5, 2) := by decide +kernel
theorem dX9_align_30 : decode cX9_align 30 = .ok (.aload_n 0, 1) := by decide +kernel
theorem dX9_align_31 : decode cX9_align 31 = .ok (.getfield 30, 3) := by decide +kernel
theorem dX9_align_34 : decode cX9_align 34 = .ok (.iload 5, 2) := by decide +kernel
theorem dX9_align_36 : decode cX9_align 36 = .ok (.iconst 0, 1) := by decide +kernel
theorem dX9_align_37 : decode cX9_align 37 = .ok (.iastore, 1) := by decide +kernel
theorem dX9_align_38 : decode cX9_align 38 = .ok (.aload_n 0, 1) := by decide +kernel
theorem dX9_align_39 : decode cX9_align 39 = .ok (.getfield 33, 3) := by decide +kernel
theorem dX9_align_42 : decode cX9_align 42 = .ok (.iload 5, 2) := by decide +kernel
theorem dX9_align_44 : decode cX9_align 44 = .ok (.iconst 0, 1) := by decide +kernel
theorem dX9_align_45 : decode cX9_align 45 = .ok (.iastore, 1) := by decide +kernel
theorem dX9_align_46 : decode cX9_align 46 = .ok (.iload_n 3, 1) := by decide +kernel
theorem dX9_align_47 : decode cX9_align 47 = .ok (.aload_n 0, 1) := by decide +kernel
theorem dX9_align_48 : decode cX9_align 48 = .ok (.iload_n 1, 1) := by decide +kernel
theorem dX9_align_49 : decode cX9_align 49 = .ok (.invokevirtual 149, 3) := by decide +kernel
theorem dX9_align_52 : decode cX9_align 52 = .ok (.if_icmp .ge 88, 3) := by decide +kernel
theorem dX9_align_55 : decode cX9_align 55 = .ok (.iload 4, 2) := by decide +kernel
theorem dX9_align_57 : decode cX9_align 57 = .ok (.aload_n 0, 1) := by decide +kernel
theorem dX9_align_58 : decode cX9_align 58 = .ok (.iload_n 2, 1) := by decide +kernel
theorem dX9_align_59 : decode cX9_align 59 = .ok (.invokevirtual 149, 3) := by decide +kernel
theorem dX9_align_62 : decode cX9_align 62 = .ok (.if_icmp .ge 78, 3) := by decide +kernel
theorem dX9_align_65 : decode cX9_align 65 = .ok (.aload_n 0, 1) := by decide +kernel
theorem dX9_align_66 : decode cX9_align 66 = .ok (.iload 5, 2) := by decide +kernel
theorem dX9_align_68 : decode cX9_align 68 = .ok (.iload_n 3, 1) := by decide +kernel
theorem dX9_align_69 : decode cX9_align 69 = .ok (.iconst 1, 1) := by decide +kernel
theorem dX9_align_70 : decode cX9_align 70 = .ok (.iadd, 1) := by decide +kernel
theorem dX9_align_71 : decode cX9_align 71 = .ok (.iload 4, 2) := by decide +kernel
theorem dX9_align_73 : decode cX9_align 73 = .ok (.invokestatic 286, 3) := by decide +kernel
theorem dX9_align_76 : decode cX9_align 76 = .ok (.iconst 0, 1) := by decide +kernel
theorem dX9_align_77 : decode cX9_align 77 = .ok (.iconst 0, 1) := by decide +kernel
theorem dX9_align_78 : decode cX9_align 78 = .ok (.invokevirtual 289, 3) := by decide +kernel
theorem dX9_align_81 : decode cX9_align 81 = .ok (.aload_n 0, 1) := by decide +kernel
theorem dX9_align_82 : decode cX9_align 82 = .ok (.iload 5, 2) := by decide +kernel
theorem dX9_align_84 : decode cX9_align 84 = .ok (.iload_n 3, 1) := by decide +kernel
theorem dX9_align_85 : decode cX9_align 85 = .ok (.iload 4, 2) := by decide +kernel
theorem dX9_align_87 : decode cX9_align 87 = .ok (.iconst 1, 1) := by decide +kernel
theorem dX9_align_88 : decode cX9_align 88 = .ok (.iadd, 1) := by decide +kernel
theorem dX9_align_89 : decode cX9_align 89 = .ok (.invokestatic 286, 3) := by decide +kernel
theorem dX9_align_92 : decode cX9_align 92 = .ok (.iconst 0, 1) := by decide +kernel
theorem dX9_align_93 : decode cX9_align 93 = .ok (.iconst 0, 1) := by decide +kernel
theorem dX9_align_94 : decode cX9_align 94 = .ok (.invokevirtual 289, 3) := by decide +kernel
theorem dX9_align_97 : decode cX9_align 97 = .ok (.aload_n 0, 1) := by decide +kernel
theorem dX9_align_98 : decode cX9_align 98 = .ok (.iload_n 1, 1) := by decide +kernel
theorem dX9_align_99 : decode cX9_align 99 = .ok (.iload_n 3, 1) := by decide +kernel
theorem dX9_align_100 : decode cX9_align 100 = .ok (.iload_n 2, 1) := by decide +kernel
theorem dX9_align_101 : decode cX9_align 101 = .ok (.iload 4, 2) := by decide +kernel
theorem dX9_align_103 : decode cX9_align 103 = .ok (.invokevirtual 283, 3) := by decide +kernel
theorem dX9_align_106 : decode cX9_align 106 = .ok (.istore 6, 2) := by decide +kernel
theorem dX9_align_108 : decode cX9_align 108 = .ok (.iload 6, 2) := by decide +kernel
theorem dX9_align_110 : decode cX9_align 110 = .ok (.i2l, 1) := by decide +kernel
theorem dX9_align_111 : decode cX9_align 111 = .ok (.aload_n 0, 1) := by decide +kernel
theorem dX9_align_112 : decode cX9_align 112 = .ok (.getfield 9, 3) := by decide +kernel
theorem dX9_align_115 : decode cX9_align 115 = .ok (.iconst 2, 1) := by decide +kernel
theorem dX9_align_116 : decode cX9_align 116 = .ok (.laload, 1) := by decide +kernel
theorem dX9_align_117 : decode cX9_align 117 = .ok (.lcmp, 1) := by decide +kernel
theorem dX9_align_118 : decode cX9_align 118 = .ok (.ifCond .gt 22, 3) := by decide +kernel
theorem dX9_align_121 : decode cX9_align 121 = .ok (.aload_n 0, 1) := by decide +kernel
theorem dX9_align_122 : decode cX9_align 122 = .ok (.iload 5, 2) := by decide +kernel
theorem dX9_align_124 : decode cX9_align 124 = .ok (.iload_n 3, 1) := by decide +kernel
theorem dX9_align_125 : decode cX9_align 125 = .ok (.iconst 1, 1) := by decide +kernel
theorem dX9_align_126 : decode cX9_align 126 = .ok (.iadd, 1) := by decide +kernel
theorem dX9_align_127 : decode cX9_align 127 = .ok (.iload 4, 2) := by decide +kernel
theorem dX9_align_129 : decode cX9_align 129 = .ok (.iconst 1, 1) := by decide +kernel
theorem dX9_align_130 : decode cX9_align 130 = .ok (.iadd, 1) := by decide +kernel
theorem dX9_align_131 : decode cX9_align 131 = .ok (.invokestatic 286, 3) := by decide +kernel
theorem dX9_align_134 : decode cX9_align 134 = .ok (.iconst 1, 1) := by decide +kernel
theorem dX9_align_135 : decode cX9_align 135 = .ok (.iload 6, 2) := by decide +kernel
theorem dX9_align_137 : decode cX9_align 137 = .ok (.invokevirtual 289, 3) := by decide +kernel
theorem dX9_align_140 : decode cX9_align 140 = .ok (.iinc 4 (-1), 3) := by decide +kernel
theorem dX9_align_143 : decode cX9_align 143 = .ok (.goto (-126), 3) := by decide +kernel
theorem dX9_align_146 : decode cX9_align 146 = .ok (.iinc 3 (-1), 3) := by decide +kernel
theorem dX9_align_149 : decode cX9_align 149 = .ok (.goto (-143), 3) := by decide +kernel
theorem dX9_align_152 : decode cX9_align 152 = .ok (.return_, 1) := by decide +kernel
theorem dX9_take_0 : decode cX9_take 0 = .ok (.aload_n 0, 1) := by decide +kernel
theorem dX9_take_1 : decode cX9_take 1 = .ok (.getfield 30, 3) := by decide +kernel
theorem dX9_take_4 : decode cX9_take 4 = .ok (.iload_n 2, 1) := by decide +kernel
theorem dX9_take_5 : decode cX9_take 5 = .ok (.iaload, 1) := by decide +kernel
theorem dX9_take_6 : decode cX9_take 6 = .ok (.iload_n 3, 1) := by decide +kernel
theorem dX9_take_7 : decode cX9_take 7 = .ok (.iadd, 1) := by decide +kernel
theorem dX9_take_8 : decode cX9_take 8 = .ok (.istore 5, 2) := by decide +kernel
theorem dX9_take_10 : decode cX9_take 10 = .ok (.aload_n 0, 1) := by decide +kernel
theorem dX9_take_11 : decode cX9_take 11 = .ok (.getfield 33, 3) := by decide +kernel
theorem dX9_take_14 : decode cX9_take 14 = .ok (.iload_n 2, 1) := by decide +kernel
theorem dX9_take_15 : decode cX9_take 15 = .ok (.iaload, 1) := by decide +kernel
theorem dX9_take_16 : decode cX9_take 16 = .ok (.iload 4, 2) := by decide +kernel
theorem dX9_take_18 : decode cX9_take 18 = .ok (.iadd, 1) := by decide +kernel
theorem dX9_take_19 : decode cX9_take 19 = .ok (.istore 6, 2) := by decide +kernel
theorem dX9_take_21 : decode cX9_take 21 = .ok (.iload 5, 2) := by decide +kernel
theorem dX9_take_23 : decode cX9_take 23 = .ok (.aload_n 0, 1) := by decide +kernel
theorem dX9_take_24 : decode cX9_take 24 = .ok (.getfield 30, 3) := by decide +kernel
theorem dX9_take_27 : decode cX9_take 27 = .ok (.iload_n 1, 1) := by decide +kernel
theorem dX9_take_28 : decode cX9_take 28 = .ok (.iaload, 1) := by decide +kernel
theorem dX9_take_29 : decode cX9_take 29 = .ok (.if_icmp .gt 25, 3) := by decide +kernel
theorem dX9_take_32 : decode cX9_take 32 = .ok (.iload 5, 2) := by decide +kernel
theorem dX9_take_34 : decode cX9_take 34 = .ok (.aload_n 0, 1) := by decide +kernel
theorem dX9_take_35 : decode cX9_take 35 = .ok (.getfield 30, 3) := by decide +kernel
theorem dX9_take_38 : decode cX9_take 38 = .ok (.iload_n 1, 1) := by decide +kernel
theorem dX9_take_39 : decode cX9_take 39 = .ok (.iaload, 1) := by decide +kernel
theorem dX9_take_40 : decode cX9_take 40 = .ok (.if_icmp .ne 30, 3) := by decide +kernel
theorem dX9_take_43 : decode cX9_take 43 = .ok (.iload 6, 2) := by decide +kernel
theorem dX9_take_45 : decode cX9_take 45 = .ok (.aload_n 0, 1) := by decide +kernel
theorem dX9_take_46 : decode cX9_take 46 = .ok (.getfield 33, 3) := by decide +kernel
theorem dX9_take_49 : decode cX9_take 49 = .ok (.iload_n 1, 1) := by decide +kernel
theorem dX9_take_50 : decode cX9_take 50 = .ok (.iaload, 1) := by decide +kernel
theorem dX9_take_51 : decode cX9_take 51 = .ok (.if_icmp .ge 19, 3) := by decide +kernel
theorem dX9_take_54 : decode cX9_take 54 = .ok (.aload_n 0, 1) := by decide +kernel
theorem dX9_take_55 : decode cX9_take 55 = .ok (.getfield 30, 3) := by decide +kernel
theorem dX9_take_58 : decode cX9_take 58 = .ok (.iload_n 1, 1) := by decide +kernel
theorem dX9_take_59 : decode cX9_take 59 = .ok (.iload 5, 2) := by decide +kernel
theorem dX9_take_61 : decode cX9_take 61 = .ok (.iastore, 1) := by decide +kernel
theorem dX9_take_62 : decode cX9_take 62 = .ok (.aload_n 0, 1) := by decide +kernel
theorem dX9_take_63 : decode cX9_take 63 = .ok (.getfield 33, 3) := by decide +kernel
theorem dX9_take_66 : decode cX9_take 66 = .ok (.iload_n 1, 1) := by decide +kernel
theorem dX9_take_67 : decode cX9_take 67 = .ok (.iload 6, 2) := by decide +kernel
theorem dX9_take_69 : decode cX9_take 69 = .ok (.iastore, 1) := by decide +kernel
theorem dX9_take_70 : decode cX9_take 70 = .ok (.return_, 1) := by decide +kernel
theorem dX9_aligned_0 : decode cX9_aligned 0 = .ok (.aload_n 0, 1) := by decide +kernel
theorem dX9_aligned_1 : decode cX9_aligned 1 = .ok (.aload_n 0, 1) := by decide +kernel
theorem dX9_aligned_2 : decode cX9_aligned 2 = .ok (.iload_n 1, 1) := by decide +kernel
theorem dX9_aligned_3 : decode cX9_aligned 3 = .ok (.invokevirtual 130, 3) := by decide +kernel
theorem dX9_aligned_6 : decode cX9_aligned 6 = .ok (.ifCond .eq 24, 3) := by decide +kernel
theorem dX9_aligned_9 : decode cX9_aligned 9 = .ok (.aload_n 0, 1) := by decide +kernel
theorem dX9_aligned_10 : decode cX9_aligned 10 = .ok (.iload_n 2, 1) := by decide +kernel
theorem dX9_aligned_11 : decode cX9_aligned 11 = .ok (.invokevirtual 130, 3) := by decide +kernel
theorem dX9_aligned_14 : decode cX9_aligned 14 = .ok (.ifCond .eq 16, 3) := by decide +kernel
theorem dX9_aligned_17 : decode cX9_aligned 17 = .ok (.aload_n 0, 1) := by decide +kernel
theorem dX9_aligned_18 : decode cX9_aligned 18 = .ok (.iload_n 1, 1) := by decide +kernel
theorem dX9_aligned_19 : decode cX9_aligned 19 = .ok (.iload_n 3, 1) := by decide +kernel
theorem dX9_aligned_20 : decode cX9_aligned 20 = .ok (.invokevirtual 247, 3) := by decide +kernel
theorem dX9_aligned_23 : decode cX9_aligned 23 = .ok (.ifCond .eq 7, 3) := by decide +kernel
theorem dX9_aligned_26 : decode cX9_aligned 26 = .ok (.iconst 0, 1) := by decide +kernel
theorem dX9_aligned_27 : decode cX9_aligned 27 = .ok (.goto 4, 3) := by decide +kernel
theorem dX9_aligned_30 : decode cX9_aligned 30 = .ok (.iconst 1, 1) := by decide +kernel
theorem dX9_aligned_31 : decode cX9_aligned 31 = .ok (.putfield 97, 3) := by decide +kernel
theorem dX9_aligned_34 : decode cX9_aligned 34 = .ok (.aload_n 0, 1) := by decide +kernel
theorem dX9_aligned_35 : decode cX9_aligned 35 = .ok (.getfield 97, 3) := by decide +kernel
theorem dX9_aligned_38 : decode cX9_aligned 38 = .ok (.ifCond .le 5, 3) := by decide +kernel
theorem dX9_aligned_41 : decode cX9_aligned 41 = .ok (.iconst 0, 1) := by decide +kernel
theorem dX9_aligned_42 : decode cX9_aligned 42 = .ok (.ireturn, 1) := by decide +kernel
theorem dX9_aligned_43 : decode cX9_aligned 43 = .ok (.aload_n 0, 1) := by decide +kernel
theorem dX9_aligned_44 : decode cX9_aligned 44 = .ok (.iload_n 1, 1) := by decide +kernel
theorem dX9_aligned_45 : decode cX9_aligned 45 = .ok (.iload_n 2, 1) := by decide +kernel
theorem dX9_aligned_46 : decode cX9_aligned 46 = .ok (.invokevirtual 293, 3) := by decide +kernel
theorem dX9_aligned_49 : decode cX9_aligned 49 = .ok (.iconst 0, 1) := by decide +kernel
theorem dX9_aligned_50 : decode cX9_aligned 50 = .ok (.istore 4, 2) := by decide +kernel
theorem dX9_aligned_52 : decode cX9_aligned 52 = .ok (.iconst (-1), 1) := by decide +kernel
theorem dX9_aligned_53 : decode cX9_aligned 53 = .ok (.istore 5, 2) := by decide +kernel
theorem dX9_aligned_55 : decode cX9_aligned 55 = .ok (.iconst 0, 1) := by decide +kernel
theorem dX9_aligned_56 : decode cX9_aligned 56 = .ok (.istore 6, 2) := by decide +kernel
theorem dX9_aligned_58 : decode cX9_aligned 58 = .ok (.iload 6, 2) := by decide +kernel
theorem dX9_aligned_60 : decode cX9_aligned 60 = .ok (.iload_n 3, 1) := by decide +kernel
theorem dX9_aligned_61 : decode cX9_aligned 61 = .ok (.if_icmp .gt 83, 3) := by decide +kernel
theorem dX9_aligned_64 : decode cX9_aligned 64 = .ok (.iload 4, 2) := by decide +kernel
theorem dX9_aligned_66 : decode cX9_aligned 66 = .ok (.istore 7, 2) := by decide +kernel
theorem dX9_aligned_68 : decode cX9_aligned 68 = .ok (.iload 7, 2) := by decide +kernel
theorem dX9_aligned_70 : decode cX9_aligned 70 = .ok (.aload_n 0, 1) := by decide +kernel
theorem dX9_aligned_71 : decode cX9_aligned 71 = .ok (.iload_n 2, 1) := by decide +kernel
theorem dX9_aligned_72 : decode cX9_aligned 72 = .ok (.invokevirtual 149, 3) := by decide +kernel
theorem dX9_aligned_75 : decode cX9_aligned 75 = .ok (.if_icmp .ge 29, 3) := by decide +kernel
theorem dX9_aligned_78 : decode cX9_aligned 78 = .ok (.aload_n 0, 1) := by decide +kernel
theorem dX9_aligned_79 : decode cX9_aligned 79 = .ok (.iload_n 1, 1) := by decide +kernel
theorem dX9_aligned_80 : decode cX9_aligned 80 = .ok (.iload 6, 2) := by decide +kernel
theorem dX9_aligned_82 : decode cX9_aligned 82 = .ok (.iload_n 2, 1) := by decide +kernel
theorem dX9_aligned_83 : decode cX9_aligned 83 = .ok (.iload 7, 2) := by decide +kernel
theorem dX9_aligned_85 : decode cX9_aligned 85 = .ok (.iload 6, 2) := by decide +kernel
theorem dX9_aligned_87 : decode cX9_aligned 87 = .ok (.iload 4, 2) := by decide +kernel
theorem dX9_aligned_89 : decode cX9_aligned 89 = .ok (.invokestatic 286, 3) := by decide +kernel
theorem dX9_aligned_92 : decode cX9_aligned 92 = .ok (.invokevirtual 296, 3) := by decide +kernel
theorem dX9_aligned_95 : decode cX9_aligned 95 = .ok (.ifCond .ne 9, 3) := by decide +kernel
theorem dX9_aligned_98 : decode cX9_aligned 98 = .ok (.iinc 7 1, 3) := by decide +kernel
theorem dX9_aligned_101 : decode cX9_aligned 101 = .ok (.goto (-33), 3) := by decide +kernel
theorem dX9_aligned_104 : decode cX9_aligned 104 = .ok (.iload 7, 2) := by decide +kernel
theorem dX9_aligned_106 : decode cX9_aligned 106 = .ok (.aload_n 0, 1) := by decide +kernel
theorem dX9_aligned_107 : decode cX9_aligned 107 = .ok (.iload_n 2, 1) := by decide +kernel
theorem dX9_aligned_108 : decode cX9_aligned 108 = .ok (.invokevirtual 149, 3) := by decide +kernel
theorem dX9_aligned_111 : decode cX9_aligned 111 = .ok (.if_icmp .ge 8, 3) := by decide +kernel
theorem dX9_aligned_114 : decode cX9_aligned 114 = .ok (.iload 7, 2) := by decide +kernel
theorem dX9_aligned_116 : decode cX9_aligned 116 = .ok (.goto 4, 3) := by decide +kernel
theorem dX9_aligned_119 : decode cX9_aligned 119 = .ok (.iconst (-1), 1) := by decide +kernel
theorem dX9_aligned_120 : decode cX9_aligned 120 = .ok (.istore 5, 2) := by decide +kernel
theorem dX9_aligned_122 : decode cX9_aligned 122 = .ok (.iload 5, 2) := by decide +kernel
theorem dX9_aligned_124 : decode cX9_aligned 124 = .ok (.ifCond .ge 8, 3) := by decide +kernel
theorem dX9_aligned_127 : decode cX9_aligned 127 = .ok (.iload 4, 2) := by decide +kernel
theorem dX9_aligned_129 : decode cX9_aligned 129 = .ok (.goto 7, 3) := by decide +kernel
theorem dX9_aligned_132 : decode cX9_aligned 132 = .ok (.iload 5, 2) := by decide +kernel
theorem dX9_aligned_134 : decode cX9_aligned 134 = .ok (.iconst 1, 1) := by decide +kernel
theorem dX9_aligned_135 : decode cX9_aligned 135 = .ok (.iadd, 1) := by decide +kernel
theorem dX9_aligned_136 : decode cX9_aligned 136 = .ok (.istore 4, 2) := by decide +kernel
theorem dX9_aligned_138 : decode cX9_aligned 138 = .ok (.iinc 6 1, 3) := by decide +kernel
theorem dX9_aligned_141 : decode cX9_aligned 141 = .ok (.goto (-83), 3) := by decide +kernel
theorem dX9_aligned_144 : decode cX9_aligned 144 = .ok (.iload 5, 2) := by decide +kernel
theorem dX9_aligned_146 : decode cX9_aligned 146 = .ok (.ireturn, 1) := by decide +kernel
theorem dX9_alignment_0 : decode cX9_alignment 0 = .ok (.aload_n 0, 1) := by decide +kernel
theorem dX9_alignment_1 : decode cX9_alignment 1 = .ok (.aload_n 0, 1) := by decide +kernel
theorem dX9_alignment_2 : decode cX9_alignment 2 = .ok (.iload_n 1, 1) := by decide +kernel
theorem dX9_alignment_3 : decode cX9_alignment 3 = .ok (.invokevirtual 130, 3) := by decide +kernel
theorem dX9_alignment_6 : decode cX9_alignment 6 = .ok (.ifCond .eq 15, 3) := by decide +kernel
theorem dX9_alignment_9 : decode cX9_alignment 9 = .ok (.aload_n 0, 1) := by decide +kernel
theorem dX9_alignment_10 : decode cX9_alignment 10 = .ok (.iload_n 2, 1) := by decide +kernel
theorem dX9_alignment_11 : decode cX9_alignment 11 = .ok (.invokevirtual 130, 3) := by decide +kernel
theorem dX9_alignment_14 : decode cX9_alignment 14 = .ok (.ifCond .eq 7, 3) := by decide +kernel
theorem dX9_alignment_17 : decode cX9_alignment 17 = .ok (.iconst 0, 1) := by decide +kernel
theorem dX9_alignment_18 : decode cX9_alignment 18 = .ok (.goto 4, 3) := by decide +kernel
theorem dX9_alignment_21 : decode cX9_alignment 21 = .ok (.iconst 1, 1) := by decide +kernel
theorem dX9_alignment_22 : decode cX9_alignment 22 = .ok (.putfield 97, 3) := by decide +kernel
theorem dX9_alignment_25 : decode cX9_alignment 25 = .ok (.aload_n 0, 1) := by decide +kernel
theorem dX9_alignment_26 : decode cX9_alignment 26 = .ok (.getfield 97, 3) := by decide +kernel
theorem dX9_alignment_29 : decode cX9_alignment 29 = .ok (.ifCond .le 5, 3) := by decide +kernel
theorem dX9_alignment_32 : decode cX9_alignment 32 = .ok (.iconst 0, 1) := by decide +kernel
theorem dX9_alignment_33 : decode cX9_alignment 33 = .ok (.ireturn, 1) := by decide +kernel
theorem dX9_alignment_34 : decode cX9_alignment 34 = .ok (.aload_n 0, 1) := by decide +kernel
theorem dX9_alignment_35 : decode cX9_alignment 35 = .ok (.iload_n 1, 1) := by decide +kernel
theorem dX9_alignment_36 : decode cX9_alignment 36 = .ok (.iload_n 2, 1) := by decide +kernel
theorem dX9_alignment_37 : decode cX9_alignment 37 = .ok (.invokevirtual 293, 3) := by decide +kernel
theorem dX9_alignment_40 : decode cX9_alignment 40 = .ok (.iload_n 3, 1) := by decide +kernel
theorem dX9_alignment_41 : decode cX9_alignment 41 = .ok (.ifCond .eq 12, 3) := by decide +kernel
theorem dX9_alignment_44 : decode cX9_alignment 44 = .ok (.aload_n 0, 1) := by decide +kernel
theorem dX9_alignment_45 : decode cX9_alignment 45 = .ok (.getfield 30, 3) := by decide +kernel
theorem dX9_alignment_48 : decode cX9_alignment 48 = .ok (.iconst 0, 1) := by decide +kernel
theorem dX9_alignment_49 : decode cX9_alignment 49 = .ok (.iaload, 1) := by decide +kernel
theorem dX9_alignment_50 : decode cX9_alignment 50 = .ok (.goto 9, 3) := by decide +kernel
theorem dX9_alignment_53 : decode cX9_alignment 53 = .ok (.aload_n 0, 1) := by decide +kernel
theorem dX9_alignment_54 : decode cX9_alignment 54 = .ok (.getfield 33, 3) := by decide +kernel
theorem dX9_alignment_57 : decode cX9_alignment 57 = .ok (.iconst 0, 1) := by decide +kernel
theorem dX9_alignment_58 : decode cX9_alignment 58 = .ok (.iaload, 1) := by decide +kernel
theorem dX9_alignment_59 : decode cX9_alignment 59 = .ok (.ireturn, 1) := by decide +kernel
theorem dX9_readTierNumber_0 : decode cX9_readTierNumber 0 = .ok (.aload_n 0, 1) := by decide +kernel
theorem dX9_readTierNumber_1 : decode cX9_readTierNumber 1 = .ok (.aload_n 0, 1) := by decide +kernel
theorem dX9_readTierNumber_2 : decode cX9_readTierNumber 2 = .ok (.getfield 193, 3) := by decide +kernel
theorem dX9_readTierNumber_5 : decode cX9_readTierNumber 5 = .ok (.ifCond .ne 24, 3) := by decide +kernel
theorem dX9_readTierNumber_8 : decode cX9_readTierNumber 8 = .ok (.aload_n 0, 1) := by decide +kernel
theorem dX9_readTierNumber_9 : decode cX9_readTierNumber 9 = .ok (.invokevirtual 197, 3) := by decide +kernel
theorem dX9_readTierNumber_12 : decode cX9_readTierNumber 12 = .ok (.bipush 48, 2) := by decide +kernel
theorem dX9_readTierNumber_14 : decode cX9_readTierNumber 14 = .ok (.bipush 48, 2) := by decide +kernel
theorem dX9_readTierNumber_16 : decode cX9_readTierNumber 16 = .ok (.aload_n 0, 1) := by decide +kernel
theorem dX9_readTierNumber_17 : decode cX9_readTierNumber 17 = .ok (.invokevirtual 122, 3) := by decide +kernel
theorem dX9_readTierNumber_20 : decode cX9_readTierNumber 20 = .ok (.iadd, 1) := by decide +kernel
theorem dX9_readTierNumber_21 : decode cX9_readTierNumber 21 = .ok (.iconst 1, 1) := by decide +kernel
theorem dX9_readTierNumber_22 : decode cX9_readTierNumber 22 = .ok (.isub, 1) := by decide +kernel
theorem dX9_readTierNumber_23 : decode cX9_readTierNumber 23 = .ok (.invokestatic 126, 3) := by decide +kernel
theorem dX9_readTierNumber_26 : decode cX9_readTierNumber 26 = .ok (.ifCond .ne 7, 3) := by decide +kernel
theorem dX9_readTierNumber_29 : decode cX9_readTierNumber 29 = .ok (.iconst 1, 1) := by decide +kernel
theorem dX9_readTierNumber_30 : decode cX9_readTierNumber 30 = .ok (.goto 4, 3) := by decide +kernel
theorem dX9_readTierNumber_33 : decode cX9_readTierNumber 33 = .ok (.iconst 0, 1) := by decide +kernel
theorem dX9_readTierNumber_34 : decode cX9_readTierNumber 34 = .ok (.putfield 193, 3) := by decide +kernel
theorem dX9_readTierNumber_37 : decode cX9_readTierNumber 37 = .ok (.aload_n 0, 1) := by decide +kernel
theorem dX9_readTierNumber_38 : decode cX9_readTierNumber 38 = .ok (.getfield 193, 3) := by decide +kernel
theorem dX9_readTierNumber_41 : decode cX9_readTierNumber 41 = .ok (.ifCond .eq 5, 3) := by decide +kernel
theorem dX9_readTierNumber_44 : decode cX9_readTierNumber 44 = .ok (.iconst 0, 1) := by decide +kernel
theorem dX9_readTierNumber_45 : decode cX9_readTierNumber 45 = .ok (.ireturn, 1) := by decide +kernel
theorem dX9_readTierNumber_46 : decode cX9_readTierNumber 46 = .ok (.aload_n 0, 1) := by decide +kernel
theorem dX9_readTierNumber_47 : decode cX9_readTierNumber 47 = .ok (.dup, 1) := by decide +kernel
theorem dX9_readTierNumber_48 : decode cX9_readTierNumber 48 = .ok (.getfield 190, 3) := by decide +kernel
theorem dX9_readTierNumber_51 : decode cX9_readTierNumber 51 = .ok (.iconst 1, 1) := by decide +kernel
theorem dX9_readTierNumber_52 : decode cX9_readTierNumber 52 = .ok (.iadd, 1) := by decide +kernel
theorem dX9_readTierNumber_53 : decode cX9_readTierNumber 53 = .ok (.putfield 190, 3) := by decide +kernel
theorem dX9_readTierNumber_56 : decode cX9_readTierNumber 56 = .ok (.aload_n 0, 1) := by decide +kernel
theorem dX9_readTierNumber_57 : decode cX9_readTierNumber 57 = .ok (.getfield 22, 3) := by decide +kernel
theorem dX9_readTierNumber_60 : decode cX9_readTierNumber 60 = .ok (.aload_n 0, 1) := by decide +kernel
theorem dX9_readTierNumber_61 : decode cX9_readTierNumber 61 = .ok (.getfield 190, 3) := by decide +kernel
theorem dX9_readTierNumber_64 : decode cX9_readTierNumber 64 = .ok (.iconst 1, 1) := by decide +kernel
theorem dX9_readTierNumber_65 : decode cX9_readTierNumber 65 = .ok (.isub, 1) := by decide +kernel
theorem dX9_readTierNumber_66 : decode cX9_readTierNumber 66 = .ok (.iaload, 1) := by decide +kernel
theorem dX9_readTierNumber_67 : decode cX9_readTierNumber 67 = .ok (.bipush 48, 2) := by decide +kernel
theorem dX9_readTierNumber_69 : decode cX9_readTierNumber 69 = .ok (.isub, 1) := by decide +kernel
theorem dX9_readTierNumber_70 : decode cX9_readTierNumber 70 = .ok (.ireturn, 1) := by decide +kernel
theorem dX9_sign_0 : decode cX9_sign 0 = .ok (.aload_n 0, 1) := by decide +kernel
theorem dX9_sign_1 : decode cX9_sign 1 = .ok (.aload_n 0, 1) := by decide +kernel
theorem dX9_sign_2 : decode cX9_sign 2 = .ok (.getfield 193, 3) := by decide +kernel
theorem dX9_sign_5 : decode cX9_sign 5 = .ok (.ifCond .ne 11, 3) := by decide +kernel
theorem dX9_sign_8 : decode cX9_sign 8 = .ok (.aload_n 0, 1) := by decide +kernel
theorem dX9_sign_9 : decode cX9_sign 9 = .ok (.invokevirtual 197, 3) := by decide +kernel
theorem dX9_sign_12 : decode cX9_sign 12 = .ok (.iload_n 1, 1) := by decide +kernel
theorem dX9_sign_13 : decode cX9_sign 13 = .ok (.if_icmp .eq 7, 3) := by decide +kernel
theorem dX9_sign_16 : decode cX9_sign 16 = .ok (.iconst 1, 1) := by decide +kernel
theorem dX9_sign_17 : decode cX9_sign 17 = .ok (.goto 4, 3) := by decide +kernel
theorem dX9_sign_20 : decode cX9_sign 20 = .ok (.iconst 0, 1) := by decide +kernel
theorem dX9_sign_21 : decode cX9_sign 21 = .ok (.putfield 193, 3) := by decide +kernel
theorem dX9_sign_24 : decode cX9_sign 24 = .ok (.aload_n 0, 1) := by decide +kernel
theorem dX9_sign_25 : decode cX9_sign 25 = .ok (.dup, 1) := by decide +kernel
theorem dX9_sign_26 : decode cX9_sign 26 = .ok (.getfield 190, 3) := by decide +kernel
theorem dX9_sign_29 : decode cX9_sign 29 = .ok (.aload_n 0, 1) := by decide +kernel
theorem dX9_sign_30 : decode cX9_sign 30 = .ok (.getfield 193, 3) := by decide +kernel
theorem dX9_sign_33 : decode cX9_sign 33 = .ok (.ifCond .eq 7, 3) := by decide +kernel
theorem dX9_sign_36 : decode cX9_sign 36 = .ok (.iconst 0, 1) := by decide +kernel
theorem dX9_sign_37 : decode cX9_sign 37 = .ok (.goto 4, 3) := by decide +kernel
theorem dX9_sign_40 : decode cX9_sign 40 = .ok (.iconst 1, 1) := by decide +kernel
theorem dX9_sign_41 : decode cX9_sign 41 = .ok (.iadd, 1) := by decide +kernel
theorem dX9_sign_42 : decode cX9_sign 42 = .ok (.putfield 190, 3) := by decide +kernel
theorem dX9_sign_45 : decode cX9_sign 45 = .ok (.return_, 1) := by decide +kernel
theorem dX9_readPart_0 : decode cX9_readPart 0 = .ok (.aload_n 0, 1) := by decide +kernel
theorem dX9_readPart_1 : decode cX9_readPart 1 = .ok (.invokevirtual 300, 3) := by decide +kernel
theorem dX9_readPart_4 : decode cX9_readPart 4 = .ok (.istore_n 1, 1) := by decide +kernel
theorem dX9_readPart_5 : decode cX9_readPart 5 = .ok (.aload_n 0, 1) := by decide +kernel
theorem dX9_readPart_6 : decode cX9_readPart 6 = .ok (.bipush 61, 2) := by decide +kernel
theorem dX9_readPart_8 : decode cX9_readPart 8 = .ok (.invokevirtual 303, 3) := by decide +kernel
theorem dX9_readPart_11 : decode cX9_readPart 11 = .ok (.aload_n 0, 1) := by decide +kernel
theorem dX9_readPart_12 : decode cX9_readPart 12 = .ok (.getfield 49, 3) := by decide +kernel
theorem dX9_readPart_15 : decode cX9_readPart 15 = .ok (.aload_n 0, 1) := by decide +kernel
theorem dX9_readPart_16 : decode cX9_readPart 16 = .ok (.getfield 307, 3) := by decide +kernel
theorem dX9_readPart_19 : decode cX9_readPart 19 = .ok (.iload_n 1, 1) := by decide +kernel
theorem dX9_readPart_20 : decode cX9_readPart 20 = .ok (.iastore, 1) := by decide +kernel
theorem dX9_readPart_21 : decode cX9_readPart 21 = .ok (.aload_n 0, 1) := by decide +kernel
theorem dX9_readPart_22 : decode cX9_readPart 22 = .ok (.getfield 193, 3) := by decide +kernel
theorem dX9_readPart_25 : decode cX9_readPart 25 = .ok (.ifCond .ne 35, 3) := by decide +kernel
theorem dX9_readPart_28 : decode cX9_readPart 28 = .ok (.aload_n 0, 1) := by decide +kernel
theorem dX9_readPart_29 : decode cX9_readPart 29 = .ok (.invokevirtual 197, 3) := by decide +kernel
theorem dX9_readPart_32 : decode cX9_readPart 32 = .ok (.bipush 42, 2) := by decide +kernel
theorem dX9_readPart_34 : decode cX9_readPart 34 = .ok (.if_icmp .ne 26, 3) := by decide +kernel
theorem dX9_readPart_37 : decode cX9_readPart 37 = .ok (.aload_n 0, 1) := by decide +kernel
theorem dX9_readPart_38 : decode cX9_readPart 38 = .ok (.dup, 1) := by decide +kernel
theorem dX9_readPart_39 : decode cX9_readPart 39 = .ok (.getfield 190, 3) := by decide +kernel
theorem dX9_readPart_42 : decode cX9_readPart 42 = .ok (.iconst 1, 1) := by decide +kernel
theorem dX9_readPart_43 : decode cX9_readPart 43 = .ok (.iadd, 1) := by decide +kernel
theorem dX9_readPart_44 : decode cX9_readPart 44 = .ok (.putfield 190, 3) := by decide +kernel
theorem dX9_readPart_47 : decode cX9_readPart 47 = .ok (.aload_n 0, 1) := by decide +kernel
theorem dX9_readPart_48 : decode cX9_readPart 48 = .ok (.getfield 52, 3) := by decide +kernel
theorem dX9_readPart_51 : decode cX9_readPart 51 = .ok (.aload_n 0, 1) := by decide +kernel
theorem dX9_readPart_52 : decode cX9_readPart 52 = .ok (.getfield 307, 3) := by decide +kernel
theorem dX9_readPart_55 : decode cX9_readPart 55 = .ok (.lconst 0, 1) := by decide +kernel
theorem dX9_readPart_56 : decode cX9_readPart 56 = .ok (.lastore, 1) := by decide +kernel
theorem dX9_readPart_57 : decode cX9_readPart 57 = .ok (.goto 32, 3) := by decide +kernel
theorem dX9_readPart_60 : decode cX9_readPart 60 = .ok (.aload_n 0, 1) := by decide +kernel
theorem dX9_readPart_61 : decode cX9_readPart 61 = .ok (.getfield 52, 3) := by decide +kernel
theorem dX9_readPart_64 : decode cX9_readPart 64 = .ok (.aload_n 0, 1) := by decide +kernel
theorem dX9_readPart_65 : decode cX9_readPart 65 = .ok (.getfield 307, 3) := by decide +kernel
theorem dX9_readPart_68 : decode cX9_readPart 68 = .ok (.aload_n 0, 1) := by decide +kernel
theorem dX9_readPart_69 : decode cX9_readPart 69 = .ok (.aload_n 0, 1) := by decide +kernel
theorem dX9_readPart_70 : decode cX9_readPart 70 = .ok (.getfield 193, 3) := by decide +kernel
theorem dX9_readPart_73 : decode cX9_readPart 73 = .ok (.ifCond .eq 7, 3) := by decide +kernel
theorem dX9_readPart_76 : decode cX9_readPart 76 = .ok (.iconst 0, 1) := by decide +kernel
theorem dX9_readPart_77 : decode cX9_readPart 77 = .ok (.goto 8, 3) := by decide +kernel
theorem dX9_readPart_80 : decode cX9_readPart 80 = .ok (.aload_n 0, 1) := by decide +kernel
theorem dX9_readPart_81 : decode cX9_readPart 81 = .ok (.iload_n 1, 1) := by decide +kernel
theorem dX9_readPart_82 : decode cX9_readPart 82 = .ok (.invokevirtual 233, 3) := by decide +kernel
theorem dX9_readPart_85 : decode cX9_readPart 85 = .ok (.invokevirtual 236, 3) := by decide +kernel
theorem dX9_readPart_88 : decode cX9_readPart 88 = .ok (.lastore, 1) := by decide +kernel
theorem dX9_readPart_89 : decode cX9_readPart 89 = .ok (.aload_n 0, 1) := by decide +kernel
theorem dX9_readPart_90 : decode cX9_readPart 90 = .ok (.dup, 1) := by decide +kernel
theorem dX9_readPart_91 : decode cX9_readPart 91 = .ok (.getfield 307, 3) := by decide +kernel
theorem dX9_readPart_94 : decode cX9_readPart 94 = .ok (.iconst 1, 1) := by decide +kernel
theorem dX9_readPart_95 : decode cX9_readPart 95 = .ok (.iadd, 1) := by decide +kernel
theorem dX9_readPart_96 : decode cX9_readPart 96 = .ok (.putfield 307, 3) := by decide +kernel
theorem dX9_readPart_99 : decode cX9_readPart 99 = .ok (.return_, 1) := by decide +kernel
theorem dX9_isPatternWrong_0 : decode cX9_isPatternWrong 0 = .ok (.aload_n 0, 1) := by decide +kernel
theorem dX9_isPatternWrong_1 : decode cX9_isPatternWrong 1 = .ok (.invokevirtual 230, 3) := by decide +kernel
theorem dX9_isPatternWrong_4 : decode cX9_isPatternWrong 4 = .ok (.aload_n 0, 1) := by decide +kernel
theorem dX9_isPatternWrong_5 : decode cX9_isPatternWrong 5 = .ok (.iconst 0, 1) := by decide +kernel
theorem dX9_isPatternWrong_6 : decode cX9_isPatternWrong 6 = .ok (.putfield 307, 3) := by decide +kernel
theorem dX9_isPatternWrong_9 : decode cX9_isPatternWrong 9 = .ok (.aload_n 0, 1) := by decide +kernel
theorem dX9_isPatternWrong_10 : decode cX9_isPatternWrong 10 = .ok (.invokevirtual 310, 3) := by decide +kernel
theorem dX9_isPatternWrong_13 : decode cX9_isPatternWrong 13 = .ok (.aload_n 0, 1) := by decide +kernel
theorem dX9_isPatternWrong_14 : decode cX9_isPatternWrong 14 = .ok (.getfield 193, 3) := by decide +kernel
theorem dX9_isPatternWrong_17 : decode cX9_isPatternWrong 17 = .ok (.ifCond .ne 69, 3) := by decide +kernel
theorem dX9_isPatternWrong_20 : decode cX9_isPatternWrong 20 = .ok (.aload_n 0, 1) := by decide +kernel
theorem dX9_isPatternWrong_21 : decode cX9_isPatternWrong 21 = .ok (.getfield 307, 3) := by decide +kernel
theorem dX9_isPatternWrong_24 : decode cX9_isPatternWrong 24 = .ok (.iconst 4, 1) := by decide +kernel
theorem dX9_isPatternWrong_25 : decode cX9_isPatternWrong 25 = .ok (.if_icmp .ge 61, 3) := by decide +kernel
theorem dX9_isPatternWrong_28 : decode cX9_isPatternWrong 28 = .ok (.aload_n 0, 1) := by decide +kernel
theorem dX9_isPatternWrong_29 : decode cX9_isPatternWrong 29 = .ok (.invokevirtual 197, 3) := by decide +kernel
theorem dX9_isPatternWrong_32 : decode cX9_isPatternWrong 32 = .ok (.bipush 44, 2) := by decide +kernel
theorem dX9_isPatternWrong_34 : decode cX9_isPatternWrong 34 = .ok (.if_icmp .eq 12, 3) := by decide +kernel
theorem dX9_isPatternWrong_37 : decode cX9_isPatternWrong 37 = .ok (.aload_n 0, 1) := by decide +kernel
theorem dX9_isPatternWrong_38 : decode cX9_isPatternWrong 38 = .ok (.invokevirtual 197, 3) := by decide +kernel
theorem dX9_isPatternWrong_41 : decode cX9_isPatternWrong 41 = .ok (.bipush 38, 2) := by decide +kernel
theorem dX9_isPatternWrong_43 : decode cX9_isPatternWrong 43 = .ok (.if_icmp .ne 43, 3) := by decide +kernel
theorem dX9_isPatternWrong_46 : decode cX9_isPatternWrong 46 = .ok (.aload_n 0, 1) := by decide +kernel
theorem dX9_isPatternWrong_47 : decode cX9_isPatternWrong 47 = .ok (.getfield 55, 3) := by decide +kernel
theorem dX9_isPatternWrong_50 : decode cX9_isPatternWrong 50 = .ok (.aload_n 0, 1) := by decide +kernel
theorem dX9_isPatternWrong_51 : decode cX9_isPatternWrong 51 = .ok (.getfield 307, 3) := by decide +kernel
theorem dX9_isPatternWrong_54 : decode cX9_isPatternWrong 54 = .ok (.aload_n 0, 1) := by decide +kernel
theorem dX9_isPatternWrong_55 : decode cX9_isPatternWrong 55 = .ok (.invokevirtual 197, 3) := by decide +kernel
theorem dX9_isPatternWrong_58 : decode cX9_isPatternWrong 58 = .ok (.bipush 44, 2) := by decide +kernel
theorem dX9_isPatternWrong_60 : decode cX9_isPatternWrong 60 = .ok (.if_icmp .ne 7, 3) := by decide +kernel
theorem dX9_isPatternWrong_63 : decode cX9_isPatternWrong 63 = .ok (.iconst 1, 1) := by decide +kernel
theorem dX9_isPatternWrong_64 : decode cX9_isPatternWrong 64 = .ok (.goto 4, 3) := by decide +kernel
theorem dX9_isPatternWrong_67 : decode cX9_isPatternWrong 67 = .ok (.iconst 0, 1) := by decide +kernel
theorem dX9_isPatternWrong_68 : decode cX9_isPatternWrong 68 = .ok (.bastore, 1) := by decide +kernel
theorem dX9_isPatternWrong_69 : decode cX9_isPatternWrong 69 = .ok (.aload_n 0, 1) := by decide +kernel
theorem dX9_isPatternWrong_70 : decode cX9_isPatternWrong 70 = .ok (.dup, 1) := by decide +kernel
theorem dX9_isPatternWrong_71 : decode cX9_isPatternWrong 71 = .ok (.getfield 190, 3) := by decide +kernel
theorem dX9_isPatternWrong_74 : decode cX9_isPatternWrong 74 = .ok (.iconst 1, 1) := by decide +kernel
theorem dX9_isPatternWrong_75 : decode cX9_isPatternWrong 75 = .ok (.iadd, 1) := by decide +kernel
theorem dX9_isPatternWrong_76 : decode cX9_isPatternWrong 76 = .ok (.putfield 190, 3) := by decide +kernel
theorem dX9_isPatternWrong_79 : decode cX9_isPatternWrong 79 = .ok (.aload_n 0, 1) := by decide +kernel
theorem dX9_isPatternWrong_80 : decode cX9_isPatternWrong 80 = .ok (.invokevirtual 310, 3) := by decide +kernel
theorem dX9_isPatternWrong_83 : decode cX9_isPatternWrong 83 = .ok (.goto (-70), 3) := by decide +kernel
theorem dX9_isPatternWrong_86 : decode cX9_isPatternWrong 86 = .ok (.aload_n 0, 1) := by decide +kernel
theorem dX9_isPatternWrong_87 : decode cX9_isPatternWrong 87 = .ok (.invokevirtual 240, 3) := by decide +kernel
theorem dX9_isPatternWrong_90 : decode cX9_isPatternWrong 90 = .ok (.ireturn, 1) := by decide +kernel
theorem dX9_search_0 : decode cX9_search 0 = .ok (.aload_n 0, 1) := by decide +kernel
theorem dX9_search_1 : decode cX9_search 1 = .ok (.aload_n 0, 1) := by decide +kernel
theorem dX9_search_2 : decode cX9_search 2 = .ok (.invokevirtual 313, 3) := by decide +kernel
theorem dX9_search_5 : decode cX9_search 5 = .ok (.ifCond .eq 7, 3) := by decide +kernel
theorem dX9_search_8 : decode cX9_search 8 = .ok (.iconst 1, 1) := by decide +kernel
theorem dX9_search_9 : decode cX9_search 9 = .ok (.goto 4, 3) := by decide +kernel
theorem dX9_search_12 : decode cX9_search 12 = .ok (.iconst 0, 1) := by decide +kernel
theorem dX9_search_13 : decode cX9_search 13 = .ok (.putfield 97, 3) := by decide +kernel
theorem dX9_search_16 : decode cX9_search 16 = .ok (.aload_n 0, 1) := by decide +kernel
theorem dX9_search_17 : decode cX9_search 17 = .ok (.getfield 97, 3) := by decide +kernel
theorem dX9_search_20 : decode cX9_search 20 = .ok (.ifCond .le 5, 3) := by decide +kernel
theorem dX9_search_23 : decode cX9_search 23 = .ok (.iconst 0, 1) := by decide +kernel
theorem dX9_search_24 : decode cX9_search 24 = .ok (.ireturn, 1) := by decide +kernel
theorem dX9_search_25 : decode cX9_search 25 = .ok (.aload_n 0, 1) := by decide +kernel
theorem dX9_search_26 : decode cX9_search 26 = .ok (.aload_n 0, 1) := by decide +kernel
theorem dX9_search_27 : decode cX9_search 27 = .ok (.getfield 307, 3) := by decide +kernel
theorem dX9_search_30 : decode cX9_search 30 = .ok (.putfield 107, 3) := by decide +kernel
theorem dX9_search_33 : decode cX9_search 33 = .ok (.iconst 0, 1) := by decide +kernel
theorem dX9_search_34 : decode cX9_search 34 = .ok (.istore_n 1, 1) := by decide +kernel
theorem dX9_search_35 : decode cX9_search 35 = .ok (.iload_n 1, 1) := by decide +kernel
theorem dX9_search_36 : decode cX9_search 36 = .ok (.aload_n 0, 1) := by decide +kernel
theorem dX9_search_37 : decode cX9_search 37 = .ok (.getfield 107, 3) := by decide +kernel
theorem dX9_search_40 : decode cX9_search 40 = .ok (.if_icmp .ge 61, 3) := by decide +kernel
theorem dX9_search_43 : decode cX9_search 43 = .ok (.aload_n 0, 1) := by decide +kernel
theorem dX9_search_44 : decode cX9_search 44 = .ok (.getfield 36, 3) := by decide +kernel
theorem dX9_search_47 : decode cX9_search 47 = .ok (.iload_n 1, 1) := by decide +kernel
theorem dX9_search_48 : decode cX9_search 48 = .ok (.aload_n 0, 1) := by decide +kernel
theorem dX9_search_49 : decode cX9_search 49 = .ok (.getfield 49, 3) := by decide +kernel
theorem dX9_search_52 : decode cX9_search 52 = .ok (.iload_n 1, 1) := by decide +kernel
theorem dX9_search_53 : decode cX9_search 53 = .ok (.iaload, 1) := by decide +kernel
theorem dX9_search_54 : decode cX9_search 54 = .ok (.iastore, 1) := by decide +kernel
theorem dX9_search_55 : decode cX9_search 55 = .ok (.aload_n 0, 1) := by decide +kernel
theorem dX9_search_56 : decode cX9_search 56 = .ok (.getfield 39, 3) := by decide +kernel
theorem dX9_search_59 : decode cX9_search 59 = .ok (.iload_n 1, 1) := by decide +kernel
theorem dX9_search_60 : decode cX9_search 60 = .ok (.aload_n 0, 1) := by decide +kernel
theorem dX9_search_61 : decode cX9_search 61 = .ok (.aload_n 0, 1) := by decide +kernel
theorem dX9_search_62 : decode cX9_search 62 = .ok (.getfield 49, 3) := by decide +kernel
theorem dX9_search_65 : decode cX9_search 65 = .ok (.iload_n 1, 1) := by decide +kernel
theorem dX9_search_66 : decode cX9_search 66 = .ok (.iaload, 1) := by decide +kernel
theorem dX9_search_67 : decode cX9_search 67 = .ok (.invokevirtual 233, 3) := by decide +kernel
theorem dX9_search_70 : decode cX9_search 70 = .ok (.iastore, 1) := by decide +kernel
theorem dX9_search_71 : decode cX9_search 71 = .ok (.aload_n 0, 1) := by decide +kernel
theorem dX9_search_72 : decode cX9_search 72 = .ok (.getfield 42, 3) := by decide +kernel
theorem dX9_search_75 : decode cX9_search 75 = .ok (.iload_n 1, 1) := by decide +kernel
theorem dX9_search_76 : decode cX9_search 76 = .ok (.aload_n 0, 1) := by decide +kernel
theorem dX9_search_77 : decode cX9_search 77 = .ok (.getfield 52, 3) := by decide +kernel
theorem dX9_search_80 : decode cX9_search 80 = .ok (.iload_n 1, 1) := by decide +kernel
theorem dX9_search_81 : decode cX9_search 81 = .ok (.laload, 1) := by decide +kernel
theorem dX9_search_82 : decode cX9_search 82 = .ok (.lastore, 1) := by decide +kernel
theorem dX9_search_83 : decode cX9_search 83 = .ok (.aload_n 0, 1) := by decide +kernel
theorem dX9_search_84 : decode cX9_search 84 = .ok (.getfield 45, 3) := by decide +kernel
theorem dX9_search_87 : decode cX9_search 87 = .ok (.iload_n 1, 1) := by decide +kernel
theorem dX9_search_88 : decode cX9_search 88 = .ok (.aload_n 0, 1) := by decide +kernel
theorem dX9_search_89 : decode cX9_search 89 = .ok (.getfield 55, 3) := by decide +kernel
theorem dX9_search_92 : decode cX9_search 92 = .ok (.iload_n 1, 1) := by decide +kernel
theorem dX9_search_93 : decode cX9_search 93 = .ok (.baload, 1) := by decide +kernel
theorem dX9_search_94 : decode cX9_search 94 = .ok (.bastore, 1) := by decide +kernel
theorem dX9_search_95 : decode cX9_search 95 = .ok (.iinc 1 1, 3) := by decide +kernel
theorem dX9_search_98 : decode cX9_search 98 = .ok (.goto (-63), 3) := by decide +kernel
theorem dX9_search_101 : decode cX9_search 101 = .ok (.aload_n 0, 1) := by decide +kernel
theorem dX9_search_102 : decode cX9_search 102 = .ok (.iconst 0, 1) := by decide +kernel
theorem dX9_search_103 : decode cX9_search 103 = .ok (.putfield 316, 3) := by decide +kernel
theorem dX9_search_106 : decode cX9_search 106 = .ok (.aload_n 0, 1) := by decide +kernel
theorem dX9_search_107 : decode cX9_search 107 = .ok (.iconst (-1), 1) := by decide +kernel
theorem dX9_search_108 : decode cX9_search 108 = .ok (.putfield 319, 3) := by decide +kernel
theorem dX9_search_111 : decode cX9_search 111 = .ok (.aload_n 0, 1) := by decide +kernel
theorem dX9_search_112 : decode cX9_search 112 = .ok (.iconst 0, 1) := by decide +kernel
theorem dX9_search_113 : decode cX9_search 113 = .ok (.invokevirtual 322, 3) := by decide +kernel
theorem dX9_search_116 : decode cX9_search 116 = .ok (.aload_n 0, 1) := by decide +kernel
theorem dX9_search_117 : decode cX9_search 117 = .ok (.getfield 316, 3) := by decide +kernel
theorem dX9_search_120 : decode cX9_search 120 = .ok (.ireturn, 1) := by decide +kernel
theorem dX9_isFitting_0 : decode cX9_isFitting 0 = .ok (.aload_n 0, 1) := by decide +kernel
theorem dX9_isFitting_1 : decode cX9_isFitting 1 = .ok (.getfield 36, 3) := by decide +kernel
theorem dX9_isFitting_4 : decode cX9_isFitting 4 = .ok (.iload_n 1, 1) := by decide +kernel
theorem dX9_isFitting_5 : decode cX9_isFitting 5 = .ok (.iaload, 1) := by decide +kernel
theorem dX9_isFitting_6 : decode cX9_isFitting 6 = .ok (.istore_n 3, 1) := by decide +kernel
theorem dX9_isFitting_7 : decode cX9_isFitting 7 = .ok (.aload_n 0, 1) := by decide +kernel
theorem dX9_isFitting_8 : decode cX9_isFitting 8 = .ok (.iload_n 3, 1) := by decide +kernel
theorem dX9_isFitting_9 : decode cX9_isFitting 9 = .ok (.iload_n 2, 1) := by decide +kernel
theorem dX9_isFitting_10 : decode cX9_isFitting 10 = .ok (.invokevirtual 177, 3) := by decide +kernel
theorem dX9_isFitting_13 : decode cX9_isFitting 13 = .ok (.lstore 4, 2) := by decide +kernel
theorem dX9_isFitting_15 : decode cX9_isFitting 15 = .ok (.aload_n 0, 1) := by decide +kernel
theorem dX9_isFitting_16 : decode cX9_isFitting 16 = .ok (.getfield 42, 3) := by decide +kernel
theorem dX9_isFitting_19 : decode cX9_isFitting 19 = .ok (.iload_n 1, 1) := by decide +kernel
theorem dX9_isFitting_20 : decode cX9_isFitting 20 = .ok (.laload, 1) := by decide +kernel
theorem dX9_isFitting_21 : decode cX9_isFitting 21 = .ok (.lconst 0, 1) := by decide +kernel
theorem dX9_isFitting_22 : decode cX9_isFitting 22 = .ok (.lcmp, 1) := by decide +kernel
theorem dX9_isFitting_23 : decode cX9_isFitting 23 = .ok (.ifCond .eq 34, 3) := by decide +kernel
theorem dX9_isFitting_26 : decode cX9_isFitting 26 = .ok (.lload 4, 2) := by decide +kernel
theorem dX9_isFitting_28 : decode cX9_isFitting 28 = .ok (.aload_n 0, 1) := by decide +kernel
theorem dX9_isFitting_29 : decode cX9_isFitting 29 = .ok (.getfield 42, 3) := by decide +kernel
theorem dX9_isFitting_32 : decode cX9_isFitting 32 = .ok (.iload_n 1, 1) := by decide +kernel
theorem dX9_isFitting_33 : decode cX9_isFitting 33 = .ok (.laload, 1) := by decide +kernel
theorem dX9_isFitting_34 : decode cX9_isFitting 34 = .ok (.lcmp, 1) := by decide +kernel
theorem dX9_isFitting_35 : decode cX9_isFitting 35 = .ok (.ifCond .eq 22, 3) := by decide +kernel
theorem dX9_isFitting_38 : decode cX9_isFitting 38 = .ok (.aload_n 0, 1) := by decide +kernel
theorem dX9_isFitting_39 : decode cX9_isFitting 39 = .ok (.getfield 39, 3) := by decide +kernel
theorem dX9_isFitting_42 : decode cX9_isFitting 42 = .ok (.iload_n 1, 1) := by decide +kernel
theorem dX9_isFitting_43 : decode cX9_isFitting 43 = .ok (.iaload, 1) := by decide +kernel
theorem dX9_isFitting_44 : decode cX9_isFitting 44 = .ok (.iconst 1, 1) := by decide +kernel
theorem dX9_isFitting_45 : decode cX9_isFitting 45 = .ok (.if_icmp .ne 16, 3) := by decide +kernel
theorem dX9_isFitting_48 : decode cX9_isFitting 48 = .ok (.lload 4, 2) := by decide +kernel
theorem dX9_isFitting_50 : decode cX9_isFitting 50 = .ok (.ldc2_w 325, 3) := by decide +kernel
theorem dX9_isFitting_53 : decode cX9_isFitting 53 = .ok (.lcmp, 1) := by decide +kernel
theorem dX9_isFitting_54 : decode cX9_isFitting 54 = .ok (.ifCond .ne 7, 3) := by decide +kernel
theorem dX9_isFitting_57 : decode cX9_isFitting 57 = .ok (.iconst 1, 1) := by decide +kernel
theorem dX9_isFitting_58 : decode cX9_isFitting 58 = .ok (.goto 4, 3) := by decide +kernel
theorem dX9_isFitting_61 : decode cX9_isFitting 61 = .ok (.iconst 0, 1) := by decide +kernel
theorem dX9_isFitting_62 : decode cX9_isFitting 62 = .ok (.ireturn, 1) := by decide +kernel
theorem dX9_isLinked_0 : decode cX9_isLinked 0 = .ok (.iload_n 1, 1) := by decide +kernel
theorem dX9_isLinked_1 : decode cX9_isLinked 1 = .ok (.ifCond .ne 5, 3) := by decide +kernel
theorem dX9_isLinked_4 : decode cX9_isLinked 4 = .ok (.iconst 1, 1) := by decide +kernel
theorem dX9_isLinked_5 : decode cX9_isLinked 5 = .ok (.ireturn, 1) := by decide +kernel
theorem dX9_isLinked_6 : decode cX9_isLinked 6 = .ok (.aload_n 0, 1) := by decide +kernel
theorem dX9_isLinked_7 : decode cX9_isLinked 7 = .ok (.aload_n 0, 1) := by decide +kernel
theorem dX9_isLinked_8 : decode cX9_isLinked 8 = .ok (.getfield 36, 3) := by decide +kernel
theorem dX9_isLinked_11 : decode cX9_isLinked 11 = .ok (.iload_n 1, 1) := by decide +kernel
theorem dX9_isLinked_12 : decode cX9_isLinked 12 = .ok (.iaload, 1) := by decide +kernel
theorem dX9_isLinked_13 : decode cX9_isLinked 13 = .ok (.iload_n 2, 1) := by decide +kernel
theorem dX9_isLinked_14 : decode cX9_isLinked 14 = .ok (.invokevirtual 155, 3) := by decide +kernel
theorem dX9_isLinked_17 : decode cX9_isLinked 17 = .ok (.istore_n 3, 1) := by decide +kernel
theorem dX9_isLinked_18 : decode cX9_isLinked 18 = .ok (.aload_n 0, 1) := by decide +kernel
theorem dX9_isLinked_19 : decode cX9_isLinked 19 = .ok (.aload_n 0, 1) := by decide +kernel
theorem dX9_isLinked_20 : decode cX9_isLinked 20 = .ok (.getfield 36, 3) := by decide +kernel
theorem dX9_isLinked_23 : decode cX9_isLinked 23 = .ok (.iload_n 1, 1) := by decide +kernel
theorem dX9_isLinked_24 : decode cX9_isLinked 24 = .ok (.iaload, 1) := by decide +kernel
theorem dX9_isLinked_25 : decode cX9_isLinked 25 = .ok (.iload_n 2, 1) := by decide +kernel
theorem dX9_isLinked_26 : decode cX9_isLinked 26 = .ok (.invokevirtual 164, 3) := by decide +kernel
theorem dX9_isLinked_29 : decode cX9_isLinked 29 = .ok (.istore 4, 2) := by decide +kernel
theorem dX9_isLinked_31 : decode cX9_isLinked 31 = .ok (.aload_n 0, 1) := by decide +kernel
theorem dX9_isLinked_32 : decode cX9_isLinked 32 = .ok (.aload_n 0, 1) := by decide +kernel
theorem dX9_isLinked_33 : decode cX9_isLinked 33 = .ok (.getfield 36, 3) := by decide +kernel
theorem dX9_isLinked_36 : decode cX9_isLinked 36 = .ok (.iload_n 1, 1) := by decide +kernel
theorem dX9_isLinked_37 : decode cX9_isLinked 37 = .ok (.iconst 1, 1) := by decide +kernel
theorem dX9_isLinked_38 : decode cX9_isLinked 38 = .ok (.isub, 1) := by decide +kernel
theorem dX9_isLinked_39 : decode cX9_isLinked 39 = .ok (.iaload, 1) := by decide +kernel
theorem dX9_isLinked_40 : decode cX9_isLinked 40 = .ok (.aload_n 0, 1) := by decide +kernel
theorem dX9_isLinked_41 : decode cX9_isLinked 41 = .ok (.getfield 58, 3) := by decide +kernel
theorem dX9_isLinked_44 : decode cX9_isLinked 44 = .ok (.iload_n 1, 1) := by decide +kernel
theorem dX9_isLinked_45 : decode cX9_isLinked 45 = .ok (.iconst 1, 1) := by decide +kernel
theorem dX9_isLinked_46 : decode cX9_isLinked 46 = .ok (.isub, 1) := by decide +kernel
theorem dX9_isLinked_47 : decode cX9_isLinked 47 = .ok (.iaload, 1) := by decide +kernel
theorem dX9_isLinked_48 : decode cX9_isLinked 48 = .ok (.invokevirtual 155, 3) := by decide +kernel
theorem dX9_isLinked_51 : decode cX9_isLinked 51 = .ok (.istore 5, 2) := by decide +kernel
theorem dX9_isLinked_53 : decode cX9_isLinked 53 = .ok (.aload_n 0, 1) := by decide +kernel
theorem dX9_isLinked_54 : decode cX9_isLinked 54 = .ok (.aload_n 0, 1) := by decide +kernel
theorem dX9_isLinked_55 : decode cX9_isLinked 55 = .ok (.getfield 36, 3) := by decide +kernel
theorem dX9_isLinked_58 : decode cX9_isLinked 58 = .ok (.iload_n 1, 1) := by decide +kernel
theorem dX9_isLinked_59 : decode cX9_isLinked 59 = .ok (.iconst 1, 1) := by decide +kernel
theorem dX9_isLinked_60 : decode cX9_isLinked 60 = .ok (.isub, 1) := by decide +kernel
theorem dX9_isLinked_61 : decode cX9_isLinked 61 = .ok (.iaload, 1) := by decide +kernel
theorem dX9_isLinked_62 : decode cX9_isLinked 62 = .ok (.aload_n 0, 1) := by decide +kernel
theorem dX9_isLinked_63 : decode cX9_isLinked 63 = .ok (.getfield 58, 3) := by decide +kernel
theorem dX9_isLinked_66 : decode cX9_isLinked 66 = .ok (.iload_n 1, 1) := by decide +kernel
theorem dX9_isLinked_67 : decode cX9_isLinked 67 = .ok (.iconst 1, 1) := by decide +kernel
theorem dX9_isLinked_68 : decode cX9_isLinked 68 = .ok (.isub, 1) := by decide +kernel
theorem dX9_isLinked_69 : decode cX9_isLinked 69 = .ok (.iaload, 1) := by decide +kernel
theorem dX9_isLinked_70 : decode cX9_isLinked 70 = .ok (.invokevirtual 164, 3) := by decide +kernel
theorem dX9_isLinked_73 : decode cX9_isLinked 73 = .ok (.istore 6, 2) := by decide +kernel
theorem dX9_isLinked_75 : decode cX9_isLinked 75 = .ok (.aload_n 0, 1) := by decide +kernel
theorem dX9_isLinked_76 : decode cX9_isLinked 76 = .ok (.getfield 45, 3) := by decide +kernel
theorem dX9_isLinked_79 : decode cX9_isLinked 79 = .ok (.iload_n 1, 1) := by decide +kernel
theorem dX9_isLinked_80 : decode cX9_isLinked 80 = .ok (.baload, 1) := by decide +kernel
theorem dX9_isLinked_81 : decode cX9_isLinked 81 = .ok (.ifCond .eq 32, 3) := by decide +kernel
theorem dX9_isLinked_84 : decode cX9_isLinked 84 = .ok (.iload_n 3, 1) := by decide +kernel
theorem dX9_isLinked_85 : decode cX9_isLinked 85 = .ok (.iload 6, 2) := by decide +kernel
theorem dX9_isLinked_87 : decode cX9_isLinked 87 = .ok (.if_icmp .lt 22, 3) := by decide +kernel
theorem dX9_isLinked_90 : decode cX9_isLinked 90 = .ok (.iload_n 3, 1) := by decide +kernel
theorem dX9_isLinked_91 : decode cX9_isLinked 91 = .ok (.iload 6, 2) := by decide +kernel
theorem dX9_isLinked_93 : decode cX9_isLinked 93 = .ok (.isub, 1) := by decide +kernel
theorem dX9_isLinked_94 : decode cX9_isLinked 94 = .ok (.i2l, 1) := by decide +kernel
theorem dX9_isLinked_95 : decode cX9_isLinked 95 = .ok (.aload_n 0, 1) := by decide +kernel
theorem dX9_isLinked_96 : decode cX9_isLinked 96 = .ok (.getfield 9, 3) := by decide +kernel
theorem dX9_isLinked_99 : decode cX9_isLinked 99 = .ok (.iconst 3, 1) := by decide +kernel
theorem dX9_isLinked_100 : decode cX9_isLinked 100 = .ok (.laload, 1) := by decide +kernel
theorem dX9_isLinked_101 : decode cX9_isLinked 101 = .ok (.lcmp, 1) := by decide +kernel
theorem dX9_isLinked_102 : decode cX9_isLinked 102 = .ok (.ifCond .gt 7, 3) := by decide +kernel
theorem dX9_isLinked_105 : decode cX9_isLinked 105 = .ok (.iconst 1, 1) := by decide +kernel
theorem dX9_isLinked_106 : decode cX9_isLinked 106 = .ok (.goto 25, 3) := by decide +kernel
theorem dX9_isLinked_109 : decode cX9_isLinked 109 = .ok (.iconst 0, 1) := by decide +kernel
theorem dX9_isLinked_110 : decode cX9_isLinked 110 = .ok (.goto 21, 3) := by decide +kernel
theorem dX9_isLinked_113 : decode cX9_isLinked 113 = .ok (.iload_n 3, 1) := by decide +kernel
theorem dX9_isLinked_114 : decode cX9_isLinked 114 = .ok (.iload 6, 2) := by decide +kernel
theorem dX9_isLinked_116 : decode cX9_isLinked 116 = .ok (.if_icmp .ge 14, 3) := by decide +kernel
theorem dX9_isLinked_119 : decode cX9_isLinked 119 = .ok (.iload 5, 2) := by decide +kernel
theorem dX9_isLinked_121 : decode cX9_isLinked 121 = .ok (.iload 4, 2) := by decide +kernel
theorem dX9_isLinked_123 : decode cX9_isLinked 123 = .ok (.if_icmp .ge 7, 3) := by decide +kernel
theorem dX9_isLinked_126 : decode cX9_isLinked 126 = .ok (.iconst 1, 1) := by decide +kernel
theorem dX9_isLinked_127 : decode cX9_isLinked 127 = .ok (.goto 4, 3) := by decide +kernel
theorem dX9_isLinked_130 : decode cX9_isLinked 130 = .ok (.iconst 0, 1) := by decide +kernel
theorem dX9_isLinked_131 : decode cX9_isLinked 131 = .ok (.ireturn, 1) := by decide +kernel
theorem dX9_match_0 : decode cX9_match 0 = .ok (.iload_n 1, 1) := by decide +kernel
theorem dX9_match_1 : decode cX9_match 1 = .ok (.aload_n 0, 1) := by decide +kernel
theorem dX9_match_2 : decode cX9_match 2 = .ok (.getfield 107, 3) := by decide +kernel
theorem dX9_match_5 : decode cX9_match 5 = .ok (.if_icmp .ne 39, 3) := by decide +kernel
theorem dX9_match_8 : decode cX9_match 8 = .ok (.aload_n 0, 1) := by decide +kernel
theorem dX9_match_9 : decode cX9_match 9 = .ok (.getfield 316, 3) := by decide +kernel
theorem dX9_match_12 : decode cX9_match 12 = .ok (.aload_n 0, 1) := by decide +kernel
theorem dX9_match_13 : decode cX9_match 13 = .ok (.getfield 319, 3) := by decide +kernel
theorem dX9_match_16 : decode cX9_match 16 = .ok (.if_icmp .ne 17, 3) := by decide +kernel
theorem dX9_match_19 : decode cX9_match 19 = .ok (.aload_n 0, 1) := by decide +kernel
theorem dX9_match_20 : decode cX9_match 20 = .ok (.getfield 58, 3) := by decide +kernel
theorem dX9_match_23 : decode cX9_match 23 = .ok (.iconst 0, 1) := by decide +kernel
theorem dX9_match_24 : decode cX9_match 24 = .ok (.aload_n 0, 1) := by decide +kernel
theorem dX9_match_25 : decode cX9_match 25 = .ok (.getfield 61, 3) := by decide +kernel
theorem dX9_match_28 : decode cX9_match 28 = .ok (.iconst 0, 1) := by decide +kernel
theorem dX9_match_29 : decode cX9_match 29 = .ok (.iconst 4, 1) := by decide +kernel
theorem dX9_match_30 : decode cX9_match 30 = .ok (.invokestatic 110, 3) := by decide +kernel
theorem dX9_match_33 : decode cX9_match 33 = .ok (.aload_n 0, 1) := by decide +kernel
theorem dX9_match_34 : decode cX9_match 34 = .ok (.dup, 1) := by decide +kernel
theorem dX9_match_35 : decode cX9_match 35 = .ok (.getfield 316, 3) := by decide +kernel
theorem dX9_match_38 : decode cX9_match 38 = .ok (.iconst 1, 1) := by decide +kernel
theorem dX9_match_39 : decode cX9_match 39 = .ok (.iadd, 1) := by decide +kernel
theorem dX9_match_40 : decode cX9_match 40 = .ok (.putfield 316, 3) := by decide +kernel
theorem dX9_match_43 : decode cX9_match 43 = .ok (.return_, 1) := by decide +kernel
theorem dX9_match_44 : decode cX9_match 44 = .ok (.aload_n 0, 1) := by decide +kernel
theorem dX9_match_45 : decode cX9_match 45 = .ok (.getfield 36, 3) := by decide +kernel
theorem dX9_match_48 : decode cX9_match 48 = .ok (.iload_n 1, 1) := by decide +kernel
theorem dX9_match_49 : decode cX9_match 49 = .ok (.iaload, 1) := by decide +kernel
theorem dX9_match_50 : decode cX9_match 50 = .ok (.istore_n 2, 1) := by decide +kernel
theorem dX9_match_51 : decode cX9_match 51 = .ok (.aload_n 0, 1) := by decide +kernel
theorem dX9_match_52 : decode cX9_match 52 = .ok (.iload_n 2, 1) := by decide +kernel
theorem dX9_match_53 : decode cX9_match 53 = .ok (.invokevirtual 130, 3) := by decide +kernel
theorem dX9_match_56 : decode cX9_match 56 = .ok (.ifCond .eq 21, 3) := by decide +kernel
theorem dX9_match_59 : decode cX9_match 59 = .ok (.aload_n 0, 1) := by decide +kernel
theorem dX9_match_60 : decode cX9_match 60 = .ok (.iload_n 2, 1) := by decide +kernel
theorem dX9_match_61 : decode cX9_match 61 = .ok (.invokevirtual 233, 3) := by decide +kernel
theorem dX9_match_64 : decode cX9_match 64 = .ok (.aload_n 0, 1) := by decide +kernel
theorem dX9_match_65 : decode cX9_match 65 = .ok (.getfield 39, 3) := by decide +kernel
theorem dX9_match_68 : decode cX9_match 68 = .ok (.iload_n 1, 1) := by decide +kernel
theorem dX9_match_69 : decode cX9_match 69 = .ok (.iaload, 1) := by decide +kernel
theorem dX9_match_70 : decode cX9_match 70 = .ok (.if_icmp .ne 7, 3) := by decide +kernel
theorem dX9_match_73 : decode cX9_match 73 = .ok (.iconst 1, 1) := by decide +kernel
theorem dX9_match_74 : decode cX9_match 74 = .ok (.goto 4, 3) := by decide +kernel
theorem dX9_match_77 : decode cX9_match 77 = .ok (.iconst 0, 1) := by decide +kernel
theorem dX9_match_78 : decode cX9_match 78 = .ok (.istore_n 3, 1) := by decide +kernel
theorem dX9_match_79 : decode cX9_match 79 = .ok (.iconst 0, 1) := by decide +kernel
theorem dX9_match_80 : decode cX9_match 80 = .ok (.istore 4, 2) := by decide +kernel
theorem dX9_match_82 : decode cX9_match 82 = .ok (.iload_n 3, 1) := by decide +kernel
theorem dX9_match_83 : decode cX9_match 83 = .ok (.ifCond .eq 64, 3) := by decide +kernel
theorem dX9_match_86 : decode cX9_match 86 = .ok (.iload 4, 2) := by decide +kernel
theorem dX9_match_88 : decode cX9_match 88 = .ok (.aload_n 0, 1) := by decide +kernel
theorem dX9_match_89 : decode cX9_match 89 = .ok (.iload_n 2, 1) := by decide +kernel
theorem dX9_match_90 : decode cX9_match 90 = .ok (.invokevirtual 149, 3) := by decide +kernel
theorem dX9_match_93 : decode cX9_match 93 = .ok (.if_icmp .ge 54, 3) := by decide +kernel
theorem dX9_match_96 : decode cX9_match 96 = .ok (.aload_n 0, 1) := by decide +kernel
theorem dX9_match_97 : decode cX9_match 97 = .ok (.getfield 316, 3) := by decide +kernel
theorem dX9_match_100 : decode cX9_match 100 = .ok (.sipush 1000, 3) := by decide +kernel
theorem dX9_match_103 : decode cX9_match 103 = .ok (.if_icmp .ge 44, 3) := by decide +kernel
theorem dX9_match_106 : decode cX9_match 106 = .ok (.aload_n 0, 1) := by decide +kernel
theorem dX9_match_107 : decode cX9_match 107 = .ok (.iload_n 1, 1) := by decide +kernel
theorem dX9_match_108 : decode cX9_match 108 = .ok (.iload 4, 2) := by decide +kernel
theorem dX9_match_110 : decode cX9_match 110 = .ok (.invokevirtual 327, 3) := by decide +kernel
theorem dX9_match_113 : decode cX9_match 113 = .ok (.ifCond .eq 28, 3) := by decide +kernel
theorem dX9_match_116 : decode cX9_match 116 = .ok (.aload_n 0, 1) := by decide +kernel
theorem dX9_match_117 : decode cX9_match 117 = .ok (.iload_n 1, 1) := by decide +kernel
theorem dX9_match_118 : decode cX9_match 118 = .ok (.iload 4, 2) := by decide +kernel
theorem dX9_match_120 : decode cX9_match 120 = .ok (.invokevirtual 330, 3) := by decide +kernel
theorem dX9_match_123 : decode cX9_match 123 = .ok (.ifCond .eq 18, 3) := by decide +kernel
theorem dX9_match_126 : decode cX9_match 126 = .ok (.aload_n 0, 1) := by decide +kernel
theorem dX9_match_127 : decode cX9_match 127 = .ok (.getfield 58, 3) := by decide +kernel
theorem dX9_match_130 : decode cX9_match 130 = .ok (.iload_n 1, 1) := by decide +kernel
theorem dX9_match_131 : decode cX9_match 131 = .ok (.iload 4, 2) := by decide +kernel
theorem dX9_match_133 : decode cX9_match 133 = .ok (.iastore, 1) := by decide +kernel
theorem dX9_match_134 : decode cX9_match 134 = .ok (.aload_n 0, 1) := by decide +kernel
theorem dX9_match_135 : decode cX9_match 135 = .ok (.iload_n 1, 1) := by decide +kernel
theorem dX9_match_136 : decode cX9_match 136 = .ok (.iconst 1, 1) := by decide +kernel
theorem dX9_match_137 : decode cX9_match 137 = .ok (.iadd, 1) := by decide +kernel
theorem dX9_match_138 : decode cX9_match 138 = .ok (.invokevirtual 322, 3) := by decide +kernel
theorem dX9_match_141 : decode cX9_match 141 = .ok (.iinc 4 1, 3) := by decide +kernel
theorem dX9_match_144 : decode cX9_match 144 = .ok (.goto (-62), 3) := by decide +kernel
theorem dX9_match_147 : decode cX9_match 147 = .ok (.return_, 1) := by decide +kernel
theorem dX9_match__0 : decode cX9_match_ 0 = .ok (.aload_n 0, 1) := by decide +kernel
theorem dX9_match__1 : decode cX9_match_ 1 = .ok (.aload_n 0, 1) := by decide +kernel
theorem dX9_match__2 : decode cX9_match_ 2 = .ok (.getfield 107, 3) := by decide +kernel
theorem dX9_match__5 : decode cX9_match_ 5 = .ok (.ifCond .ne 7, 3) := by decide +kernel
theorem dX9_match__8 : decode cX9_match_ 8 = .ok (.iconst 1, 1) := by decide +kernel
theorem dX9_match__9 : decode cX9_match_ 9 = .ok (.goto 33, 3) := by decide +kernel
theorem dX9_match__12 : decode cX9_match_ 12 = .ok (.iload_n 1, 1) := by decide +kernel
theorem dX9_match__13 : decode cX9_match_ 13 = .ok (.iconst 0, 1) := by decide +kernel
theorem dX9_match__14 : decode cX9_match_ 14 = .ok (.sipush 999, 3) := by decide +kernel
theorem dX9_match__17 : decode cX9_match_ 17 = .ok (.invokestatic 126, 3) := by decide +kernel
theorem dX9_match__20 : decode cX9_match_ 20 = .ok (.ifCond .eq 17, 3) := by decide +kernel
theorem dX9_match__23 : decode cX9_match_ 23 = .ok (.iload_n 2, 1) := by decide +kernel
theorem dX9_match__24 : decode cX9_match_ 24 = .ok (.iconst 0, 1) := by decide +kernel
theorem dX9_match__25 : decode cX9_match_ 25 = .ok (.aload_n 0, 1) := by decide +kernel
theorem dX9_match__26 : decode cX9_match_ 26 = .ok (.getfield 107, 3) := by decide +kernel
theorem dX9_match__29 : decode cX9_match_ 29 = .ok (.iconst 1, 1) := by decide +kernel
theorem dX9_match__30 : decode cX9_match_ 30 = .ok (.isub, 1) := by decide +kernel
theorem dX9_match__31 : decode cX9_match_ 31 = .ok (.invokestatic 126, 3) := by decide +kernel
theorem dX9_match__34 : decode cX9_match_ 34 = .ok (.ifCond .ne 7, 3) := by decide +kernel
theorem dX9_match__37 : decode cX9_match_ 37 = .ok (.iconst 2, 1) := by decide +kernel
theorem dX9_match__38 : decode cX9_match_ 38 = .ok (.goto 4, 3) := by decide +kernel
theorem dX9_match__41 : decode cX9_match_ 41 = .ok (.iconst 0, 1) := by decide +kernel
theorem dX9_match__42 : decode cX9_match_ 42 = .ok (.putfield 97, 3) := by decide +kernel
theorem dX9_match__45 : decode cX9_match_ 45 = .ok (.aload_n 0, 1) := by decide +kernel
theorem dX9_match__46 : decode cX9_match_ 46 = .ok (.getfield 97, 3) := by decide +kernel
theorem dX9_match__49 : decode cX9_match_ 49 = .ok (.ifCond .le 5, 3) := by decide +kernel
theorem dX9_match__52 : decode cX9_match_ 52 = .ok (.iconst 0, 1) := by decide +kernel
theorem dX9_match__53 : decode cX9_match_ 53 = .ok (.ireturn, 1) := by decide +kernel
theorem dX9_match__54 : decode cX9_match_ 54 = .ok (.aload_n 0, 1) := by decide +kernel
theorem dX9_match__55 : decode cX9_match_ 55 = .ok (.iconst 0, 1) := by decide +kernel
theorem dX9_match__56 : decode cX9_match_ 56 = .ok (.putfield 316, 3) := by decide +kernel
theorem dX9_match__59 : decode cX9_match_ 59 = .ok (.aload_n 0, 1) := by decide +kernel
theorem dX9_match__60 : decode cX9_match_ 60 = .ok (.iload_n 1, 1) := by decide +kernel
theorem dX9_match__61 : decode cX9_match_ 61 = .ok (.putfield 319, 3) := by decide +kernel
theorem dX9_match__64 : decode cX9_match_ 64 = .ok (.aload_n 0, 1) := by decide +kernel
theorem dX9_match__65 : decode cX9_match_ 65 = .ok (.iconst 0, 1) := by decide +kernel
theorem dX9_match__66 : decode cX9_match_ 66 = .ok (.invokevirtual 322, 3) := by decide +kernel
theorem dX9_match__69 : decode cX9_match_ 69 = .ok (.aload_n 0, 1) := by decide +kernel
theorem dX9_match__70 : decode cX9_match_ 70 = .ok (.aload_n 0, 1) := by decide +kernel
theorem dX9_match__71 : decode cX9_match_ 71 = .ok (.getfield 316, 3) := by decide +kernel
theorem dX9_match__74 : decode cX9_match_ 74 = .ok (.iload_n 1, 1) := by decide +kernel
theorem dX9_match__75 : decode cX9_match_ 75 = .ok (.if_icmp .gt 7, 3) := by decide +kernel
theorem dX9_match__78 : decode cX9_match_ 78 = .ok (.iconst 2, 1) := by decide +kernel
theorem dX9_match__79 : decode cX9_match_ 79 = .ok (.goto 4, 3) := by decide +kernel
theorem dX9_match__82 : decode cX9_match_ 82 = .ok (.iconst 0, 1) := by decide +kernel
theorem dX9_match__83 : decode cX9_match_ 83 = .ok (.putfield 97, 3) := by decide +kernel
theorem dX9_match__86 : decode cX9_match_ 86 = .ok (.aload_n 0, 1) := by decide +kernel
theorem dX9_match__87 : decode cX9_match_ 87 = .ok (.getfield 97, 3) := by decide +kernel
theorem dX9_match__90 : decode cX9_match_ 90 = .ok (.ifCond .le 7, 3) := by decide +kernel
theorem dX9_match__93 : decode cX9_match_ 93 = .ok (.iconst 0, 1) := by decide +kernel
theorem dX9_match__94 : decode cX9_match_ 94 = .ok (.goto 9, 3) := by decide +kernel
theorem dX9_match__97 : decode cX9_match_ 97 = .ok (.aload_n 0, 1) := by decide +kernel
theorem dX9_match__98 : decode cX9_match_ 98 = .ok (.getfield 61, 3) := by decide +kernel
theorem dX9_match__101 : decode cX9_match_ 101 = .ok (.iload_n 2, 1) := by decide +kernel
theorem dX9_match__102 : decode cX9_match_ 102 = .ok (.iaload, 1) := by decide +kernel
theorem dX9_match__103 : decode cX9_match_ 103 = .ok (.ireturn, 1) := by decide +kernel
theorem dX9_put_0 : decode cX9_put 0 = .ok (.aload_n 0, 1) := by decide +kernel
theorem dX9_put_1 : decode cX9_put 1 = .ok (.getfield 64, 3) := by decide +kernel
theorem dX9_put_4 : decode cX9_put 4 = .ok (.aload_n 0, 1) := by decide +kernel
theorem dX9_put_5 : decode cX9_put 5 = .ok (.getfield 333, 3) := by decide +kernel
theorem dX9_put_8 : decode cX9_put 8 = .ok (.iload_n 1, 1) := by decide +kernel
theorem dX9_put_9 : decode cX9_put 9 = .ok (.iastore, 1) := by decide +kernel
theorem dX9_put_10 : decode cX9_put 10 = .ok (.aload_n 0, 1) := by decide +kernel
theorem dX9_put_11 : decode cX9_put 11 = .ok (.getfield 67, 3) := by decide +kernel
theorem dX9_put_14 : decode cX9_put 14 = .ok (.aload_n 0, 1) := by decide +kernel
theorem dX9_put_15 : decode cX9_put 15 = .ok (.getfield 333, 3) := by decide +kernel
theorem dX9_put_18 : decode cX9_put 18 = .ok (.iload_n 2, 1) := by decide +kernel
theorem dX9_put_19 : decode cX9_put 19 = .ok (.iastore, 1) := by decide +kernel
theorem dX9_put_20 : decode cX9_put 20 = .ok (.aload_n 0, 1) := by decide +kernel
theorem dX9_put_21 : decode cX9_put 21 = .ok (.getfield 70, 3) := by decide +kernel
theorem dX9_put_24 : decode cX9_put 24 = .ok (.aload_n 0, 1) := by decide +kernel
theorem dX9_put_25 : decode cX9_put 25 = .ok (.getfield 333, 3) := by decide +kernel
theorem dX9_put_28 : decode cX9_put 28 = .ok (.lload_n 3, 1) := by decide +kernel
theorem dX9_put_29 : decode cX9_put 29 = .ok (.lastore, 1) := by decide +kernel
theorem dX9_put_30 : decode cX9_put 30 = .ok (.aload_n 0, 1) := by decide +kernel
theorem dX9_put_31 : decode cX9_put 31 = .ok (.getfield 73, 3) := by decide +kernel
theorem dX9_put_34 : decode cX9_put 34 = .ok (.aload_n 0, 1) := by decide +kernel
theorem dX9_put_35 : decode cX9_put 35 = .ok (.getfield 333, 3) := by decide +kernel
theorem dX9_put_38 : decode cX9_put 38 = .ok (.iconst 1, 1) := by decide +kernel
theorem dX9_put_39 : decode cX9_put 39 = .ok (.iload 5, 2) := by decide +kernel
theorem dX9_put_41 : decode cX9_put 41 = .ok (.ishl, 1) := by decide +kernel
theorem dX9_put_42 : decode cX9_put 42 = .ok (.iastore, 1) := by decide +kernel
theorem dX9_put_43 : decode cX9_put 43 = .ok (.aload_n 0, 1) := by decide +kernel
theorem dX9_put_44 : decode cX9_put 44 = .ok (.dup, 1) := by decide +kernel
theorem dX9_put_45 : decode cX9_put 45 = .ok (.getfield 333, 3) := by decide +kernel
theorem dX9_put_48 : decode cX9_put 48 = .ok (.iconst 1, 1) := by decide +kernel
theorem dX9_put_49 : decode cX9_put 49 = .ok (.iadd, 1) := by decide +kernel
theorem dX9_put_50 : decode cX9_put 50 = .ok (.putfield 333, 3) := by decide +kernel
theorem dX9_put_53 : decode cX9_put 53 = .ok (.return_, 1) := by decide +kernel
theorem dX9_mergeIn_0 : decode cX9_mergeIn 0 = .ok (.aload_n 0, 1) := by decide +kernel
theorem dX9_mergeIn_1 : decode cX9_mergeIn 1 = .ok (.getfield 333, 3) := by decide +kernel
theorem dX9_mergeIn_4 : decode cX9_mergeIn 4 = .ok (.iconst 1, 1) := by decide +kernel
theorem dX9_mergeIn_5 : decode cX9_mergeIn 5 = .ok (.isub, 1) := by decide +kernel
theorem dX9_mergeIn_6 : decode cX9_mergeIn 6 = .ok (.istore 6, 2) := by decide +kernel
theorem dX9_mergeIn_8 : decode cX9_mergeIn 8 = .ok (.iload 6, 2) := by decide +kernel
theorem dX9_mergeIn_10 : decode cX9_mergeIn 10 = .ok (.ifCond .lt 14, 3) := by decide +kernel
theorem dX9_mergeIn_13 : decode cX9_mergeIn 13 = .ok (.iload_n 1, 1) := by decide +kernel
theorem dX9_mergeIn_14 : decode cX9_mergeIn 14 = .ok (.aload_n 0, 1) := by decide +kernel
theorem dX9_mergeIn_15 : decode cX9_mergeIn 15 = .ok (.getfield 67, 3) := by decide +kernel
theorem dX9_mergeIn_18 : decode cX9_mergeIn 18 = .ok (.iload 6, 2) := by decide +kernel
theorem dX9_mergeIn_20 : decode cX9_mergeIn 20 = .ok (.iaload, 1) := by decide +kernel
theorem dX9_mergeIn_21 : decode cX9_mergeIn 21 = .ok (.if_icmp .lt 15, 3) := by decide +kernel
theorem dX9_mergeIn_24 : decode cX9_mergeIn 24 = .ok (.aload_n 0, 1) := by decide +kernel
theorem dX9_mergeIn_25 : decode cX9_mergeIn 25 = .ok (.iload_n 1, 1) := by decide +kernel
theorem dX9_mergeIn_26 : decode cX9_mergeIn 26 = .ok (.iload_n 2, 1) := by decide +kernel
theorem dX9_mergeIn_27 : decode cX9_mergeIn 27 = .ok (.lload_n 3, 1) := by decide +kernel
theorem dX9_mergeIn_28 : decode cX9_mergeIn 28 = .ok (.iload 5, 2) := by decide +kernel
theorem dX9_mergeIn_30 : decode cX9_mergeIn 30 = .ok (.invokevirtual 336, 3) := by decide +kernel
theorem dX9_mergeIn_33 : decode cX9_mergeIn 33 = .ok (.goto 99, 3) := by decide +kernel
theorem dX9_mergeIn_36 : decode cX9_mergeIn 36 = .ok (.aload_n 0, 1) := by decide +kernel
theorem dX9_mergeIn_37 : decode cX9_mergeIn 37 = .ok (.getfield 70, 3) := by decide +kernel
theorem dX9_mergeIn_40 : decode cX9_mergeIn 40 = .ok (.iload 6, 2) := by decide +kernel
theorem dX9_mergeIn_42 : decode cX9_mergeIn 42 = .ok (.laload, 1) := by decide +kernel
theorem dX9_mergeIn_43 : decode cX9_mergeIn 43 = .ok (.lload_n 3, 1) := by decide +kernel
theorem dX9_mergeIn_44 : decode cX9_mergeIn 44 = .ok (.lcmp, 1) := by decide +kernel
theorem dX9_mergeIn_45 : decode cX9_mergeIn 45 = .ok (.ifCond .ne 38, 3) := by decide +kernel
theorem dX9_mergeIn_48 : decode cX9_mergeIn 48 = .ok (.aload_n 0, 1) := by decide +kernel
theorem dX9_mergeIn_49 : decode cX9_mergeIn 49 = .ok (.getfield 67, 3) := by decide +kernel
theorem dX9_mergeIn_52 : decode cX9_mergeIn 52 = .ok (.iload 6, 2) := by decide +kernel
theorem dX9_mergeIn_54 : decode cX9_mergeIn 54 = .ok (.aload_n 0, 1) := by decide +kernel
theorem dX9_mergeIn_55 : decode cX9_mergeIn 55 = .ok (.getfield 67, 3) := by decide +kernel
theorem dX9_mergeIn_58 : decode cX9_mergeIn 58 = .ok (.iload 6, 2) := by decide +kernel
theorem dX9_mergeIn_60 : decode cX9_mergeIn 60 = .ok (.iaload, 1) := by decide +kernel
theorem dX9_mergeIn_61 : decode cX9_mergeIn 61 = .ok (.iload_n 2, 1) := by decide +kernel
theorem dX9_mergeIn_62 : decode cX9_mergeIn 62 = .ok (.invokestatic 340, 3) := by decide +kernel
theorem dX9_mergeIn_65 : decode cX9_mergeIn 65 = .ok (.iastore, 1) := by decide +kernel
theorem dX9_mergeIn_66 : decode cX9_mergeIn 66 = .ok (.aload_n 0, 1) := by decide +kernel
theorem dX9_mergeIn_67 : decode cX9_mergeIn 67 = .ok (.getfield 73, 3) := by decide +kernel
theorem dX9_mergeIn_70 : decode cX9_mergeIn 70 = .ok (.iload 6, 2) := by decide +kernel
theorem dX9_mergeIn_72 : decode cX9_mergeIn 72 = .ok (.dup2, 1) := by decide +kernel
theorem dX9_mergeIn_73 : decode cX9_mergeIn 73 = .ok (.iaload, 1) := by decide +kernel
theorem dX9_mergeIn_74 : decode cX9_mergeIn 74 = .ok (.iconst 1, 1) := by decide +kernel
theorem dX9_mergeIn_75 : decode cX9_mergeIn 75 = .ok (.iload 5, 2) := by decide +kernel
theorem dX9_mergeIn_77 : decode cX9_mergeIn 77 = .ok (.ishl, 1) := by decide +kernel
theorem dX9_mergeIn_78 : decode cX9_mergeIn 78 = .ok (.ior, 1) := by decide +kernel
theorem dX9_mergeIn_79 : decode cX9_mergeIn 79 = .ok (.iastore, 1) := by decide +kernel
theorem dX9_mergeIn_80 : decode cX9_mergeIn 80 = .ok (.goto 52, 3) := by decide +kernel
theorem dX9_mergeIn_83 : decode cX9_mergeIn 83 = .ok (.aload_n 0, 1) := by decide +kernel
theorem dX9_mergeIn_84 : decode cX9_mergeIn 84 = .ok (.dup, 1) := by decide +kernel
theorem dX9_mergeIn_85 : decode cX9_mergeIn 85 = .ok (.getfield 343, 3) := by decide +kernel
theorem dX9_mergeIn_88 : decode cX9_mergeIn 88 = .ok (.iconst 1, 1) := by decide +kernel
theorem dX9_mergeIn_89 : decode cX9_mergeIn 89 = .ok (.iadd, 1) := by decide +kernel
theorem dX9_mergeIn_90 : decode cX9_mergeIn 90 = .ok (.putfield 343, 3) := by decide +kernel
theorem dX9_mergeIn_93 : decode cX9_mergeIn 93 = .ok (.iload_n 2, 1) := by decide +kernel
theorem dX9_mergeIn_94 : decode cX9_mergeIn 94 = .ok (.aload_n 0, 1) := by decide +kernel
theorem dX9_mergeIn_95 : decode cX9_mergeIn 95 = .ok (.getfield 67, 3) := by decide +kernel
theorem dX9_mergeIn_98 : decode cX9_mergeIn 98 = .ok (.iload 6, 2) := by decide +kernel
theorem dX9_mergeIn_100 : decode cX9_mergeIn 100 = .ok (.iaload, 1) := by decide +kernel
theorem dX9_mergeIn_101 : decode cX9_mergeIn 101 = .ok (.if_icmp .le 21, 3) := by decide +kernel
theorem dX9_mergeIn_104 : decode cX9_mergeIn 104 = .ok (.aload_n 0, 1) := by decide +kernel
theorem dX9_mergeIn_105 : decode cX9_mergeIn 105 = .ok (.aload_n 0, 1) := by decide +kernel
theorem dX9_mergeIn_106 : decode cX9_mergeIn 106 = .ok (.getfield 67, 3) := by decide +kernel
theorem dX9_mergeIn_109 : decode cX9_mergeIn 109 = .ok (.iload 6, 2) := by decide +kernel
theorem dX9_mergeIn_111 : decode cX9_mergeIn 111 = .ok (.iaload, 1) := by decide +kernel
theorem dX9_mergeIn_112 : decode cX9_mergeIn 112 = .ok (.iload_n 2, 1) := by decide +kernel
theorem dX9_mergeIn_113 : decode cX9_mergeIn 113 = .ok (.lload_n 3, 1) := by decide +kernel
theorem dX9_mergeIn_114 : decode cX9_mergeIn 114 = .ok (.iload 5, 2) := by decide +kernel
theorem dX9_mergeIn_116 : decode cX9_mergeIn 116 = .ok (.invokevirtual 336, 3) := by decide +kernel
theorem dX9_mergeIn_119 : decode cX9_mergeIn 119 = .ok (.goto 13, 3) := by decide +kernel
theorem dX9_mergeIn_122 : decode cX9_mergeIn 122 = .ok (.aload_n 0, 1) := by decide +kernel
theorem dX9_mergeIn_123 : decode cX9_mergeIn 123 = .ok (.dup, 1) := by decide +kernel
theorem dX9_mergeIn_124 : decode cX9_mergeIn 124 = .ok (.getfield 346, 3) := by decide +kernel
theorem dX9_mergeIn_127 : decode cX9_mergeIn 127 = .ok (.iconst 1, 1) := by decide +kernel
theorem dX9_mergeIn_128 : decode cX9_mergeIn 128 = .ok (.iadd, 1) := by decide +kernel
theorem dX9_mergeIn_129 : decode cX9_mergeIn 129 = .ok (.putfield 346, 3) := by decide +kernel
theorem dX9_mergeIn_132 : decode cX9_mergeIn 132 = .ok (.return_, 1) := by decide +kernel
theorem dX9_mergeTier_0 : decode cX9_mergeTier 0 = .ok (.aload_n 0, 1) := by decide +kernel
theorem dX9_mergeTier_1 : decode cX9_mergeTier 1 = .ok (.iconst 0, 1) := by decide +kernel
theorem dX9_mergeTier_2 : decode cX9_mergeTier 2 = .ok (.putfield 333, 3) := by decide +kernel
theorem dX9_mergeTier_5 : decode cX9_mergeTier 5 = .ok (.aload_n 0, 1) := by decide +kernel
theorem dX9_mergeTier_6 : decode cX9_mergeTier 6 = .ok (.iconst 0, 1) := by decide +kernel
theorem dX9_mergeTier_7 : decode cX9_mergeTier 7 = .ok (.putfield 343, 3) := by decide +kernel
theorem dX9_mergeTier_10 : decode cX9_mergeTier 10 = .ok (.aload_n 0, 1) := by decide +kernel
theorem dX9_mergeTier_11 : decode cX9_mergeTier 11 = .ok (.iconst 0, 1) := by decide +kernel
theorem dX9_mergeTier_12 : decode cX9_mergeTier 12 = .ok (.putfield 346, 3) := by decide +kernel
theorem dX9_mergeTier_15 : decode cX9_mergeTier 15 = .ok (.iconst 0, 1) := by decide +kernel
theorem dX9_mergeTier_16 : decode cX9_mergeTier 16 = .ok (.iload_n 1, 1) := by decide +kernel
theorem dX9_mergeTier_17 : decode cX9_mergeTier 17 = .ok (.invokestatic 142, 3) := by decide +kernel
theorem dX9_mergeTier_20 : decode cX9_mergeTier 20 = .ok (.istore_n 2, 1) := by decide +kernel
theorem dX9_mergeTier_21 : decode cX9_mergeTier 21 = .ok (.iconst 1, 1) := by decide +kernel
theorem dX9_mergeTier_22 : decode cX9_mergeTier 22 = .ok (.iload_n 1, 1) := by decide +kernel
theorem dX9_mergeTier_23 : decode cX9_mergeTier 23 = .ok (.invokestatic 142, 3) := by decide +kernel
theorem dX9_mergeTier_26 : decode cX9_mergeTier 26 = .ok (.istore_n 3, 1) := by decide +kernel
theorem dX9_mergeTier_27 : decode cX9_mergeTier 27 = .ok (.iconst 0, 1) := by decide +kernel
theorem dX9_mergeTier_28 : decode cX9_mergeTier 28 = .ok (.istore 4, 2) := by decide +kernel
theorem dX9_mergeTier_30 : decode cX9_mergeTier 30 = .ok (.iconst 0, 1) := by decide +kernel
theorem dX9_mergeTier_31 : decode cX9_mergeTier 31 = .ok (.istore 5, 2) := by decide +kernel
theorem dX9_mergeTier_33 : decode cX9_mergeTier 33 = .ok (.iload 4, 2) := by decide +kernel
theorem dX9_mergeTier_35 : decode cX9_mergeTier 35 = .ok (.i2l, 1) := by decide +kernel
theorem dX9_mergeTier_36 : decode cX9_mergeTier 36 = .ok (.aload_n 0, 1) := by decide +kernel
theorem dX9_mergeTier_37 : decode cX9_mergeTier 37 = .ok (.getfield 9, 3) := by decide +kernel
theorem dX9_mergeTier_40 : decode cX9_mergeTier 40 = .ok (.iload_n 2, 1) := by decide +kernel
theorem dX9_mergeTier_41 : decode cX9_mergeTier 41 = .ok (.laload, 1) := by decide +kernel
theorem dX9_mergeTier_42 : decode cX9_mergeTier 42 = .ok (.lcmp, 1) := by decide +kernel
theorem dX9_mergeTier_43 : decode cX9_mergeTier 43 = .ok (.ifCond .lt 16, 3) := by decide +kernel
theorem dX9_mergeTier_46 : decode cX9_mergeTier 46 = .ok (.iload 5, 2) := by decide +kernel
theorem dX9_mergeTier_48 : decode cX9_mergeTier 48 = .ok (.i2l, 1) := by decide +kernel
theorem dX9_mergeTier_49 : decode cX9_mergeTier 49 = .ok (.aload_n 0, 1) := by decide +kernel
theorem dX9_mergeTier_50 : decode cX9_mergeTier 50 = .ok (.getfield 9, 3) := by decide +kernel
theorem dX9_mergeTier_53 : decode cX9_mergeTier 53 = .ok (.iload_n 3, 1) := by decide +kernel
theorem dX9_mergeTier_54 : decode cX9_mergeTier 54 = .ok (.laload, 1) := by decide +kernel
theorem dX9_mergeTier_55 : decode cX9_mergeTier 55 = .ok (.lcmp, 1) := by decide +kernel
theorem dX9_mergeTier_56 : decode cX9_mergeTier 56 = .ok (.ifCond .ge 202, 3) := by decide +kernel
theorem dX9_mergeTier_59 : decode cX9_mergeTier 59 = .ok (.iload_n 2, 1) := by decide +kernel
theorem dX9_mergeTier_60 : decode cX9_mergeTier 60 = .ok (.iconst 1, 1) := by decide +kernel
theorem dX9_mergeTier_61 : decode cX9_mergeTier 61 = .ok (.iadd, 1) := by decide +kernel
theorem dX9_mergeTier_62 : decode cX9_mergeTier 62 = .ok (.iconst 3, 1) := by decide +kernel
theorem dX9_mergeTier_63 : decode cX9_mergeTier 63 = .ok (.iload 4, 2) := by decide +kernel
theorem dX9_mergeTier_65 : decode cX9_mergeTier 65 = .ok (.imul, 1) := by decide +kernel
theorem dX9_mergeTier_66 : decode cX9_mergeTier 66 = .ok (.iadd, 1) := by decide +kernel
theorem dX9_mergeTier_67 : decode cX9_mergeTier 67 = .ok (.istore 6, 2) := by decide +kernel
theorem dX9_mergeTier_69 : decode cX9_mergeTier 69 = .ok (.iload_n 3, 1) := by decide +kernel
theorem dX9_mergeTier_70 : decode cX9_mergeTier 70 = .ok (.iconst 1, 1) := by decide +kernel
theorem dX9_mergeTier_71 : decode cX9_mergeTier 71 = .ok (.iadd, 1) := by decide +kernel
theorem dX9_mergeTier_72 : decode cX9_mergeTier 72 = .ok (.iconst 3, 1) := by decide +kernel
theorem dX9_mergeTier_73 : decode cX9_mergeTier 73 = .ok (.iload 5, 2) := by decide +kernel
theorem dX9_mergeTier_75 : decode cX9_mergeTier 75 = .ok (.imul, 1) := by decide +kernel
theorem dX9_mergeTier_76 : decode cX9_mergeTier 76 = .ok (.iadd, 1) := by decide +kernel
theorem dX9_mergeTier_77 : decode cX9_mergeTier 77 = .ok (.istore 7, 2) := by decide +kernel
theorem dX9_mergeTier_79 : decode cX9_mergeTier 79 = .ok (.iload 5, 2) := by decide +kernel
theorem dX9_mergeTier_81 : decode cX9_mergeTier 81 = .ok (.i2l, 1) := by decide +kernel
theorem dX9_mergeTier_82 : decode cX9_mergeTier 82 = .ok (.aload_n 0, 1) := by decide +kernel
theorem dX9_mergeTier_83 : decode cX9_mergeTier 83 = .ok (.getfield 9, 3) := by decide +kernel
theorem dX9_mergeTier_86 : decode cX9_mergeTier 86 = .ok (.iload_n 3, 1) := by decide +kernel
theorem dX9_mergeTier_87 : decode cX9_mergeTier 87 = .ok (.laload, 1) := by decide +kernel
theorem dX9_mergeTier_88 : decode cX9_mergeTier 88 = .ok (.lcmp, 1) := by decide +kernel
theorem dX9_mergeTier_89 : decode cX9_mergeTier 89 = .ok (.ifCond .eq 74, 3) := by decide +kernel
theorem dX9_mergeTier_92 : decode cX9_mergeTier 92 = .ok (.iload 4, 2) := by decide +kernel
theorem dX9_mergeTier_94 : decode cX9_mergeTier 94 = .ok (.i2l, 1) := by decide +kernel
theorem dX9_mergeTier_95 : decode cX9_mergeTier 95 = .ok (.aload_n 0, 1) := by decide +kernel
theorem dX9_mergeTier_96 : decode cX9_mergeTier 96 = .ok (.getfield 9, 3) := by decide +kernel
theorem dX9_mergeTier_99 : decode cX9_mergeTier 99 = .ok (.iload_n 2, 1) := by decide +kernel
theorem dX9_mergeTier_100 : decode cX9_mergeTier 100 = .ok (.laload, 1) := by decide +kernel
theorem dX9_mergeTier_101 : decode cX9_mergeTier 101 = .ok (.lcmp, 1) := by decide +kernel
theorem dX9_mergeTier_102 : decode cX9_mergeTier 102 = .ok (.ifCond .ge 65, 3) := by decide +kernel
theorem dX9_mergeTier_105 : decode cX9_mergeTier 105 = .ok (.aload_n 0, 1) := by decide +kernel
theorem dX9_mergeTier_106 : decode cX9_mergeTier 106 = .ok (.getfield 9, 3) := by decide +kernel
theorem dX9_mergeTier_109 : decode cX9_mergeTier 109 = .ok (.iload 6, 2) := by decide +kernel
theorem dX9_mergeTier_111 : decode cX9_mergeTier 111 = .ok (.laload, 1) := by decide +kernel
theorem dX9_mergeTier_112 : decode cX9_mergeTier 112 = .ok (.aload_n 0, 1) := by decide +kernel
theorem dX9_mergeTier_113 : decode cX9_mergeTier 113 = .ok (.getfield 9, 3) := by decide +kernel
theorem dX9_mergeTier_116 : decode cX9_mergeTier 116 = .ok (.iload 7, 2) := by decide +kernel
theorem dX9_mergeTier_118 : decode cX9_mergeTier 118 = .ok (.laload, 1) := by decide +kernel
theorem dX9_mergeTier_119 : decode cX9_mergeTier 119 = .ok (.lcmp, 1) := by decide +kernel
theorem dX9_mergeTier_120 : decode cX9_mergeTier 120 = .ok (.ifCond .lt 43, 3) := by decide +kernel
theorem dX9_mergeTier_123 : decode cX9_mergeTier 123 = .ok (.aload_n 0, 1) := by decide +kernel
theorem dX9_mergeTier_124 : decode cX9_mergeTier 124 = .ok (.getfield 9, 3) := by decide +kernel
theorem dX9_mergeTier_127 : decode cX9_mergeTier 127 = .ok (.iload 6, 2) := by decide +kernel
theorem dX9_mergeTier_129 : decode cX9_mergeTier 129 = .ok (.laload, 1) := by decide +kernel
theorem dX9_mergeTier_130 : decode cX9_mergeTier 130 = .ok (.aload_n 0, 1) := by decide +kernel
theorem dX9_mergeTier_131 : decode cX9_mergeTier 131 = .ok (.getfield 9, 3) := by decide +kernel
theorem dX9_mergeTier_134 : decode cX9_mergeTier 134 = .ok (.iload 7, 2) := by decide +kernel
theorem dX9_mergeTier_136 : decode cX9_mergeTier 136 = .ok (.laload, 1) := by decide +kernel
theorem dX9_mergeTier_137 : decode cX9_mergeTier 137 = .ok (.lcmp, 1) := by decide +kernel
theorem dX9_mergeTier_138 : decode cX9_mergeTier 138 = .ok (.ifCond .ne 29, 3) := by decide +kernel
theorem dX9_mergeTier_141 : decode cX9_mergeTier 141 = .ok (.aload_n 0, 1) := by decide +kernel
theorem dX9_mergeTier_142 : decode cX9_mergeTier 142 = .ok (.getfield 9, 3) := by decide +kernel
theorem dX9_mergeTier_145 : decode cX9_mergeTier 145 = .ok (.iload 6, 2) := by decide +kernel
theorem dX9_mergeTier_147 : decode cX9_mergeTier 147 = .ok (.iconst 1, 1) := by decide +kernel
theorem dX9_mergeTier_148 : decode cX9_mergeTier 148 = .ok (.iadd, 1) := by decide +kernel
theorem dX9_mergeTier_149 : decode cX9_mergeTier 149 = .ok (.laload, 1) := by decide +kernel
theorem dX9_mergeTier_150 : decode cX9_mergeTier 150 = .ok (.aload_n 0, 1) := by decide +kernel
theorem dX9_mergeTier_151 : decode cX9_mergeTier 151 = .ok (.getfield 9, 3) := by decide +kernel
theorem dX9_mergeTier_154 : decode cX9_mergeTier 154 = .ok (.iload 7, 2) := by decide +kernel
theorem dX9_mergeTier_156 : decode cX9_mergeTier 156 = .ok (.iconst 1, 1) := by decide +kernel
theorem dX9_mergeTier_157 : decode cX9_mergeTier 157 = .ok (.iadd, 1) := by decide +kernel
theorem dX9_mergeTier_158 : decode cX9_mergeTier 158 = .ok (.laload, 1) := by decide +kernel
theorem dX9_mergeTier_159 : decode cX9_mergeTier 159 = .ok (.lcmp, 1) := by decide +kernel
theorem dX9_mergeTier_160 : decode cX9_mergeTier 160 = .ok (.ifCond .gt 7, 3) := by decide +kernel
theorem dX9_mergeTier_163 : decode cX9_mergeTier 163 = .ok (.iconst 1, 1) := by decide +kernel
theorem dX9_mergeTier_164 : decode cX9_mergeTier 164 = .ok (.goto 4, 3) := by decide +kernel
theorem dX9_mergeTier_167 : decode cX9_mergeTier 167 = .ok (.iconst 0, 1) := by decide +kernel
theorem dX9_mergeTier_168 : decode cX9_mergeTier 168 = .ok (.istore 8, 2) := by decide +kernel
theorem dX9_mergeTier_170 : decode cX9_mergeTier 170 = .ok (.iload 8, 2) := by decide +kernel
theorem dX9_mergeTier_172 : decode cX9_mergeTier 172 = .ok (.ifCond .eq 8, 3) := by decide +kernel
theorem dX9_mergeTier_175 : decode cX9_mergeTier 175 = .ok (.iload 6, 2) := by decide +kernel
theorem dX9_mergeTier_177 : decode cX9_mergeTier 177 = .ok (.goto 5, 3) := by decide +kernel
theorem dX9_mergeTier_180 : decode cX9_mergeTier 180 = .ok (.iload 7, 2) := by decide +kernel
theorem dX9_mergeTier_182 : decode cX9_mergeTier 182 = .ok (.istore 9, 2) := by decide +kernel
theorem dX9_mergeTier_184 : decode cX9_mergeTier 184 = .ok (.aload_n 0, 1) := by decide +kernel
theorem dX9_mergeTier_185 : decode cX9_mergeTier 185 = .ok (.aload_n 0, 1) := by decide +kernel
theorem dX9_mergeTier_186 : decode cX9_mergeTier 186 = .ok (.getfield 9, 3) := by decide +kernel
theorem dX9_mergeTier_189 : decode cX9_mergeTier 189 = .ok (.iload 9, 2) := by decide +kernel
theorem dX9_mergeTier_191 : decode cX9_mergeTier 191 = .ok (.laload, 1) := by decide +kernel
theorem dX9_mergeTier_192 : decode cX9_mergeTier 192 = .ok (.l2i, 1) := by decide +kernel
theorem dX9_mergeTier_193 : decode cX9_mergeTier 193 = .ok (.aload_n 0, 1) := by decide +kernel
theorem dX9_mergeTier_194 : decode cX9_mergeTier 194 = .ok (.getfield 9, 3) := by decide +kernel
theorem dX9_mergeTier_197 : decode cX9_mergeTier 197 = .ok (.iload 9, 2) := by decide +kernel
theorem dX9_mergeTier_199 : decode cX9_mergeTier 199 = .ok (.iconst 1, 1) := by decide +kernel
theorem dX9_mergeTier_200 : decode cX9_mergeTier 200 = .ok (.iadd, 1) := by decide +kernel
theorem dX9_mergeTier_201 : decode cX9_mergeTier 201 = .ok (.laload, 1) := by decide +kernel
theorem dX9_mergeTier_202 : decode cX9_mergeTier 202 = .ok (.l2i, 1) := by decide +kernel
theorem dX9_mergeTier_203 : decode cX9_mergeTier 203 = .ok (.aload_n 0, 1) := by decide +kernel
theorem dX9_mergeTier_204 : decode cX9_mergeTier 204 = .ok (.getfield 9, 3) := by decide +kernel
theorem dX9_mergeTier_207 : decode cX9_mergeTier 207 = .ok (.iload 9, 2) := by decide +kernel
theorem dX9_mergeTier_209 : decode cX9_mergeTier 209 = .ok (.iconst 2, 1) := by decide +kernel
theorem dX9_mergeTier_210 : decode cX9_mergeTier 210 = .ok (.iadd, 1) := by decide +kernel
theorem dX9_mergeTier_211 : decode cX9_mergeTier 211 = .ok (.laload, 1) := by decide +kernel
theorem dX9_mergeTier_212 : decode cX9_mergeTier 212 = .ok (.iload 8, 2) := by decide +kernel
theorem dX9_mergeTier_214 : decode cX9_mergeTier 214 = .ok (.ifCond .eq 7, 3) := by decide +kernel
theorem dX9_mergeTier_217 : decode cX9_mergeTier 217 = .ok (.iconst 0, 1) := by decide +kernel
theorem dX9_mergeTier_218 : decode cX9_mergeTier 218 = .ok (.goto 4, 3) := by decide +kernel
theorem dX9_mergeTier_221 : decode cX9_mergeTier 221 = .ok (.iconst 1, 1) := by decide +kernel
theorem dX9_mergeTier_222 : decode cX9_mergeTier 222 = .ok (.invokevirtual 349, 3) := by decide +kernel
theorem dX9_mergeTier_225 : decode cX9_mergeTier 225 = .ok (.iload 4, 2) := by decide +kernel
theorem dX9_mergeTier_227 : decode cX9_mergeTier 227 = .ok (.iload 8, 2) := by decide +kernel
theorem dX9_mergeTier_229 : decode cX9_mergeTier 229 = .ok (.ifCond .eq 7, 3) := by decide +kernel
theorem dX9_mergeTier_232 : decode cX9_mergeTier 232 = .ok (.iconst 1, 1) := by decide +kernel
theorem dX9_mergeTier_233 : decode cX9_mergeTier 233 = .ok (.goto 4, 3) := by decide +kernel
theorem dX9_mergeTier_236 : decode cX9_mergeTier 236 = .ok (.iconst 0, 1) := by decide +kernel
theorem dX9_mergeTier_237 : decode cX9_mergeTier 237 = .ok (.iadd, 1) := by decide +kernel
theorem dX9_mergeTier_238 : decode cX9_mergeTier 238 = .ok (.istore 4, 2) := by decide +kernel
theorem dX9_mergeTier_240 : decode cX9_mergeTier 240 = .ok (.iload 5, 2) := by decide +kernel
theorem dX9_mergeTier_242 : decode cX9_mergeTier 242 = .ok (.iload 8, 2) := by decide +kernel
theorem dX9_mergeTier_244 : decode cX9_mergeTier 244 = .ok (.ifCond .eq 7, 3) := by decide +kernel
theorem dX9_mergeTier_247 : decode cX9_mergeTier 247 = .ok (.iconst 0, 1) := by decide +kernel
theorem dX9_mergeTier_248 : decode cX9_mergeTier 248 = .ok (.goto 4, 3) := by decide +kernel
theorem dX9_mergeTier_251 : decode cX9_mergeTier 251 = .ok (.iconst 1, 1) := by decide +kernel
theorem dX9_mergeTier_252 : decode cX9_mergeTier 252 = .ok (.iadd, 1) := by decide +kernel
theorem dX9_mergeTier_253 : decode cX9_mergeTier 253 = .ok (.istore 5, 2) := by decide +kernel
theorem dX9_mergeTier_255 : decode cX9_mergeTier 255 = .ok (.goto (-222), 3) := by decide +kernel
theorem dX9_mergeTier_258 : decode cX9_mergeTier 258 = .ok (.return_, 1) := by decide +kernel
theorem dX9_merge_0 : decode cX9_merge 0 = .ok (.aload_n 0, 1) := by decide +kernel
theorem dX9_merge_1 : decode cX9_merge 1 = .ok (.aload_n 0, 1) := by decide +kernel
theorem dX9_merge_2 : decode cX9_merge 2 = .ok (.iload_n 1, 1) := by decide +kernel
theorem dX9_merge_3 : decode cX9_merge 3 = .ok (.invokevirtual 130, 3) := by decide +kernel
theorem dX9_merge_6 : decode cX9_merge 6 = .ok (.ifCond .ne 7, 3) := by decide +kernel
theorem dX9_merge_9 : decode cX9_merge 9 = .ok (.iconst 1, 1) := by decide +kernel
theorem dX9_merge_10 : decode cX9_merge 10 = .ok (.goto 17, 3) := by decide +kernel
theorem dX9_merge_13 : decode cX9_merge 13 = .ok (.iload_n 2, 1) := by decide +kernel
theorem dX9_merge_14 : decode cX9_merge 14 = .ok (.iconst 0, 1) := by decide +kernel
theorem dX9_merge_15 : decode cX9_merge 15 = .ok (.iconst 4, 1) := by decide +kernel
theorem dX9_merge_16 : decode cX9_merge 16 = .ok (.invokestatic 126, 3) := by decide +kernel
theorem dX9_merge_19 : decode cX9_merge 19 = .ok (.ifCond .ne 7, 3) := by decide +kernel
theorem dX9_merge_22 : decode cX9_merge 22 = .ok (.iconst 2, 1) := by decide +kernel
theorem dX9_merge_23 : decode cX9_merge 23 = .ok (.goto 4, 3) := by decide +kernel
theorem dX9_merge_26 : decode cX9_merge 26 = .ok (.iconst 0, 1) := by decide +kernel
theorem dX9_merge_27 : decode cX9_merge 27 = .ok (.putfield 97, 3) := by decide +kernel
theorem dX9_merge_30 : decode cX9_merge 30 = .ok (.aload_n 0, 1) := by decide +kernel
theorem dX9_merge_31 : decode cX9_merge 31 = .ok (.getfield 97, 3) := by decide +kernel
theorem dX9_merge_34 : decode cX9_merge 34 = .ok (.ifCond .le 5, 3) := by decide +kernel
theorem dX9_merge_37 : decode cX9_merge 37 = .ok (.iconst 0, 1) := by decide +kernel
theorem dX9_merge_38 : decode cX9_merge 38 = .ok (.ireturn, 1) := by decide +kernel
theorem dX9_merge_39 : decode cX9_merge 39 = .ok (.aload_n 0, 1) := by decide +kernel
theorem dX9_merge_40 : decode cX9_merge 40 = .ok (.iload_n 1, 1) := by decide +kernel
theorem dX9_merge_41 : decode cX9_merge 41 = .ok (.invokevirtual 352, 3) := by decide +kernel
theorem dX9_merge_44 : decode cX9_merge 44 = .ok (.iconst 0, 1) := by decide +kernel
theorem dX9_merge_45 : decode cX9_merge 45 = .ok (.istore_n 3, 1) := by decide +kernel
theorem dX9_merge_46 : decode cX9_merge 46 = .ok (.iconst 0, 1) := by decide +kernel
theorem dX9_merge_47 : decode cX9_merge 47 = .ok (.istore 4, 2) := by decide +kernel
theorem dX9_merge_49 : decode cX9_merge 49 = .ok (.iconst 0, 1) := by decide +kernel
theorem dX9_merge_50 : decode cX9_merge 50 = .ok (.istore 5, 2) := by decide +kernel
theorem dX9_merge_52 : decode cX9_merge 52 = .ok (.iload 5, 2) := by decide +kernel
theorem dX9_merge_54 : decode cX9_merge 54 = .ok (.aload_n 0, 1) := by decide +kernel
theorem dX9_merge_55 : decode cX9_merge 55 = .ok (.getfield 333, 3) := by decide +kernel
theorem dX9_merge_58 : decode cX9_merge 58 = .ok (.if_icmp .ge 48, 3) := by decide +kernel
theorem dX9_merge_61 : decode cX9_merge 61 = .ok (.iload_n 3, 1) := by decide +kernel
theorem dX9_merge_62 : decode cX9_merge 62 = .ok (.aload_n 0, 1) := by decide +kernel
theorem dX9_merge_63 : decode cX9_merge 63 = .ok (.getfield 73, 3) := by decide +kernel
theorem dX9_merge_66 : decode cX9_merge 66 = .ok (.iload 5, 2) := by decide +kernel
theorem dX9_merge_68 : decode cX9_merge 68 = .ok (.iaload, 1) := by decide +kernel
theorem dX9_merge_69 : decode cX9_merge 69 = .ok (.iconst 3, 1) := by decide +kernel
theorem dX9_merge_70 : decode cX9_merge 70 = .ok (.if_icmp .ne 7, 3) := by decide +kernel
theorem dX9_merge_73 : decode cX9_merge 73 = .ok (.iconst 1, 1) := by decide +kernel
theorem dX9_merge_74 : decode cX9_merge 74 = .ok (.goto 4, 3) := by decide +kernel
theorem dX9_merge_77 : decode cX9_merge 77 = .ok (.iconst 0, 1) := by decide +kernel
theorem dX9_merge_78 : decode cX9_merge 78 = .ok (.iadd, 1) := by decide +kernel
theorem dX9_merge_79 : decode cX9_merge 79 = .ok (.istore_n 3, 1) := by decide +kernel
theorem dX9_merge_80 : decode cX9_merge 80 = .ok (.iload 4, 2) := by decide +kernel
theorem dX9_merge_82 : decode cX9_merge 82 = .ok (.aload_n 0, 1) := by decide +kernel
theorem dX9_merge_83 : decode cX9_merge 83 = .ok (.getfield 67, 3) := by decide +kernel
theorem dX9_merge_86 : decode cX9_merge 86 = .ok (.iload 5, 2) := by decide +kernel
theorem dX9_merge_88 : decode cX9_merge 88 = .ok (.iaload, 1) := by decide +kernel
theorem dX9_merge_89 : decode cX9_merge 89 = .ok (.aload_n 0, 1) := by decide +kernel
theorem dX9_merge_90 : decode cX9_merge 90 = .ok (.getfield 64, 3) := by decide +kernel
theorem dX9_merge_93 : decode cX9_merge 93 = .ok (.iload 5, 2) := by decide +kernel
theorem dX9_merge_95 : decode cX9_merge 95 = .ok (.iaload, 1) := by decide +kernel
theorem dX9_merge_96 : decode cX9_merge 96 = .ok (.isub, 1) := by decide +kernel
theorem dX9_merge_97 : decode cX9_merge 97 = .ok (.iadd, 1) := by decide +kernel
theorem dX9_merge_98 : decode cX9_merge 98 = .ok (.istore 4, 2) := by decide +kernel
theorem dX9_merge_100 : decode cX9_merge 100 = .ok (.iinc 5 1, 3) := by decide +kernel
theorem dX9_merge_103 : decode cX9_merge 103 = .ok (.goto (-51), 3) := by decide +kernel
theorem dX9_merge_106 : decode cX9_merge 106 = .ok (.iload_n 2, 1) := by decide +kernel
theorem dX9_merge_107 : decode cX9_merge 107 = .ok (.ifCond .ne 10, 3) := by decide +kernel
theorem dX9_merge_110 : decode cX9_merge 110 = .ok (.aload_n 0, 1) := by decide +kernel
theorem dX9_merge_111 : decode cX9_merge 111 = .ok (.getfield 333, 3) := by decide +kernel
theorem dX9_merge_114 : decode cX9_merge 114 = .ok (.goto 38, 3) := by decide +kernel
theorem dX9_merge_117 : decode cX9_merge 117 = .ok (.iload_n 2, 1) := by decide +kernel
theorem dX9_merge_118 : decode cX9_merge 118 = .ok (.iconst 1, 1) := by decide +kernel
theorem dX9_merge_119 : decode cX9_merge 119 = .ok (.if_icmp .ne 10, 3) := by decide +kernel
theorem dX9_merge_122 : decode cX9_merge 122 = .ok (.aload_n 0, 1) := by decide +kernel
theorem dX9_merge_123 : decode cX9_merge 123 = .ok (.getfield 343, 3) := by decide +kernel
theorem dX9_merge_126 : decode cX9_merge 126 = .ok (.goto 26, 3) := by decide +kernel
theorem dX9_merge_129 : decode cX9_merge 129 = .ok (.iload_n 2, 1) := by decide +kernel
theorem dX9_merge_130 : decode cX9_merge 130 = .ok (.iconst 2, 1) := by decide +kernel
theorem dX9_merge_131 : decode cX9_merge 131 = .ok (.if_icmp .ne 10, 3) := by decide +kernel
theorem dX9_merge_134 : decode cX9_merge 134 = .ok (.aload_n 0, 1) := by decide +kernel
theorem dX9_merge_135 : decode cX9_merge 135 = .ok (.getfield 346, 3) := by decide +kernel
theorem dX9_merge_138 : decode cX9_merge 138 = .ok (.goto 14, 3) := by decide +kernel
theorem dX9_merge_141 : decode cX9_merge 141 = .ok (.iload_n 2, 1) := by decide +kernel
theorem dX9_merge_142 : decode cX9_merge 142 = .ok (.iconst 3, 1) := by decide +kernel
theorem dX9_merge_143 : decode cX9_merge 143 = .ok (.if_icmp .ne 7, 3) := by decide +kernel
theorem dX9_merge_146 : decode cX9_merge 146 = .ok (.iload_n 3, 1) := by decide +kernel
theorem dX9_merge_147 : decode cX9_merge 147 = .ok (.goto 5, 3) := by decide +kernel
theorem dX9_merge_150 : decode cX9_merge 150 = .ok (.iload 4, 2) := by decide +kernel
theorem dX9_merge_152 : decode cX9_merge 152 = .ok (.ireturn, 1) := by decide +kernel
theorem dX9_merged_0 : decode cX9_merged 0 = .ok (.aload_n 0, 1) := by decide +kernel
theorem dX9_merged_1 : decode cX9_merged 1 = .ok (.aload_n 0, 1) := by decide +kernel
theorem dX9_merged_2 : decode cX9_merged 2 = .ok (.iload_n 1, 1) := by decide +kernel
theorem dX9_merged_3 : decode cX9_merged 3 = .ok (.invokevirtual 130, 3) := by decide +kernel
theorem dX9_merged_6 : decode cX9_merged 6 = .ok (.ifCond .eq 7, 3) := by decide +kernel
theorem dX9_merged_9 : decode cX9_merged 9 = .ok (.iconst 0, 1) := by decide +kernel
theorem dX9_merged_10 : decode cX9_merged 10 = .ok (.goto 4, 3) := by decide +kernel
theorem dX9_merged_13 : decode cX9_merged 13 = .ok (.iconst 1, 1) := by decide +kernel
theorem dX9_merged_14 : decode cX9_merged 14 = .ok (.putfield 97, 3) := by decide +kernel
theorem dX9_merged_17 : decode cX9_merged 17 = .ok (.aload_n 0, 1) := by decide +kernel
theorem dX9_merged_18 : decode cX9_merged 18 = .ok (.getfield 97, 3) := by decide +kernel
theorem dX9_merged_21 : decode cX9_merged 21 = .ok (.ifCond .le 5, 3) := by decide +kernel
theorem dX9_merged_24 : decode cX9_merged 24 = .ok (.iconst 0, 1) := by decide +kernel
theorem dX9_merged_25 : decode cX9_merged 25 = .ok (.ireturn, 1) := by decide +kernel
theorem dX9_merged_26 : decode cX9_merged 26 = .ok (.aload_n 0, 1) := by decide +kernel
theorem dX9_merged_27 : decode cX9_merged 27 = .ok (.iload_n 1, 1) := by decide +kernel
theorem dX9_merged_28 : decode cX9_merged 28 = .ok (.invokevirtual 352, 3) := by decide +kernel
theorem dX9_merged_31 : decode cX9_merged 31 = .ok (.aload_n 0, 1) := by decide +kernel
theorem dX9_merged_32 : decode cX9_merged 32 = .ok (.iload_n 2, 1) := by decide +kernel
theorem dX9_merged_33 : decode cX9_merged 33 = .ok (.iconst 0, 1) := by decide +kernel
theorem dX9_merged_34 : decode cX9_merged 34 = .ok (.aload_n 0, 1) := by decide +kernel
theorem dX9_merged_35 : decode cX9_merged 35 = .ok (.getfield 333, 3) := by decide +kernel
theorem dX9_merged_38 : decode cX9_merged 38 = .ok (.iconst 1, 1) := by decide +kernel
theorem dX9_merged_39 : decode cX9_merged 39 = .ok (.isub, 1) := by decide +kernel
theorem dX9_merged_40 : decode cX9_merged 40 = .ok (.invokestatic 126, 3) := by decide +kernel
theorem dX9_merged_43 : decode cX9_merged 43 = .ok (.ifCond .ne 7, 3) := by decide +kernel
theorem dX9_merged_46 : decode cX9_merged 46 = .ok (.iconst 2, 1) := by decide +kernel
theorem dX9_merged_47 : decode cX9_merged 47 = .ok (.goto 17, 3) := by decide +kernel
theorem dX9_merged_50 : decode cX9_merged 50 = .ok (.iload_n 3, 1) := by decide +kernel
theorem dX9_merged_51 : decode cX9_merged 51 = .ok (.iconst 0, 1) := by decide +kernel
theorem dX9_merged_52 : decode cX9_merged 52 = .ok (.iconst 3, 1) := by decide +kernel
theorem dX9_merged_53 : decode cX9_merged 53 = .ok (.invokestatic 126, 3) := by decide +kernel
theorem dX9_merged_56 : decode cX9_merged 56 = .ok (.ifCond .ne 7, 3) := by decide +kernel
theorem dX9_merged_59 : decode cX9_merged 59 = .ok (.iconst 3, 1) := by decide +kernel
theorem dX9_merged_60 : decode cX9_merged 60 = .ok (.goto 4, 3) := by decide +kernel
theorem dX9_merged_63 : decode cX9_merged 63 = .ok (.iconst 0, 1) := by decide +kernel
theorem dX9_merged_64 : decode cX9_merged 64 = .ok (.putfield 97, 3) := by decide +kernel
theorem dX9_merged_67 : decode cX9_merged 67 = .ok (.aload_n 0, 1) := by decide +kernel
theorem dX9_merged_68 : decode cX9_merged 68 = .ok (.getfield 97, 3) := by decide +kernel
theorem dX9_merged_71 : decode cX9_merged 71 = .ok (.ifCond .le 5, 3) := by decide +kernel
theorem dX9_merged_74 : decode cX9_merged 74 = .ok (.iconst 0, 1) := by decide +kernel
theorem dX9_merged_75 : decode cX9_merged 75 = .ok (.ireturn, 1) := by decide +kernel
theorem dX9_merged_76 : decode cX9_merged 76 = .ok (.iload_n 3, 1) := by decide +kernel
theorem dX9_merged_77 : decode cX9_merged 77 = .ok (.tableswitch 48 0 2 #[27, 34, 41], 27) := by decide +kernel
theorem dX9_merged_104 : decode cX9_merged 104 = .ok (.aload_n 0, 1) := by decide +kernel
theorem dX9_merged_105 : decode cX9_merged 105 = .ok (.getfield 64, 3) := by decide +kernel
theorem dX9_merged_108 : decode cX9_merged 108 = .ok (.iload_n 2, 1) := by decide +kernel
theorem dX9_merged_109 : decode cX9_merged 109 = .ok (.iaload, 1) := by decide +kernel
theorem dX9_merged_110 : decode cX9_merged 110 = .ok (.ireturn, 1) := by decide +kernel
theorem dX9_merged_111 : decode cX9_merged 111 = .ok (.aload_n 0, 1) := by decide +kernel
theorem dX9_merged_112 : decode cX9_merged 112 = .ok (.getfield 67, 3) := by decide +kernel
theorem dX9_merged_115 : decode cX9_merged 115 = .ok (.iload_n 2, 1) := by decide +kernel
theorem dX9_merged_116 : decode cX9_merged 116 = .ok (.iaload, 1) := by decide +kernel
theorem dX9_merged_117 : decode cX9_merged 117 = .ok (.ireturn, 1) := by decide +kernel
theorem dX9_merged_118 : decode cX9_merged 118 = .ok (.aload_n 0, 1) := by decide +kernel
theorem dX9_merged_119 : decode cX9_merged 119 = .ok (.getfield 73, 3) := by decide +kernel
theorem dX9_merged_122 : decode cX9_merged 122 = .ok (.iload_n 2, 1) := by decide +kernel
theorem dX9_merged_123 : decode cX9_merged 123 = .ok (.iaload, 1) := by decide +kernel
theorem dX9_merged_124 : decode cX9_merged 124 = .ok (.ireturn, 1) := by decide +kernel
theorem dX9_merged_125 : decode cX9_merged 125 = .ok (.aload_n 0, 1) := by decide +kernel
theorem dX9_merged_126 : decode cX9_merged 126 = .ok (.getfield 70, 3) := by decide +kernel
theorem dX9_merged_129 : decode cX9_merged 129 = .ok (.iload_n 2, 1) := by decide +kernel
theorem dX9_merged_130 : decode cX9_merged 130 = .ok (.laload, 1) := by decide +kernel
theorem dX9_merged_131 : decode cX9_merged 131 = .ok (.invokestatic 269, 3) := by decide +kernel
theorem dX9_merged_134 : decode cX9_merged 134 = .ok (.ireturn, 1) := by decide +kernel
theorem dX9_layOut_0 : decode cX9_layOut 0 = .ok (.iconst 0, 1) := by decide +kernel
theorem dX9_layOut_1 : decode cX9_layOut 1 = .ok (.istore_n 2, 1) := by decide +kernel
theorem dX9_layOut_2 : decode cX9_layOut 2 = .ok (.iload_n 2, 1) := by decide +kernel
theorem dX9_layOut_3 : decode cX9_layOut 3 = .ok (.sipush 2000, 3) := by decide +kernel
theorem dX9_layOut_6 : decode cX9_layOut 6 = .ok (.if_icmp .ge 16, 3) := by decide +kernel
theorem dX9_layOut_9 : decode cX9_layOut 9 = .ok (.aload_n 0, 1) := by decide +kernel
theorem dX9_layOut_10 : decode cX9_layOut 10 = .ok (.getfield 76, 3) := by decide +kernel
theorem dX9_layOut_13 : decode cX9_layOut 13 = .ok (.iload_n 2, 1) := by decide +kernel
theorem dX9_layOut_14 : decode cX9_layOut 14 = .ok (.lconst 0, 1) := by decide +kernel
theorem dX9_layOut_15 : decode cX9_layOut 15 = .ok (.lastore, 1) := by decide +kernel
theorem dX9_layOut_16 : decode cX9_layOut 16 = .ok (.iinc 2 1, 3) := by decide +kernel
theorem dX9_layOut_19 : decode cX9_layOut 19 = .ok (.goto (-17), 3) := by decide +kernel
theorem dX9_layOut_22 : decode cX9_layOut 22 = .ok (.iconst 0, 1) := by decide +kernel
theorem dX9_layOut_23 : decode cX9_layOut 23 = .ok (.istore_n 2, 1) := by decide +kernel
theorem dX9_layOut_24 : decode cX9_layOut 24 = .ok (.iload_n 2, 1) := by decide +kernel
theorem dX9_layOut_25 : decode cX9_layOut 25 = .ok (.iconst 2, 1) := by decide +kernel
theorem dX9_layOut_26 : decode cX9_layOut 26 = .ok (.if_icmp .ge 101, 3) := by decide +kernel
theorem dX9_layOut_29 : decode cX9_layOut 29 = .ok (.iload_n 2, 1) := by decide +kernel
theorem dX9_layOut_30 : decode cX9_layOut 30 = .ok (.iload_n 1, 1) := by decide +kernel
theorem dX9_layOut_31 : decode cX9_layOut 31 = .ok (.invokestatic 142, 3) := by decide +kernel
theorem dX9_layOut_34 : decode cX9_layOut 34 = .ok (.istore_n 3, 1) := by decide +kernel
theorem dX9_layOut_35 : decode cX9_layOut 35 = .ok (.iconst 0, 1) := by decide +kernel
theorem dX9_layOut_36 : decode cX9_layOut 36 = .ok (.istore 4, 2) := by decide +kernel
theorem dX9_layOut_38 : decode cX9_layOut 38 = .ok (.iload 4, 2) := by decide +kernel
theorem dX9_layOut_40 : decode cX9_layOut 40 = .ok (.i2l, 1) := by decide +kernel
theorem dX9_layOut_41 : decode cX9_layOut 41 = .ok (.aload_n 0, 1) := by decide +kernel
theorem dX9_layOut_42 : decode cX9_layOut 42 = .ok (.getfield 9, 3) := by decide +kernel
theorem dX9_layOut_45 : decode cX9_layOut 45 = .ok (.iload_n 3, 1) := by decide +kernel
theorem dX9_layOut_46 : decode cX9_layOut 46 = .ok (.laload, 1) := by decide +kernel
theorem dX9_layOut_47 : decode cX9_layOut 47 = .ok (.lcmp, 1) := by decide +kernel
theorem dX9_layOut_48 : decode cX9_layOut 48 = .ok (.ifCond .ge 73, 3) := by decide +kernel
theorem dX9_layOut_51 : decode cX9_layOut 51 = .ok (.iload_n 3, 1) := by decide +kernel
theorem dX9_layOut_52 : decode cX9_layOut 52 = .ok (.iconst 1, 1) := by decide +kernel
theorem dX9_layOut_53 : decode cX9_layOut 53 = .ok (.iadd, 1) := by decide +kernel
theorem dX9_layOut_54 : decode cX9_layOut 54 = .ok (.iconst 3, 1) := by decide +kernel
theorem dX9_layOut_55 : decode cX9_layOut 55 = .ok (.iload 4, 2) := by decide +kernel
theorem dX9_layOut_57 : decode cX9_layOut 57 = .ok (.imul, 1) := by decide +kernel
theorem dX9_layOut_58 : decode cX9_layOut 58 = .ok (.iadd, 1) := by decide +kernel
theorem dX9_layOut_59 : decode cX9_layOut 59 = .ok (.istore 5, 2) := by decide +kernel
theorem dX9_layOut_61 : decode cX9_layOut 61 = .ok (.aload_n 0, 1) := by decide +kernel
theorem dX9_layOut_62 : decode cX9_layOut 62 = .ok (.getfield 9, 3) := by decide +kernel
theorem dX9_layOut_65 : decode cX9_layOut 65 = .ok (.iload 5, 2) := by decide +kernel
theorem dX9_layOut_67 : decode cX9_layOut 67 = .ok (.laload, 1) := by decide +kernel
theorem dX9_layOut_68 : decode cX9_layOut 68 = .ok (.l2i, 1) := by decide +kernel
theorem dX9_layOut_69 : decode cX9_layOut 69 = .ok (.istore 6, 2) := by decide +kernel
theorem dX9_layOut_71 : decode cX9_layOut 71 = .ok (.iload 6, 2) := by decide +kernel
theorem dX9_layOut_73 : decode cX9_layOut 73 = .ok (.i2l, 1) := by decide +kernel
theorem dX9_layOut_74 : decode cX9_layOut 74 = .ok (.aload_n 0, 1) := by decide +kernel
theorem dX9_layOut_75 : decode cX9_layOut 75 = .ok (.getfield 9, 3) := by decide +kernel
theorem dX9_layOut_78 : decode cX9_layOut 78 = .ok (.iload 5, 2) := by decide +kernel
theorem dX9_layOut_80 : decode cX9_layOut 80 = .ok (.iconst 1, 1) := by decide +kernel
theorem dX9_layOut_81 : decode cX9_layOut 81 = .ok (.iadd, 1) := by decide +kernel
theorem dX9_layOut_82 : decode cX9_layOut 82 = .ok (.laload, 1) := by decide +kernel
theorem dX9_layOut_83 : decode cX9_layOut 83 = .ok (.lcmp, 1) := by decide +kernel
theorem dX9_layOut_84 : decode cX9_layOut 84 = .ok (.ifCond .ge 31, 3) := by decide +kernel
theorem dX9_layOut_87 : decode cX9_layOut 87 = .ok (.aload_n 0, 1) := by decide +kernel
theorem dX9_layOut_88 : decode cX9_layOut 88 = .ok (.getfield 76, 3) := by decide +kernel
theorem dX9_layOut_91 : decode cX9_layOut 91 = .ok (.sipush 1000, 3) := by decide +kernel
theorem dX9_layOut_94 : decode cX9_layOut 94 = .ok (.iload_n 2, 1) := by decide +kernel
theorem dX9_layOut_95 : decode cX9_layOut 95 = .ok (.imul, 1) := by decide +kernel
theorem dX9_layOut_96 : decode cX9_layOut 96 = .ok (.iload 6, 2) := by decide +kernel
theorem dX9_layOut_98 : decode cX9_layOut 98 = .ok (.iadd, 1) := by decide +kernel
theorem dX9_layOut_99 : decode cX9_layOut 99 = .ok (.aload_n 0, 1) := by decide +kernel
theorem dX9_layOut_100 : decode cX9_layOut 100 = .ok (.getfield 9, 3) := by decide +kernel
theorem dX9_layOut_103 : decode cX9_layOut 103 = .ok (.iload 5, 2) := by decide +kernel
theorem dX9_layOut_105 : decode cX9_layOut 105 = .ok (.iconst 2, 1) := by decide +kernel
theorem dX9_layOut_106 : decode cX9_layOut 106 = .ok (.iadd, 1) := by decide +kernel
theorem dX9_layOut_107 : decode cX9_layOut 107 = .ok (.laload, 1) := by decide +kernel
theorem dX9_layOut_108 : decode cX9_layOut 108 = .ok (.lastore, 1) := by decide +kernel
theorem dX9_layOut_109 : decode cX9_layOut 109 = .ok (.iinc 6 1, 3) := by decide +kernel
theorem dX9_layOut_112 : decode cX9_layOut 112 = .ok (.goto (-41), 3) := by decide +kernel
theorem dX9_layOut_115 : decode cX9_layOut 115 = .ok (.iinc 4 1, 3) := by decide +kernel
theorem dX9_layOut_118 : decode cX9_layOut 118 = .ok (.goto (-80), 3) := by decide +kernel
theorem dX9_layOut_121 : decode cX9_layOut 121 = .ok (.iinc 2 1, 3) := by decide +kernel
theorem dX9_layOut_124 : decode cX9_layOut 124 = .ok (.goto (-100), 3) := by decide +kernel
theorem dX9_layOut_127 : decode cX9_layOut 127 = .ok (.return_, 1) := by decide +kernel
theorem dX9_compareFrames_0 : decode cX9_compareFrames 0 = .ok (.aload_n 0, 1) := by decide +kernel
theorem dX9_compareFrames_1 : decode cX9_compareFrames 1 = .ok (.iload_n 1, 1) := by decide +kernel
theorem dX9_compareFrames_2 : decode cX9_compareFrames 2 = .ok (.invokevirtual 355, 3) := by decide +kernel
theorem dX9_compareFrames_5 : decode cX9_compareFrames 5 = .ok (.aload_n 0, 1) := by decide +kernel
theorem dX9_compareFrames_6 : decode cX9_compareFrames 6 = .ok (.iconst 0, 1) := by decide +kernel
theorem dX9_compareFrames_7 : decode cX9_compareFrames 7 = .ok (.putfield 358, 3) := by decide +kernel
theorem dX9_compareFrames_10 : decode cX9_compareFrames 10 = .ok (.aload_n 0, 1) := by decide +kernel
theorem dX9_compareFrames_11 : decode cX9_compareFrames 11 = .ok (.iconst 0, 1) := by decide +kernel
theorem dX9_compareFrames_12 : decode cX9_compareFrames 12 = .ok (.putfield 361, 3) := by decide +kernel
theorem dX9_compareFrames_15 : decode cX9_compareFrames 15 = .ok (.aload_n 0, 1) := by decide +kernel
theorem dX9_compareFrames_16 : decode cX9_compareFrames 16 = .ok (.iconst 0, 1) := by decide +kernel
theorem dX9_compareFrames_17 : decode cX9_compareFrames 17 = .ok (.putfield 364, 3) := by decide +kernel
theorem dX9_compareFrames_20 : decode cX9_compareFrames 20 = .ok (.aload_n 0, 1) := by decide +kernel
theorem dX9_compareFrames_21 : decode cX9_compareFrames 21 = .ok (.iconst 0, 1) := by decide +kernel
theorem dX9_compareFrames_22 : decode cX9_compareFrames 22 = .ok (.putfield 367, 3) := by decide +kernel
theorem dX9_compareFrames_25 : decode cX9_compareFrames 25 = .ok (.iconst 0, 1) := by decide +kernel
theorem dX9_compareFrames_26 : decode cX9_compareFrames 26 = .ok (.istore_n 2, 1) := by decide +kernel
theorem dX9_compareFrames_27 : decode cX9_compareFrames 27 = .ok (.iload_n 2, 1) := by decide +kernel
theorem dX9_compareFrames_28 : decode cX9_compareFrames 28 = .ok (.sipush 1000, 3) := by decide +kernel
theorem dX9_compareFrames_31 : decode cX9_compareFrames 31 = .ok (.if_icmp .ge 141, 3) := by decide +kernel
theorem dX9_compareFrames_34 : decode cX9_compareFrames 34 = .ok (.aload_n 0, 1) := by decide +kernel
theorem dX9_compareFrames_35 : decode cX9_compareFrames 35 = .ok (.getfield 76, 3) := by decide +kernel
theorem dX9_compareFrames_38 : decode cX9_compareFrames 38 = .ok (.iload_n 2, 1) := by decide +kernel
theorem dX9_compareFrames_39 : decode cX9_compareFrames 39 = .ok (.laload, 1) := by decide +kernel
theorem dX9_compareFrames_40 : decode cX9_compareFrames 40 = .ok (.lstore_n 3, 1) := by decide +kernel
theorem dX9_compareFrames_41 : decode cX9_compareFrames 41 = .ok (.aload_n 0, 1) := by decide +kernel
theorem dX9_compareFrames_42 : decode cX9_compareFrames 42 = .ok (.getfield 76, 3) := by decide +kernel
theorem dX9_compareFrames_45 : decode cX9_compareFrames 45 = .ok (.sipush 1000, 3) := by decide +kernel
theorem dX9_compareFrames_48 : decode cX9_compareFrames 48 = .ok (.iload_n 2, 1) := by decide +kernel
theorem dX9_compareFrames_49 : decode cX9_compareFrames 49 = .ok (.iadd, 1) := by decide +kernel
theorem dX9_compareFrames_50 : decode cX9_compareFrames 50 = .ok (.laload, 1) := by decide +kernel
theorem dX9_compareFrames_51 : decode cX9_compareFrames 51 = .ok (.lstore 5, 2) := by decide +kernel
theorem dX9_compareFrames_53 : decode cX9_compareFrames 53 = .ok (.lload_n 3, 1) := by decide +kernel
theorem dX9_compareFrames_54 : decode cX9_compareFrames 54 = .ok (.lconst 0, 1) := by decide +kernel
theorem dX9_compareFrames_55 : decode cX9_compareFrames 55 = .ok (.lcmp, 1) := by decide +kernel
theorem dX9_compareFrames_56 : decode cX9_compareFrames 56 = .ok (.ifCond .eq 14, 3) := by decide +kernel
theorem dX9_compareFrames_59 : decode cX9_compareFrames 59 = .ok (.lload 5, 2) := by decide +kernel
theorem dX9_compareFrames_61 : decode cX9_compareFrames 61 = .ok (.lconst 0, 1) := by decide +kernel
theorem dX9_compareFrames_62 : decode cX9_compareFrames 62 = .ok (.lcmp, 1) := by decide +kernel
theorem dX9_compareFrames_63 : decode cX9_compareFrames 63 = .ok (.ifCond .eq 7, 3) := by decide +kernel
theorem dX9_compareFrames_66 : decode cX9_compareFrames 66 = .ok (.iconst 1, 1) := by decide +kernel
theorem dX9_compareFrames_67 : decode cX9_compareFrames 67 = .ok (.goto 4, 3) := by decide +kernel
theorem dX9_compareFrames_70 : decode cX9_compareFrames 70 = .ok (.iconst 0, 1) := by decide +kernel
theorem dX9_compareFrames_71 : decode cX9_compareFrames 71 = .ok (.istore 7, 2) := by decide +kernel
theorem dX9_compareFrames_73 : decode cX9_compareFrames 73 = .ok (.aload_n 0, 1) := by decide +kernel
theorem dX9_compareFrames_74 : decode cX9_compareFrames 74 = .ok (.dup, 1) := by decide +kernel
theorem dX9_compareFrames_75 : decode cX9_compareFrames 75 = .ok (.getfield 358, 3) := by decide +kernel
theorem dX9_compareFrames_78 : decode cX9_compareFrames 78 = .ok (.iload 7, 2) := by decide +kernel
theorem dX9_compareFrames_80 : decode cX9_compareFrames 80 = .ok (.ifCond .eq 14, 3) := by decide +kernel
theorem dX9_compareFrames_83 : decode cX9_compareFrames 83 = .ok (.lload_n 3, 1) := by decide +kernel
theorem dX9_compareFrames_84 : decode cX9_compareFrames 84 = .ok (.lload 5, 2) := by decide +kernel
theorem dX9_compareFrames_86 : decode cX9_compareFrames 86 = .ok (.lcmp, 1) := by decide +kernel
theorem dX9_compareFrames_87 : decode cX9_compareFrames 87 = .ok (.ifCond .ne 7, 3) := by decide +kernel
theorem dX9_compareFrames_90 : decode cX9_compareFrames 90 = .ok (.iconst 1, 1) := by decide +kernel
theorem dX9_compareFrames_91 : decode cX9_compareFrames 91 = .ok (.goto 4, 3) := by decide +kernel
theorem dX9_compareFrames_94 : decode cX9_compareFrames 94 = .ok (.iconst 0, 1) := by decide +kernel
theorem dX9_compareFrames_95 : decode cX9_compareFrames 95 = .ok (.iadd, 1) := by decide +kernel
theorem dX9_compareFrames_96 : decode cX9_compareFrames 96 = .ok (.putfield 358, 3) := by decide +kernel
theorem dX9_compareFrames_99 : decode cX9_compareFrames 99 = .ok (.aload_n 0, 1) := by decide +kernel
theorem dX9_compareFrames_100 : decode cX9_compareFrames 100 = .ok (.dup, 1) := by decide +kernel
theorem dX9_compareFrames_101 : decode cX9_compareFrames 101 = .ok (.getfield 361, 3) := by decide +kernel
theorem dX9_compareFrames_104 : decode cX9_compareFrames 104 = .ok (.iload 7, 2) := by decide +kernel
theorem dX9_compareFrames_106 : decode cX9_compareFrames 106 = .ok (.ifCond .eq 7, 3) := by decide +kernel
theorem dX9_compareFrames_109 : decode cX9_compareFrames 109 = .ok (.iconst 1, 1) := by decide +kernel
theorem dX9_compareFrames_110 : decode cX9_compareFrames 110 = .ok (.goto 4, 3) := by decide +kernel
theorem dX9_compareFrames_113 : decode cX9_compareFrames 113 = .ok (.iconst 0, 1) := by decide +kernel
theorem dX9_compareFrames_114 : decode cX9_compareFrames 114 = .ok (.iadd, 1) := by decide +kernel
theorem dX9_compareFrames_115 : decode cX9_compareFrames 115 = .ok (.putfield 361, 3) := by decide +kernel
theorem dX9_compareFrames_118 : decode cX9_compareFrames 118 = .ok (.aload_n 0, 1) := by decide +kernel
theorem dX9_compareFrames_119 : decode cX9_compareFrames 119 = .ok (.dup, 1) := by decide +kernel
theorem dX9_compareFrames_120 : decode cX9_compareFrames 120 = .ok (.getfield 364, 3) := by decide +kernel
theorem dX9_compareFrames_123 : decode cX9_compareFrames 123 = .ok (.lload_n 3, 1) := by decide +kernel
theorem dX9_compareFrames_124 : decode cX9_compareFrames 124 = .ok (.lconst 0, 1) := by decide +kernel
theorem dX9_compareFrames_125 : decode cX9_compareFrames 125 = .ok (.lcmp, 1) := by decide +kernel
theorem dX9_compareFrames_126 : decode cX9_compareFrames 126 = .ok (.ifCond .ne 10, 3) := by decide +kernel
theorem dX9_compareFrames_129 : decode cX9_compareFrames 129 = .ok (.lload 5, 2) := by decide +kernel
theorem dX9_compareFrames_131 : decode cX9_compareFrames 131 = .ok (.lconst 0, 1) := by decide +kernel
theorem dX9_compareFrames_132 : decode cX9_compareFrames 132 = .ok (.lcmp, 1) := by decide +kernel
theorem dX9_compareFrames_133 : decode cX9_compareFrames 133 = .ok (.ifCond .eq 7, 3) := by decide +kernel
theorem dX9_compareFrames_136 : decode cX9_compareFrames 136 = .ok (.iconst 1, 1) := by decide +kernel
theorem dX9_compareFrames_137 : decode cX9_compareFrames 137 = .ok (.goto 4, 3) := by decide +kernel
theorem dX9_compareFrames_140 : decode cX9_compareFrames 140 = .ok (.iconst 0, 1) := by decide +kernel
theorem dX9_compareFrames_141 : decode cX9_compareFrames 141 = .ok (.iadd, 1) := by decide +kernel
theorem dX9_compareFrames_142 : decode cX9_compareFrames 142 = .ok (.putfield 364, 3) := by decide +kernel
theorem dX9_compareFrames_145 : decode cX9_compareFrames 145 = .ok (.aload_n 0, 1) := by decide +kernel
theorem dX9_compareFrames_146 : decode cX9_compareFrames 146 = .ok (.dup, 1) := by decide +kernel
theorem dX9_compareFrames_147 : decode cX9_compareFrames 147 = .ok (.getfield 367, 3) := by decide +kernel
theorem dX9_compareFrames_150 : decode cX9_compareFrames 150 = .ok (.lload_n 3, 1) := by decide +kernel
theorem dX9_compareFrames_151 : decode cX9_compareFrames 151 = .ok (.lload 5, 2) := by decide +kernel
theorem dX9_compareFrames_153 : decode cX9_compareFrames 153 = .ok (.lcmp, 1) := by decide +kernel
theorem dX9_compareFrames_154 : decode cX9_compareFrames 154 = .ok (.ifCond .ne 7, 3) := by decide +kernel
theorem dX9_compareFrames_157 : decode cX9_compareFrames 157 = .ok (.iconst 1, 1) := by decide +kernel
theorem dX9_compareFrames_158 : decode cX9_compareFrames 158 = .ok (.goto 4, 3) := by decide +kernel
theorem dX9_compareFrames_161 : decode cX9_compareFrames 161 = .ok (.iconst 0, 1) := by decide +kernel
theorem dX9_compareFrames_162 : decode cX9_compareFrames 162 = .ok (.iadd, 1) := by decide +kernel
theorem dX9_compareFrames_163 : decode cX9_compareFrames 163 = .ok (.putfield 367, 3) := by decide +kernel
theorem dX9_compareFrames_166 : decode cX9_compareFrames 166 = .ok (.iinc 2 1, 3) := by decide +kernel
theorem dX9_compareFrames_169 : decode cX9_compareFrames 169 = .ok (.goto (-142), 3) := by decide +kernel
theorem dX9_compareFrames_172 : decode cX9_compareFrames 172 = .ok (.return_, 1) := by decide +kernel
theorem dX9_frames_0 : decode cX9_frames 0 = .ok (.aload_n 0, 1) := by decide +kernel
theorem dX9_frames_1 : decode cX9_frames 1 = .ok (.aload_n 0, 1) := by decide +kernel
theorem dX9_frames_2 : decode cX9_frames 2 = .ok (.iload_n 1, 1) := by decide +kernel
theorem dX9_frames_3 : decode cX9_frames 3 = .ok (.invokevirtual 130, 3) := by decide +kernel
theorem dX9_frames_6 : decode cX9_frames 6 = .ok (.ifCond .ne 7, 3) := by decide +kernel
theorem dX9_frames_9 : decode cX9_frames 9 = .ok (.iconst 1, 1) := by decide +kernel
theorem dX9_frames_10 : decode cX9_frames 10 = .ok (.goto 17, 3) := by decide +kernel
theorem dX9_frames_13 : decode cX9_frames 13 = .ok (.iload_n 2, 1) := by decide +kernel
theorem dX9_frames_14 : decode cX9_frames 14 = .ok (.iconst 0, 1) := by decide +kernel
theorem dX9_frames_15 : decode cX9_frames 15 = .ok (.iconst 4, 1) := by decide +kernel
theorem dX9_frames_16 : decode cX9_frames 16 = .ok (.invokestatic 126, 3) := by decide +kernel
theorem dX9_frames_19 : decode cX9_frames 19 = .ok (.ifCond .ne 7, 3) := by decide +kernel
theorem dX9_frames_22 : decode cX9_frames 22 = .ok (.iconst 2, 1) := by decide +kernel
theorem dX9_frames_23 : decode cX9_frames 23 = .ok (.goto 4, 3) := by decide +kernel
theorem dX9_frames_26 : decode cX9_frames 26 = .ok (.iconst 0, 1) := by decide +kernel
theorem dX9_frames_27 : decode cX9_frames 27 = .ok (.putfield 97, 3) := by decide +kernel
theorem dX9_frames_30 : decode cX9_frames 30 = .ok (.aload_n 0, 1) := by decide +kernel
theorem dX9_frames_31 : decode cX9_frames 31 = .ok (.getfield 97, 3) := by decide +kernel
theorem dX9_frames_34 : decode cX9_frames 34 = .ok (.ifCond .le 5, 3) := by decide +kernel
theorem dX9_frames_37 : decode cX9_frames 37 = .ok (.iconst 0, 1) := by decide +kernel
theorem dX9_frames_38 : decode cX9_frames 38 = .ok (.ireturn, 1) := by decide +kernel
theorem dX9_frames_39 : decode cX9_frames 39 = .ok (.iload_n 2, 1) := by decide +kernel
theorem dX9_frames_40 : decode cX9_frames 40 = .ok (.iconst 2, 1) := by decide +kernel
theorem dX9_frames_41 : decode cX9_frames 41 = .ok (.if_icmp .ge 10, 3) := by decide +kernel
theorem dX9_frames_44 : decode cX9_frames 44 = .ok (.aload_n 0, 1) := by decide +kernel
theorem dX9_frames_45 : decode cX9_frames 45 = .ok (.iload_n 2, 1) := by decide +kernel
theorem dX9_frames_46 : decode cX9_frames 46 = .ok (.iload_n 1, 1) := by decide +kernel
theorem dX9_frames_47 : decode cX9_frames 47 = .ok (.invokevirtual 181, 3) := by decide +kernel
theorem dX9_frames_50 : decode cX9_frames 50 = .ok (.ireturn, 1) := by decide +kernel
theorem dX9_frames_51 : decode cX9_frames 51 = .ok (.aload_n 0, 1) := by decide +kernel
theorem dX9_frames_52 : decode cX9_frames 52 = .ok (.iload_n 1, 1) := by decide +kernel
theorem dX9_frames_53 : decode cX9_frames 53 = .ok (.invokevirtual 370, 3) := by decide +kernel
theorem dX9_frames_56 : decode cX9_frames 56 = .ok (.iload_n 2, 1) := by decide +kernel
theorem dX9_frames_57 : decode cX9_frames 57 = .ok (.iconst 2, 1) := by decide +kernel
theorem dX9_frames_58 : decode cX9_frames 58 = .ok (.if_icmp .ne 10, 3) := by decide +kernel
theorem dX9_frames_61 : decode cX9_frames 61 = .ok (.aload_n 0, 1) := by decide +kernel
theorem dX9_frames_62 : decode cX9_frames 62 = .ok (.getfield 358, 3) := by decide +kernel
theorem dX9_frames_65 : decode cX9_frames 65 = .ok (.goto 19, 3) := by decide +kernel
theorem dX9_frames_68 : decode cX9_frames 68 = .ok (.iload_n 2, 1) := by decide +kernel
theorem dX9_frames_69 : decode cX9_frames 69 = .ok (.iconst 3, 1) := by decide +kernel
theorem dX9_frames_70 : decode cX9_frames 70 = .ok (.if_icmp .ne 10, 3) := by decide +kernel
theorem dX9_frames_73 : decode cX9_frames 73 = .ok (.aload_n 0, 1) := by decide +kernel
theorem dX9_frames_74 : decode cX9_frames 74 = .ok (.getfield 361, 3) := by decide +kernel
theorem dX9_frames_77 : decode cX9_frames 77 = .ok (.goto 7, 3) := by decide +kernel
theorem dX9_frames_80 : decode cX9_frames 80 = .ok (.aload_n 0, 1) := by decide +kernel
theorem dX9_frames_81 : decode cX9_frames 81 = .ok (.getfield 364, 3) := by decide +kernel
theorem dX9_frames_84 : decode cX9_frames 84 = .ok (.ireturn, 1) := by decide +kernel
theorem dX9_agreement_0 : decode cX9_agreement 0 = .ok (.aload_n 0, 1) := by decide +kernel
theorem dX9_agreement_1 : decode cX9_agreement 1 = .ok (.aload_n 0, 1) := by decide +kernel
theorem dX9_agreement_2 : decode cX9_agreement 2 = .ok (.iload_n 1, 1) := by decide +kernel
theorem dX9_agreement_3 : decode cX9_agreement 3 = .ok (.invokevirtual 130, 3) := by decide +kernel
theorem dX9_agreement_6 : decode cX9_agreement 6 = .ok (.ifCond .eq 7, 3) := by decide +kernel
theorem dX9_agreement_9 : decode cX9_agreement 9 = .ok (.iconst 0, 1) := by decide +kernel
theorem dX9_agreement_10 : decode cX9_agreement 10 = .ok (.goto 4, 3) := by decide +kernel
theorem dX9_agreement_13 : decode cX9_agreement 13 = .ok (.iconst 1, 1) := by decide +kernel
theorem dX9_agreement_14 : decode cX9_agreement 14 = .ok (.putfield 97, 3) := by decide +kernel
theorem dX9_agreement_17 : decode cX9_agreement 17 = .ok (.aload_n 0, 1) := by decide +kernel
theorem dX9_agreement_18 : decode cX9_agreement 18 = .ok (.getfield 97, 3) := by decide +kernel
theorem dX9_agreement_21 : decode cX9_agreement 21 = .ok (.ifCond .le 5, 3) := by decide +kernel
theorem dX9_agreement_24 : decode cX9_agreement 24 = .ok (.fconst 0, 1) := by decide +kernel
theorem dX9_agreement_25 : decode cX9_agreement 25 = .ok (.freturn, 1) := by decide +kernel
theorem dX9_agreement_26 : decode cX9_agreement 26 = .ok (.aload_n 0, 1) := by decide +kernel
theorem dX9_agreement_27 : decode cX9_agreement 27 = .ok (.iload_n 1, 1) := by decide +kernel
theorem dX9_agreement_28 : decode cX9_agreement 28 = .ok (.invokevirtual 370, 3) := by decide +kernel
theorem dX9_agreement_31 : decode cX9_agreement 31 = .ok (.aload_n 0, 1) := by decide +kernel
theorem dX9_agreement_32 : decode cX9_agreement 32 = .ok (.aload_n 0, 1) := by decide +kernel
theorem dX9_agreement_33 : decode cX9_agreement 33 = .ok (.getfield 364, 3) := by decide +kernel
theorem dX9_agreement_36 : decode cX9_agreement 36 = .ok (.ifCond .ne 7, 3) := by decide +kernel
theorem dX9_agreement_39 : decode cX9_agreement 39 = .ok (.iconst 2, 1) := by decide +kernel
theorem dX9_agreement_40 : decode cX9_agreement 40 = .ok (.goto 4, 3) := by decide +kernel
theorem dX9_agreement_43 : decode cX9_agreement 43 = .ok (.iconst 0, 1) := by decide +kernel
theorem dX9_agreement_44 : decode cX9_agreement 44 = .ok (.putfield 97, 3) := by decide +kernel
theorem dX9_agreement_47 : decode cX9_agreement 47 = .ok (.aload_n 0, 1) := by decide +kernel
theorem dX9_agreement_48 : decode cX9_agreement 48 = .ok (.getfield 97, 3) := by decide +kernel
theorem dX9_agreement_51 : decode cX9_agreement 51 = .ok (.ifCond .le 7, 3) := by decide +kernel
theorem dX9_agreement_54 : decode cX9_agreement 54 = .ok (.fconst 0, 1) := by decide +kernel
theorem dX9_agreement_55 : decode cX9_agreement 55 = .ok (.goto 14, 3) := by decide +kernel
theorem dX9_agreement_58 : decode cX9_agreement 58 = .ok (.aload_n 0, 1) := by decide +kernel
theorem dX9_agreement_59 : decode cX9_agreement 59 = .ok (.getfield 358, 3) := by decide +kernel
theorem dX9_agreement_62 : decode cX9_agreement 62 = .ok (.i2f, 1) := by decide +kernel
theorem dX9_agreement_63 : decode cX9_agreement 63 = .ok (.aload_n 0, 1) := by decide +kernel
theorem dX9_agreement_64 : decode cX9_agreement 64 = .ok (.getfield 364, 3) := by decide +kernel
theorem dX9_agreement_67 : decode cX9_agreement 67 = .ok (.i2f, 1) := by decide +kernel
theorem dX9_agreement_68 : decode cX9_agreement 68 = .ok (.fdiv, 1) := by decide +kernel
theorem dX9_agreement_69 : decode cX9_agreement 69 = .ok (.freturn, 1) := by decide +kernel
theorem dX9_labelledAs_0 : decode cX9_labelledAs 0 = .ok (.iload_n 1, 1) := by decide +kernel
theorem dX9_labelledAs_1 : decode cX9_labelledAs 1 = .ok (.iload_n 2, 1) := by decide +kernel
theorem dX9_labelledAs_2 : decode cX9_labelledAs 2 = .ok (.invokestatic 142, 3) := by decide +kernel
theorem dX9_labelledAs_5 : decode cX9_labelledAs 5 = .ok (.istore 5, 2) := by decide +kernel
theorem dX9_labelledAs_7 : decode cX9_labelledAs 7 = .ok (.iconst 0, 1) := by decide +kernel
theorem dX9_labelledAs_8 : decode cX9_labelledAs 8 = .ok (.istore 6, 2) := by decide +kernel
theorem dX9_labelledAs_10 : decode cX9_labelledAs 10 = .ok (.iconst 0, 1) := by decide +kernel
theorem dX9_labelledAs_11 : decode cX9_labelledAs 11 = .ok (.istore 7, 2) := by decide +kernel
theorem dX9_labelledAs_13 : decode cX9_labelledAs 13 = .ok (.iload 7, 2) := by decide +kernel
theorem dX9_labelledAs_15 : decode cX9_labelledAs 15 = .ok (.i2l, 1) := by decide +kernel
theorem dX9_labelledAs_16 : decode cX9_labelledAs 16 = .ok (.aload_n 0, 1) := by decide +kernel
theorem dX9_labelledAs_17 : decode cX9_labelledAs 17 = .ok (.getfield 9, 3) := by decide +kernel
theorem dX9_labelledAs_20 : decode cX9_labelledAs 20 = .ok (.iload 5, 2) := by decide +kernel
theorem dX9_labelledAs_22 : decode cX9_labelledAs 22 = .ok (.laload, 1) := by decide +kernel
theorem dX9_labelledAs_23 : decode cX9_labelledAs 23 = .ok (.lcmp, 1) := by decide +kernel
theorem dX9_labelledAs_24 : decode cX9_labelledAs 24 = .ok (.ifCond .ge 67, 3) := by decide +kernel
theorem dX9_labelledAs_27 : decode cX9_labelledAs 27 = .ok (.iload 6, 2) := by decide +kernel
theorem dX9_labelledAs_29 : decode cX9_labelledAs 29 = .ok (.aload_n 0, 1) := by decide +kernel
theorem dX9_labelledAs_30 : decode cX9_labelledAs 30 = .ok (.getfield 9, 3) := by decide +kernel
theorem dX9_labelledAs_33 : decode cX9_labelledAs 33 = .ok (.iload 5, 2) := by decide +kernel
theorem dX9_labelledAs_35 : decode cX9_labelledAs 35 = .ok (.iconst 3, 1) := by decide +kernel
theorem dX9_labelledAs_36 : decode cX9_labelledAs 36 = .ok (.iadd, 1) := by decide +kernel
theorem dX9_labelledAs_37 : decode cX9_labelledAs 37 = .ok (.iconst 3, 1) := by decide +kernel
theorem dX9_labelledAs_38 : decode cX9_labelledAs 38 = .ok (.iload 7, 2) := by decide +kernel
theorem dX9_labelledAs_40 : decode cX9_labelledAs 40 = .ok (.imul, 1) := by decide +kernel
theorem dX9_labelledAs_41 : decode cX9_labelledAs 41 = .ok (.iadd, 1) := by decide +kernel
theorem dX9_labelledAs_42 : decode cX9_labelledAs 42 = .ok (.laload, 1) := by decide +kernel
theorem dX9_labelledAs_43 : decode cX9_labelledAs 43 = .ok (.lload_n 3, 1) := by decide +kernel
theorem dX9_labelledAs_44 : decode cX9_labelledAs 44 = .ok (.lcmp, 1) := by decide +kernel
theorem dX9_labelledAs_45 : decode cX9_labelledAs 45 = .ok (.ifCond .ne 36, 3) := by decide +kernel
theorem dX9_labelledAs_48 : decode cX9_labelledAs 48 = .ok (.aload_n 0, 1) := by decide +kernel
theorem dX9_labelledAs_49 : decode cX9_labelledAs 49 = .ok (.getfield 9, 3) := by decide +kernel
theorem dX9_labelledAs_52 : decode cX9_labelledAs 52 = .ok (.iload 5, 2) := by decide +kernel
theorem dX9_labelledAs_54 : decode cX9_labelledAs 54 = .ok (.iconst 2, 1) := by decide +kernel
theorem dX9_labelledAs_55 : decode cX9_labelledAs 55 = .ok (.iadd, 1) := by decide +kernel
theorem dX9_labelledAs_56 : decode cX9_labelledAs 56 = .ok (.iconst 3, 1) := by decide +kernel
theorem dX9_labelledAs_57 : decode cX9_labelledAs 57 = .ok (.iload 7, 2) := by decide +kernel
theorem dX9_labelledAs_59 : decode cX9_labelledAs 59 = .ok (.imul, 1) := by decide +kernel
theorem dX9_labelledAs_60 : decode cX9_labelledAs 60 = .ok (.iadd, 1) := by decide +kernel
theorem dX9_labelledAs_61 : decode cX9_labelledAs 61 = .ok (.laload, 1) := by decide +kernel
theorem dX9_labelledAs_62 : decode cX9_labelledAs 62 = .ok (.aload_n 0, 1) := by decide +kernel
theorem dX9_labelledAs_63 : decode cX9_labelledAs 63 = .ok (.getfield 9, 3) := by decide +kernel
theorem dX9_labelledAs_66 : decode cX9_labelledAs 66 = .ok (.iload 5, 2) := by decide +kernel
theorem dX9_labelledAs_68 : decode cX9_labelledAs 68 = .ok (.iconst 1, 1) := by decide +kernel
theorem dX9_labelledAs_69 : decode cX9_labelledAs 69 = .ok (.iadd, 1) := by decide +kernel
theorem dX9_labelledAs_70 : decode cX9_labelledAs 70 = .ok (.iconst 3, 1) := by decide +kernel
theorem dX9_labelledAs_71 : decode cX9_labelledAs 71 = .ok (.iload 7, 2) := by decide +kernel
theorem dX9_labelledAs_73 : decode cX9_labelledAs 73 = .ok (.imul, 1) := by decide +kernel
theorem dX9_labelledAs_74 : decode cX9_labelledAs 74 = .ok (.iadd, 1) := by decide +kernel
theorem dX9_labelledAs_75 : decode cX9_labelledAs 75 = .ok (.laload, 1) := by decide +kernel
theorem dX9_labelledAs_76 : decode cX9_labelledAs 76 = .ok (.lsub, 1) := by decide +kernel
theorem dX9_labelledAs_77 : decode cX9_labelledAs 77 = .ok (.l2i, 1) := by decide +kernel
theorem dX9_labelledAs_78 : decode cX9_labelledAs 78 = .ok (.goto 4, 3) := by decide +kernel
theorem dX9_labelledAs_81 : decode cX9_labelledAs 81 = .ok (.iconst 0, 1) := by decide +kernel
theorem dX9_labelledAs_82 : decode cX9_labelledAs 82 = .ok (.iadd, 1) := by decide +kernel
theorem dX9_labelledAs_83 : decode cX9_labelledAs 83 = .ok (.istore 6, 2) := by decide +kernel
theorem dX9_labelledAs_85 : decode cX9_labelledAs 85 = .ok (.iinc 7 1, 3) := by decide +kernel
theorem dX9_labelledAs_88 : decode cX9_labelledAs 88 = .ok (.goto (-75), 3) := by decide +kernel
theorem dX9_labelledAs_91 : decode cX9_labelledAs 91 = .ok (.iload 6, 2) := by decide +kernel
theorem dX9_labelledAs_93 : decode cX9_labelledAs 93 = .ok (.ireturn, 1) := by decide +kernel
theorem dX9_products_0 : decode cX9_products 0 = .ok (.sipush 1000, 3) := by decide +kernel
theorem dX9_products_3 : decode cX9_products 3 = .ok (.aload_n 0, 1) := by decide +kernel
theorem dX9_products_4 : decode cX9_products 4 = .ok (.iconst 0, 1) := by decide +kernel
theorem dX9_products_5 : decode cX9_products 5 = .ok (.iload_n 1, 1) := by decide +kernel
theorem dX9_products_6 : decode cX9_products 6 = .ok (.invokevirtual 181, 3) := by decide +kernel
theorem dX9_products_9 : decode cX9_products 9 = .ok (.isub, 1) := by decide +kernel
theorem dX9_products_10 : decode cX9_products 10 = .ok (.sipush 1000, 3) := by decide +kernel
theorem dX9_products_13 : decode cX9_products 13 = .ok (.aload_n 0, 1) := by decide +kernel
theorem dX9_products_14 : decode cX9_products 14 = .ok (.iconst 1, 1) := by decide +kernel
theorem dX9_products_15 : decode cX9_products 15 = .ok (.iload_n 1, 1) := by decide +kernel
theorem dX9_products_16 : decode cX9_products 16 = .ok (.invokevirtual 181, 3) := by decide +kernel
theorem dX9_products_19 : decode cX9_products 19 = .ok (.isub, 1) := by decide +kernel
theorem dX9_products_20 : decode cX9_products 20 = .ok (.imul, 1) := by decide +kernel
theorem dX9_products_21 : decode cX9_products 21 = .ok (.istore_n 2, 1) := by decide +kernel
theorem dX9_products_22 : decode cX9_products 22 = .ok (.iconst 0, 1) := by decide +kernel
theorem dX9_products_23 : decode cX9_products 23 = .ok (.iload_n 1, 1) := by decide +kernel
theorem dX9_products_24 : decode cX9_products 24 = .ok (.invokestatic 142, 3) := by decide +kernel
theorem dX9_products_27 : decode cX9_products 27 = .ok (.istore_n 3, 1) := by decide +kernel
theorem dX9_products_28 : decode cX9_products 28 = .ok (.iconst 0, 1) := by decide +kernel
theorem dX9_products_29 : decode cX9_products 29 = .ok (.istore 4, 2) := by decide +kernel
theorem dX9_products_31 : decode cX9_products 31 = .ok (.iload 4, 2) := by decide +kernel
theorem dX9_products_33 : decode cX9_products 33 = .ok (.i2l, 1) := by decide +kernel
theorem dX9_products_34 : decode cX9_products 34 = .ok (.aload_n 0, 1) := by decide +kernel
theorem dX9_products_35 : decode cX9_products 35 = .ok (.getfield 9, 3) := by decide +kernel
theorem dX9_products_38 : decode cX9_products 38 = .ok (.iload_n 3, 1) := by decide +kernel
theorem dX9_products_39 : decode cX9_products 39 = .ok (.laload, 1) := by decide +kernel
theorem dX9_products_40 : decode cX9_products 40 = .ok (.lcmp, 1) := by decide +kernel
theorem dX9_products_41 : decode cX9_products 41 = .ok (.ifCond .ge 60, 3) := by decide +kernel
theorem dX9_products_44 : decode cX9_products 44 = .ok (.iload_n 2, 1) := by decide +kernel
theorem dX9_products_45 : decode cX9_products 45 = .ok (.aload_n 0, 1) := by decide +kernel
theorem dX9_products_46 : decode cX9_products 46 = .ok (.getfield 9, 3) := by decide +kernel
theorem dX9_products_49 : decode cX9_products 49 = .ok (.iload_n 3, 1) := by decide +kernel
theorem dX9_products_50 : decode cX9_products 50 = .ok (.iconst 2, 1) := by decide +kernel
theorem dX9_products_51 : decode cX9_products 51 = .ok (.iadd, 1) := by decide +kernel
theorem dX9_products_52 : decode cX9_products 52 = .ok (.iconst 3, 1) := by decide +kernel
theorem dX9_products_53 : decode cX9_products 53 = .ok (.iload 4, 2) := by decide +kernel
theorem dX9_products_55 : decode cX9_products 55 = .ok (.imul, 1) := by decide +kernel
theorem dX9_products_56 : decode cX9_products 56 = .ok (.iadd, 1) := by decide +kernel
theorem dX9_products_57 : decode cX9_products 57 = .ok (.laload, 1) := by decide +kernel
theorem dX9_products_58 : decode cX9_products 58 = .ok (.aload_n 0, 1) := by decide +kernel
theorem dX9_products_59 : decode cX9_products 59 = .ok (.getfield 9, 3) := by decide +kernel
theorem dX9_products_62 : decode cX9_products 62 = .ok (.iload_n 3, 1) := by decide +kernel
theorem dX9_products_63 : decode cX9_products 63 = .ok (.iconst 1, 1) := by decide +kernel
theorem dX9_products_64 : decode cX9_products 64 = .ok (.iadd, 1) := by decide +kernel
theorem dX9_products_65 : decode cX9_products 65 = .ok (.iconst 3, 1) := by decide +kernel
theorem dX9_products_66 : decode cX9_products 66 = .ok (.iload 4, 2) := by decide +kernel
theorem dX9_products_68 : decode cX9_products 68 = .ok (.imul, 1) := by decide +kernel
theorem dX9_products_69 : decode cX9_products 69 = .ok (.iadd, 1) := by decide +kernel
theorem dX9_products_70 : decode cX9_products 70 = .ok (.laload, 1) := by decide +kernel
theorem dX9_products_71 : decode cX9_products 71 = .ok (.lsub, 1) := by decide +kernel
theorem dX9_products_72 : decode cX9_products 72 = .ok (.l2i, 1) := by decide +kernel
theorem dX9_products_73 : decode cX9_products 73 = .ok (.aload_n 0, 1) := by decide +kernel
theorem dX9_products_74 : decode cX9_products 74 = .ok (.iconst 1, 1) := by decide +kernel
theorem dX9_products_75 : decode cX9_products 75 = .ok (.iload_n 1, 1) := by decide +kernel
theorem dX9_products_76 : decode cX9_products 76 = .ok (.aload_n 0, 1) := by decide +kernel
theorem dX9_products_77 : decode cX9_products 77 = .ok (.getfield 9, 3) := by decide +kernel
theorem dX9_products_80 : decode cX9_products 80 = .ok (.iload_n 3, 1) := by decide +kernel
theorem dX9_products_81 : decode cX9_products 81 = .ok (.iconst 3, 1) := by decide +kernel
theorem dX9_products_82 : decode cX9_products 82 = .ok (.iadd, 1) := by decide +kernel
theorem dX9_products_83 : decode cX9_products 83 = .ok (.iconst 3, 1) := by decide +kernel
theorem dX9_products_84 : decode cX9_products 84 = .ok (.iload 4, 2) := by decide +kernel
theorem dX9_products_86 : decode cX9_products 86 = .ok (.imul, 1) := by decide +kernel
theorem dX9_products_87 : decode cX9_products 87 = .ok (.iadd, 1) := by decide +kernel
theorem dX9_products_88 : decode cX9_products 88 = .ok (.laload, 1) := by decide +kernel
theorem dX9_products_89 : decode cX9_products 89 = .ok (.invokevirtual 373, 3) := by decide +kernel
theorem dX9_products_92 : decode cX9_products 92 = .ok (.imul, 1) := by decide +kernel
theorem dX9_products_93 : decode cX9_products 93 = .ok (.iadd, 1) := by decide +kernel
theorem dX9_products_94 : decode cX9_products 94 = .ok (.istore_n 2, 1) := by decide +kernel
theorem dX9_products_95 : decode cX9_products 95 = .ok (.iinc 4 1, 3) := by decide +kernel
theorem dX9_products_98 : decode cX9_products 98 = .ok (.goto (-67), 3) := by decide +kernel
theorem dX9_products_101 : decode cX9_products 101 = .ok (.iload_n 2, 1) := by decide +kernel
theorem dX9_products_102 : decode cX9_products 102 = .ok (.ireturn, 1) := by decide +kernel
theorem dX9_kappa_0 : decode cX9_kappa 0 = .ok (.aload_n 0, 1) := by decide +kernel
theorem dX9_kappa_1 : decode cX9_kappa 1 = .ok (.aload_n 0, 1) := by decide +kernel
theorem dX9_kappa_2 : decode cX9_kappa 2 = .ok (.iload_n 1, 1) := by decide +kernel
theorem dX9_kappa_3 : decode cX9_kappa 3 = .ok (.invokevirtual 130, 3) := by decide +kernel
theorem dX9_kappa_6 : decode cX9_kappa 6 = .ok (.ifCond .eq 7, 3) := by decide +kernel
theorem dX9_kappa_9 : decode cX9_kappa 9 = .ok (.iconst 0, 1) := by decide +kernel
theorem dX9_kappa_10 : decode cX9_kappa 10 = .ok (.goto 4, 3) := by decide +kernel
theorem dX9_kappa_13 : decode cX9_kappa 13 = .ok (.iconst 1, 1) := by decide +kernel
theorem dX9_kappa_14 : decode cX9_kappa 14 = .ok (.putfield 97, 3) := by decide +kernel
theorem dX9_kappa_17 : decode cX9_kappa 17 = .ok (.aload_n 0, 1) := by decide +kernel
theorem dX9_kappa_18 : decode cX9_kappa 18 = .ok (.getfield 97, 3) := by decide +kernel
theorem dX9_kappa_21 : decode cX9_kappa 21 = .ok (.ifCond .le 5, 3) := by decide +kernel
theorem dX9_kappa_24 : decode cX9_kappa 24 = .ok (.dconst 0, 1) := by decide +kernel
theorem dX9_kappa_25 : decode cX9_kappa 25 = .ok (.dreturn, 1) := by decide +kernel
theorem dX9_kappa_26 : decode cX9_kappa 26 = .ok (.aload_n 0, 1) := by decide +kernel
theorem dX9_kappa_27 : decode cX9_kappa 27 = .ok (.iload_n 1, 1) := by decide +kernel
theorem dX9_kappa_28 : decode cX9_kappa 28 = .ok (.invokevirtual 377, 3) := by decide +kernel
theorem dX9_kappa_31 : decode cX9_kappa 31 = .ok (.istore_n 2, 1) := by decide +kernel
theorem dX9_kappa_32 : decode cX9_kappa 32 = .ok (.aload_n 0, 1) := by decide +kernel
theorem dX9_kappa_33 : decode cX9_kappa 33 = .ok (.iload_n 2, 1) := by decide +kernel
theorem dX9_kappa_34 : decode cX9_kappa 34 = .ok (.ldc_w 380, 3) := by decide +kernel
theorem dX9_kappa_37 : decode cX9_kappa 37 = .ok (.if_icmp .ne 7, 3) := by decide +kernel
theorem dX9_kappa_40 : decode cX9_kappa 40 = .ok (.iconst 2, 1) := by decide +kernel
theorem dX9_kappa_41 : decode cX9_kappa 41 = .ok (.goto 4, 3) := by decide +kernel
theorem dX9_kappa_44 : decode cX9_kappa 44 = .ok (.iconst 0, 1) := by decide +kernel
theorem dX9_kappa_45 : decode cX9_kappa 45 = .ok (.putfield 97, 3) := by decide +kernel
theorem dX9_kappa_48 : decode cX9_kappa 48 = .ok (.aload_n 0, 1) := by decide +kernel
theorem dX9_kappa_49 : decode cX9_kappa 49 = .ok (.getfield 97, 3) := by decide +kernel
theorem dX9_kappa_52 : decode cX9_kappa 52 = .ok (.ifCond .le 5, 3) := by decide +kernel
theorem dX9_kappa_55 : decode cX9_kappa 55 = .ok (.dconst 0, 1) := by decide +kernel
theorem dX9_kappa_56 : decode cX9_kappa 56 = .ok (.dreturn, 1) := by decide +kernel
theorem dX9_kappa_57 : decode cX9_kappa 57 = .ok (.aload_n 0, 1) := by decide +kernel
theorem dX9_kappa_58 : decode cX9_kappa 58 = .ok (.iload_n 1, 1) := by decide +kernel
theorem dX9_kappa_59 : decode cX9_kappa 59 = .ok (.invokevirtual 370, 3) := by decide +kernel
theorem dX9_kappa_62 : decode cX9_kappa 62 = .ok (.aload_n 0, 1) := by decide +kernel
theorem dX9_kappa_63 : decode cX9_kappa 63 = .ok (.getfield 367, 3) := by decide +kernel
theorem dX9_kappa_66 : decode cX9_kappa 66 = .ok (.i2d, 1) := by decide +kernel
theorem dX9_kappa_67 : decode cX9_kappa 67 = .ok (.ldc2_w 381, 3) := by decide +kernel
theorem dX9_kappa_70 : decode cX9_kappa 70 = .ok (.ddiv, 1) := by decide +kernel
theorem dX9_kappa_71 : decode cX9_kappa 71 = .ok (.dstore_n 3, 1) := by decide +kernel
theorem dX9_kappa_72 : decode cX9_kappa 72 = .ok (.iload_n 2, 1) := by decide +kernel
theorem dX9_kappa_73 : decode cX9_kappa 73 = .ok (.i2d, 1) := by decide +kernel
theorem dX9_kappa_74 : decode cX9_kappa 74 = .ok (.ldc2_w 383, 3) := by decide +kernel
theorem dX9_kappa_77 : decode cX9_kappa 77 = .ok (.ddiv, 1) := by decide +kernel
theorem dX9_kappa_78 : decode cX9_kappa 78 = .ok (.dstore 5, 2) := by decide +kernel
theorem dX9_kappa_80 : decode cX9_kappa 80 = .ok (.dload_n 3, 1) := by decide +kernel
theorem dX9_kappa_81 : decode cX9_kappa 81 = .ok (.dload 5, 2) := by decide +kernel
theorem dX9_kappa_83 : decode cX9_kappa 83 = .ok (.dsub, 1) := by decide +kernel
theorem dX9_kappa_84 : decode cX9_kappa 84 = .ok (.dconst 1, 1) := by decide +kernel
theorem dX9_kappa_85 : decode cX9_kappa 85 = .ok (.dload 5, 2) := by decide +kernel
theorem dX9_kappa_87 : decode cX9_kappa 87 = .ok (.dsub, 1) := by decide +kernel
theorem dX9_kappa_88 : decode cX9_kappa 88 = .ok (.ddiv, 1) := by decide +kernel
theorem dX9_kappa_89 : decode cX9_kappa 89 = .ok (.dreturn, 1) := by decide +kernel
theorem dX9_isConsistent_0 : decode cX9_isConsistent 0 = .ok (.aload_n 0, 1) := by decide +kernel
theorem dX9_isConsistent_1 : decode cX9_isConsistent 1 = .ok (.iconst 0, 1) := by decide +kernel
theorem dX9_isConsistent_2 : decode cX9_isConsistent 2 = .ok (.putfield 97, 3) := by decide +kernel
theorem dX9_isConsistent_5 : decode cX9_isConsistent 5 = .ok (.iconst 1, 1) := by decide +kernel
theorem dX9_isConsistent_6 : decode cX9_isConsistent 6 = .ok (.ireturn, 1) := by decide +kernel
theorem dX9_number_0 : decode cX9_number 0 = .ok (.aload_n 0, 1) := by decide +kernel
theorem dX9_number_1 : decode cX9_number 1 = .ok (.aload_n 0, 1) := by decide +kernel
theorem dX9_number_2 : decode cX9_number 2 = .ok (.getfield 193, 3) := by decide +kernel
theorem dX9_number_5 : decode cX9_number 5 = .ok (.ifCond .ne 17, 3) := by decide +kernel
theorem dX9_number_8 : decode cX9_number 8 = .ok (.aload_n 0, 1) := by decide +kernel
theorem dX9_number_9 : decode cX9_number 9 = .ok (.invokevirtual 197, 3) := by decide +kernel
theorem dX9_number_12 : decode cX9_number 12 = .ok (.bipush 48, 2) := by decide +kernel
theorem dX9_number_14 : decode cX9_number 14 = .ok (.bipush 57, 2) := by decide +kernel
theorem dX9_number_16 : decode cX9_number 16 = .ok (.invokestatic 126, 3) := by decide +kernel
theorem dX9_number_19 : decode cX9_number 19 = .ok (.ifCond .ne 7, 3) := by decide +kernel
theorem dX9_number_22 : decode cX9_number 22 = .ok (.iconst 1, 1) := by decide +kernel
theorem dX9_number_23 : decode cX9_number 23 = .ok (.goto 4, 3) := by decide +kernel
theorem dX9_number_26 : decode cX9_number 26 = .ok (.iconst 0, 1) := by decide +kernel
theorem dX9_number_27 : decode cX9_number 27 = .ok (.putfield 193, 3) := by decide +kernel
theorem dX9_number_30 : decode cX9_number 30 = .ok (.iconst 0, 1) := by decide +kernel
theorem dX9_number_31 : decode cX9_number 31 = .ok (.istore_n 1, 1) := by decide +kernel
theorem dX9_number_32 : decode cX9_number 32 = .ok (.aload_n 0, 1) := by decide +kernel
theorem dX9_number_33 : decode cX9_number 33 = .ok (.invokevirtual 197, 3) := by decide +kernel
theorem dX9_number_36 : decode cX9_number 36 = .ok (.bipush 48, 2) := by decide +kernel
theorem dX9_number_38 : decode cX9_number 38 = .ok (.if_icmp .ne 7, 3) := by decide +kernel
theorem dX9_number_41 : decode cX9_number 41 = .ok (.iconst 1, 1) := by decide +kernel
theorem dX9_number_42 : decode cX9_number 42 = .ok (.goto 4, 3) := by decide +kernel
theorem dX9_number_45 : decode cX9_number 45 = .ok (.iconst 4, 1) := by decide +kernel
theorem dX9_number_46 : decode cX9_number 46 = .ok (.istore_n 2, 1) := by decide +kernel
theorem dX9_number_47 : decode cX9_number 47 = .ok (.iconst 0, 1) := by decide +kernel
theorem dX9_number_48 : decode cX9_number 48 = .ok (.istore_n 3, 1) := by decide +kernel
theorem dX9_number_49 : decode cX9_number 49 = .ok (.iload_n 3, 1) := by decide +kernel
theorem dX9_number_50 : decode cX9_number 50 = .ok (.iload_n 2, 1) := by decide +kernel
theorem dX9_number_51 : decode cX9_number 51 = .ok (.if_icmp .ge 53, 3) := by decide +kernel
theorem dX9_number_54 : decode cX9_number 54 = .ok (.aload_n 0, 1) := by decide +kernel
theorem dX9_number_55 : decode cX9_number 55 = .ok (.getfield 193, 3) := by decide +kernel
theorem dX9_number_58 : decode cX9_number 58 = .ok (.ifCond .ne 46, 3) := by decide +kernel
theorem dX9_number_61 : decode cX9_number 61 = .ok (.aload_n 0, 1) := by decide +kernel
theorem dX9_number_62 : decode cX9_number 62 = .ok (.invokevirtual 197, 3) := by decide +kernel
theorem dX9_number_65 : decode cX9_number 65 = .ok (.bipush 48, 2) := by decide +kernel
theorem dX9_number_67 : decode cX9_number 67 = .ok (.bipush 57, 2) := by decide +kernel
theorem dX9_number_69 : decode cX9_number 69 = .ok (.invokestatic 126, 3) := by decide +kernel
theorem dX9_number_72 : decode cX9_number 72 = .ok (.ifCond .eq 32, 3) := by decide +kernel
theorem dX9_number_75 : decode cX9_number 75 = .ok (.bipush 10, 2) := by decide +kernel
theorem dX9_number_77 : decode cX9_number 77 = .ok (.iload_n 1, 1) := by decide +kernel
theorem dX9_number_78 : decode cX9_number 78 = .ok (.imul, 1) := by decide +kernel
theorem dX9_number_79 : decode cX9_number 79 = .ok (.aload_n 0, 1) := by decide +kernel
theorem dX9_number_80 : decode cX9_number 80 = .ok (.invokevirtual 197, 3) := by decide +kernel
theorem dX9_number_83 : decode cX9_number 83 = .ok (.iadd, 1) := by decide +kernel
theorem dX9_number_84 : decode cX9_number 84 = .ok (.bipush 48, 2) := by decide +kernel
theorem dX9_number_86 : decode cX9_number 86 = .ok (.isub, 1) := by decide +kernel
theorem dX9_number_87 : decode cX9_number 87 = .ok (.istore_n 1, 1) := by decide +kernel
theorem dX9_number_88 : decode cX9_number 88 = .ok (.aload_n 0, 1) := by decide +kernel
theorem dX9_number_89 : decode cX9_number 89 = .ok (.dup, 1) := by decide +kernel
theorem dX9_number_90 : decode cX9_number 90 = .ok (.getfield 190, 3) := by decide +kernel
theorem dX9_number_93 : decode cX9_number 93 = .ok (.iconst 1, 1) := by decide +kernel
theorem dX9_number_94 : decode cX9_number 94 = .ok (.iadd, 1) := by decide +kernel
theorem dX9_number_95 : decode cX9_number 95 = .ok (.putfield 190, 3) := by decide +kernel
theorem dX9_number_98 : decode cX9_number 98 = .ok (.iinc 3 1, 3) := by decide +kernel
theorem dX9_number_101 : decode cX9_number 101 = .ok (.goto (-52), 3) := by decide +kernel
theorem dX9_number_104 : decode cX9_number 104 = .ok (.iload_n 1, 1) := by decide +kernel
theorem dX9_number_105 : decode cX9_number 105 = .ok (.ireturn, 1) := by decide +kernel
theorem dX9_readItem_0 : decode cX9_readItem 0 = .ok (.aload_n 0, 1) := by decide +kernel
theorem dX9_readItem_1 : decode cX9_readItem 1 = .ok (.getfield 79, 3) := by decide +kernel
theorem dX9_readItem_4 : decode cX9_readItem 4 = .ok (.aload_n 0, 1) := by decide +kernel
theorem dX9_readItem_5 : decode cX9_readItem 5 = .ok (.getfield 385, 3) := by decide +kernel
theorem dX9_readItem_8 : decode cX9_readItem 8 = .ok (.aload_n 0, 1) := by decide +kernel
theorem dX9_readItem_9 : decode cX9_readItem 9 = .ok (.invokevirtual 300, 3) := by decide +kernel
theorem dX9_readItem_12 : decode cX9_readItem 12 = .ok (.iastore, 1) := by decide +kernel
theorem dX9_readItem_13 : decode cX9_readItem 13 = .ok (.aload_n 0, 1) := by decide +kernel
theorem dX9_readItem_14 : decode cX9_readItem 14 = .ok (.bipush 58, 2) := by decide +kernel
theorem dX9_readItem_16 : decode cX9_readItem 16 = .ok (.invokevirtual 303, 3) := by decide +kernel
theorem dX9_readItem_19 : decode cX9_readItem 19 = .ok (.aload_n 0, 1) := by decide +kernel
theorem dX9_readItem_20 : decode cX9_readItem 20 = .ok (.getfield 82, 3) := by decide +kernel
theorem dX9_readItem_23 : decode cX9_readItem 23 = .ok (.aload_n 0, 1) := by decide +kernel
theorem dX9_readItem_24 : decode cX9_readItem 24 = .ok (.getfield 385, 3) := by decide +kernel
theorem dX9_readItem_27 : decode cX9_readItem 27 = .ok (.aload_n 0, 1) := by decide +kernel
theorem dX9_readItem_28 : decode cX9_readItem 28 = .ok (.invokevirtual 388, 3) := by decide +kernel
theorem dX9_readItem_31 : decode cX9_readItem 31 = .ok (.iastore, 1) := by decide +kernel
theorem dX9_readItem_32 : decode cX9_readItem 32 = .ok (.aload_n 0, 1) := by decide +kernel
theorem dX9_readItem_33 : decode cX9_readItem 33 = .ok (.bipush 45, 2) := by decide +kernel
theorem dX9_readItem_35 : decode cX9_readItem 35 = .ok (.invokevirtual 303, 3) := by decide +kernel
theorem dX9_readItem_38 : decode cX9_readItem 38 = .ok (.aload_n 0, 1) := by decide +kernel
theorem dX9_readItem_39 : decode cX9_readItem 39 = .ok (.getfield 85, 3) := by decide +kernel
theorem dX9_readItem_42 : decode cX9_readItem 42 = .ok (.aload_n 0, 1) := by decide +kernel
theorem dX9_readItem_43 : decode cX9_readItem 43 = .ok (.getfield 385, 3) := by decide +kernel
theorem dX9_readItem_46 : decode cX9_readItem 46 = .ok (.aload_n 0, 1) := by decide +kernel
theorem dX9_readItem_47 : decode cX9_readItem 47 = .ok (.invokevirtual 388, 3) := by decide +kernel
theorem dX9_readItem_50 : decode cX9_readItem 50 = .ok (.iastore, 1) := by decide +kernel
theorem dX9_readItem_51 : decode cX9_readItem 51 = .ok (.aload_n 0, 1) := by decide +kernel
theorem dX9_readItem_52 : decode cX9_readItem 52 = .ok (.bipush 61, 2) := by decide +kernel
theorem dX9_readItem_54 : decode cX9_readItem 54 = .ok (.invokevirtual 303, 3) := by decide +kernel
theorem dX9_readItem_57 : decode cX9_readItem 57 = .ok (.aload_n 0, 1) := by decide +kernel
theorem dX9_readItem_58 : decode cX9_readItem 58 = .ok (.getfield 88, 3) := by decide +kernel
theorem dX9_readItem_61 : decode cX9_readItem 61 = .ok (.aload_n 0, 1) := by decide +kernel
theorem dX9_readItem_62 : decode cX9_readItem 62 = .ok (.getfield 385, 3) := by decide +kernel
theorem dX9_readItem_65 : decode cX9_readItem 65 = .ok (.aload_n 0, 1) := by decide +kernel
theorem dX9_readItem_66 : decode cX9_readItem 66 = .ok (.aload_n 0, 1) := by decide +kernel
theorem dX9_readItem_67 : decode cX9_readItem 67 = .ok (.getfield 193, 3) := by decide +kernel
theorem dX9_readItem_70 : decode cX9_readItem 70 = .ok (.ifCond .eq 7, 3) := by decide +kernel
theorem dX9_readItem_73 : decode cX9_readItem 73 = .ok (.iconst 0, 1) := by decide +kernel
theorem dX9_readItem_74 : decode cX9_readItem 74 = .ok (.goto 16, 3) := by decide +kernel
theorem dX9_readItem_77 : decode cX9_readItem 77 = .ok (.aload_n 0, 1) := by decide +kernel
theorem dX9_readItem_78 : decode cX9_readItem 78 = .ok (.aload_n 0, 1) := by decide +kernel
theorem dX9_readItem_79 : decode cX9_readItem 79 = .ok (.getfield 79, 3) := by decide +kernel
theorem dX9_readItem_82 : decode cX9_readItem 82 = .ok (.aload_n 0, 1) := by decide +kernel
theorem dX9_readItem_83 : decode cX9_readItem 83 = .ok (.getfield 385, 3) := by decide +kernel
theorem dX9_readItem_86 : decode cX9_readItem 86 = .ok (.iaload, 1) := by decide +kernel
theorem dX9_readItem_87 : decode cX9_readItem 87 = .ok (.invokevirtual 233, 3) := by decide +kernel
theorem dX9_readItem_90 : decode cX9_readItem 90 = .ok (.invokevirtual 236, 3) := by decide +kernel
theorem dX9_readItem_93 : decode cX9_readItem 93 = .ok (.lastore, 1) := by decide +kernel
theorem dX9_readItem_94 : decode cX9_readItem 94 = .ok (.aload_n 0, 1) := by decide +kernel
theorem dX9_readItem_95 : decode cX9_readItem 95 = .ok (.dup, 1) := by decide +kernel
theorem dX9_readItem_96 : decode cX9_readItem 96 = .ok (.getfield 385, 3) := by decide +kernel
theorem dX9_readItem_99 : decode cX9_readItem 99 = .ok (.iconst 1, 1) := by decide +kernel
theorem dX9_readItem_100 : decode cX9_readItem 100 = .ok (.iadd, 1) := by decide +kernel
theorem dX9_readItem_101 : decode cX9_readItem 101 = .ok (.putfield 385, 3) := by decide +kernel
theorem dX9_readItem_104 : decode cX9_readItem 104 = .ok (.return_, 1) := by decide +kernel
theorem dX9_read_0 : decode cX9_read 0 = .ok (.aload_n 0, 1) := by decide +kernel
theorem dX9_read_1 : decode cX9_read 1 = .ok (.invokevirtual 230, 3) := by decide +kernel
theorem dX9_read_4 : decode cX9_read 4 = .ok (.aload_n 0, 1) := by decide +kernel
theorem dX9_read_5 : decode cX9_read 5 = .ok (.iconst 0, 1) := by decide +kernel
theorem dX9_read_6 : decode cX9_read 6 = .ok (.putfield 385, 3) := by decide +kernel
theorem dX9_read_9 : decode cX9_read 9 = .ok (.aload_n 0, 1) := by decide +kernel
theorem dX9_read_10 : decode cX9_read 10 = .ok (.invokevirtual 391, 3) := by decide +kernel
theorem dX9_read_13 : decode cX9_read 13 = .ok (.aload_n 0, 1) := by decide +kernel
theorem dX9_read_14 : decode cX9_read 14 = .ok (.getfield 193, 3) := by decide +kernel
theorem dX9_read_17 : decode cX9_read 17 = .ok (.ifCond .ne 27, 3) := by decide +kernel
theorem dX9_read_20 : decode cX9_read 20 = .ok (.aload_n 0, 1) := by decide +kernel
theorem dX9_read_21 : decode cX9_read 21 = .ok (.getfield 190, 3) := by decide +kernel
theorem dX9_read_24 : decode cX9_read 24 = .ok (.aload_n 0, 1) := by decide +kernel
theorem dX9_read_25 : decode cX9_read 25 = .ok (.getfield 187, 3) := by decide +kernel
theorem dX9_read_28 : decode cX9_read 28 = .ok (.if_icmp .ge 16, 3) := by decide +kernel
theorem dX9_read_31 : decode cX9_read 31 = .ok (.aload_n 0, 1) := by decide +kernel
theorem dX9_read_32 : decode cX9_read 32 = .ok (.bipush 59, 2) := by decide +kernel
theorem dX9_read_34 : decode cX9_read 34 = .ok (.invokevirtual 303, 3) := by decide +kernel
theorem dX9_read_37 : decode cX9_read 37 = .ok (.aload_n 0, 1) := by decide +kernel
theorem dX9_read_38 : decode cX9_read 38 = .ok (.invokevirtual 391, 3) := by decide +kernel
theorem dX9_read_41 : decode cX9_read 41 = .ok (.goto (-28), 3) := by decide +kernel
theorem dX9_read_44 : decode cX9_read 44 = .ok (.aload_n 0, 1) := by decide +kernel
theorem dX9_read_45 : decode cX9_read 45 = .ok (.aload_n 0, 1) := by decide +kernel
theorem dX9_read_46 : decode cX9_read 46 = .ok (.invokevirtual 240, 3) := by decide +kernel
theorem dX9_read_49 : decode cX9_read 49 = .ok (.ifCond .eq 7, 3) := by decide +kernel
theorem dX9_read_52 : decode cX9_read 52 = .ok (.iconst 1, 1) := by decide +kernel
theorem dX9_read_53 : decode cX9_read 53 = .ok (.goto 4, 3) := by decide +kernel
theorem dX9_read_56 : decode cX9_read 56 = .ok (.iconst 0, 1) := by decide +kernel
theorem dX9_read_57 : decode cX9_read 57 = .ok (.putfield 97, 3) := by decide +kernel
theorem dX9_read_60 : decode cX9_read 60 = .ok (.aload_n 0, 1) := by decide +kernel
theorem dX9_read_61 : decode cX9_read 61 = .ok (.getfield 97, 3) := by decide +kernel
theorem dX9_read_64 : decode cX9_read 64 = .ok (.ifCond .le 5, 3) := by decide +kernel
theorem dX9_read_67 : decode cX9_read 67 = .ok (.iconst 0, 1) := by decide +kernel
theorem dX9_read_68 : decode cX9_read 68 = .ok (.ireturn, 1) := by decide +kernel
theorem dX9_read_69 : decode cX9_read 69 = .ok (.aload_n 0, 1) := by decide +kernel
theorem dX9_read_70 : decode cX9_read 70 = .ok (.invokevirtual 116, 3) := by decide +kernel
theorem dX9_read_73 : decode cX9_read 73 = .ok (.iconst 0, 1) := by decide +kernel
theorem dX9_read_74 : decode cX9_read 74 = .ok (.istore_n 1, 1) := by decide +kernel
theorem dX9_read_75 : decode cX9_read 75 = .ok (.iload_n 1, 1) := by decide +kernel
theorem dX9_read_76 : decode cX9_read 76 = .ok (.aload_n 0, 1) := by decide +kernel
theorem dX9_read_77 : decode cX9_read 77 = .ok (.getfield 385, 3) := by decide +kernel
theorem dX9_read_80 : decode cX9_read 80 = .ok (.if_icmp .ge 56, 3) := by decide +kernel
theorem dX9_read_83 : decode cX9_read 83 = .ok (.aload_n 0, 1) := by decide +kernel
theorem dX9_read_84 : decode cX9_read 84 = .ok (.aload_n 0, 1) := by decide +kernel
theorem dX9_read_85 : decode cX9_read 85 = .ok (.getfield 79, 3) := by decide +kernel
theorem dX9_read_88 : decode cX9_read 88 = .ok (.iload_n 1, 1) := by decide +kernel
theorem dX9_read_89 : decode cX9_read 89 = .ok (.iaload, 1) := by decide +kernel
theorem dX9_read_90 : decode cX9_read 90 = .ok (.aload_n 0, 1) := by decide +kernel
theorem dX9_read_91 : decode cX9_read 91 = .ok (.getfield 82, 3) := by decide +kernel
theorem dX9_read_94 : decode cX9_read 94 = .ok (.iload_n 1, 1) := by decide +kernel
theorem dX9_read_95 : decode cX9_read 95 = .ok (.iaload, 1) := by decide +kernel
theorem dX9_read_96 : decode cX9_read 96 = .ok (.aload_n 0, 1) := by decide +kernel
theorem dX9_read_97 : decode cX9_read 97 = .ok (.getfield 85, 3) := by decide +kernel
theorem dX9_read_100 : decode cX9_read 100 = .ok (.iload_n 1, 1) := by decide +kernel
theorem dX9_read_101 : decode cX9_read 101 = .ok (.iaload, 1) := by decide +kernel
theorem dX9_read_102 : decode cX9_read 102 = .ok (.aload_n 0, 1) := by decide +kernel
theorem dX9_read_103 : decode cX9_read 103 = .ok (.getfield 88, 3) := by decide +kernel
theorem dX9_read_106 : decode cX9_read 106 = .ok (.iload_n 1, 1) := by decide +kernel
theorem dX9_read_107 : decode cX9_read 107 = .ok (.laload, 1) := by decide +kernel
theorem dX9_read_108 : decode cX9_read 108 = .ok (.invokevirtual 244, 3) := by decide +kernel
theorem dX9_read_111 : decode cX9_read 111 = .ok (.ifCond .ge 19, 3) := by decide +kernel
theorem dX9_read_114 : decode cX9_read 114 = .ok (.aload_n 0, 1) := by decide +kernel
theorem dX9_read_115 : decode cX9_read 115 = .ok (.invokevirtual 257, 3) := by decide +kernel
theorem dX9_read_118 : decode cX9_read 118 = .ok (.aload_n 0, 1) := by decide +kernel
theorem dX9_read_119 : decode cX9_read 119 = .ok (.iload_n 1, 1) := by decide +kernel
theorem dX9_read_120 : decode cX9_read 120 = .ok (.putfield 91, 3) := by decide +kernel
theorem dX9_read_123 : decode cX9_read 123 = .ok (.aload_n 0, 1) := by decide +kernel
theorem dX9_read_124 : decode cX9_read 124 = .ok (.iconst 2, 1) := by decide +kernel
theorem dX9_read_125 : decode cX9_read 125 = .ok (.putfield 97, 3) := by decide +kernel
theorem dX9_read_128 : decode cX9_read 128 = .ok (.iconst 0, 1) := by decide +kernel
theorem dX9_read_129 : decode cX9_read 129 = .ok (.ireturn, 1) := by decide +kernel
theorem dX9_read_130 : decode cX9_read 130 = .ok (.iinc 1 1, 3) := by decide +kernel
theorem dX9_read_133 : decode cX9_read 133 = .ok (.goto (-58), 3) := by decide +kernel
theorem dX9_read_136 : decode cX9_read 136 = .ok (.aload_n 0, 1) := by decide +kernel
theorem dX9_read_137 : decode cX9_read 137 = .ok (.invokevirtual 119, 3) := by decide +kernel
theorem dX9_read_140 : decode cX9_read 140 = .ok (.aload_n 0, 1) := by decide +kernel
theorem dX9_read_141 : decode cX9_read 141 = .ok (.getfield 385, 3) := by decide +kernel
theorem dX9_read_144 : decode cX9_read 144 = .ok (.ireturn, 1) := by decide +kernel
theorem dX9_errorPosition_0 : decode cX9_errorPosition 0 = .ok (.aload_n 0, 1) := by decide +kernel
theorem dX9_errorPosition_1 : decode cX9_errorPosition 1 = .ok (.aload_n 0, 1) := by decide +kernel
theorem dX9_errorPosition_2 : decode cX9_errorPosition 2 = .ok (.getfield 26, 3) := by decide +kernel
theorem dX9_errorPosition_5 : decode cX9_errorPosition 5 = .ok (.ifCond .ge 7, 3) := by decide +kernel
theorem dX9_errorPosition_8 : decode cX9_errorPosition 8 = .ok (.iconst 1, 1) := by decide +kernel
theorem dX9_errorPosition_9 : decode cX9_errorPosition 9 = .ok (.goto 4, 3) := by decide +kernel
theorem dX9_errorPosition_12 : decode cX9_errorPosition 12 = .ok (.iconst 0, 1) := by decide +kernel
theorem dX9_errorPosition_13 : decode cX9_errorPosition 13 = .ok (.putfield 97, 3) := by decide +kernel
theorem dX9_errorPosition_16 : decode cX9_errorPosition 16 = .ok (.aload_n 0, 1) := by decide +kernel
theorem dX9_errorPosition_17 : decode cX9_errorPosition 17 = .ok (.getfield 97, 3) := by decide +kernel
theorem dX9_errorPosition_20 : decode cX9_errorPosition 20 = .ok (.ifCond .le 7, 3) := by decide +kernel
theorem dX9_errorPosition_23 : decode cX9_errorPosition 23 = .ok (.iconst 0, 1) := by decide +kernel
theorem dX9_errorPosition_24 : decode cX9_errorPosition 24 = .ok (.goto 7, 3) := by decide +kernel
theorem dX9_errorPosition_27 : decode cX9_errorPosition 27 = .ok (.aload_n 0, 1) := by decide +kernel
theorem dX9_errorPosition_28 : decode cX9_errorPosition 28 = .ok (.getfield 26, 3) := by decide +kernel
theorem dX9_errorPosition_31 : decode cX9_errorPosition 31 = .ok (.ireturn, 1) := by decide +kernel
theorem dX9_refusedItem_0 : decode cX9_refusedItem 0 = .ok (.aload_n 0, 1) := by decide +kernel
theorem dX9_refusedItem_1 : decode cX9_refusedItem 1 = .ok (.aload_n 0, 1) := by decide +kernel
theorem dX9_refusedItem_2 : decode cX9_refusedItem 2 = .ok (.getfield 91, 3) := by decide +kernel
theorem dX9_refusedItem_5 : decode cX9_refusedItem 5 = .ok (.ifCond .ge 7, 3) := by decide +kernel
theorem dX9_refusedItem_8 : decode cX9_refusedItem 8 = .ok (.iconst 1, 1) := by decide +kernel
theorem dX9_refusedItem_9 : decode cX9_refusedItem 9 = .ok (.goto 4, 3) := by decide +kernel
theorem dX9_refusedItem_12 : decode cX9_refusedItem 12 = .ok (.iconst 0, 1) := by decide +kernel
theorem dX9_refusedItem_13 : decode cX9_refusedItem 13 = .ok (.putfield 97, 3) := by decide +kernel
theorem dX9_refusedItem_16 : decode cX9_refusedItem 16 = .ok (.aload_n 0, 1) := by decide +kernel
theorem dX9_refusedItem_17 : decode cX9_refusedItem 17 = .ok (.getfield 97, 3) := by decide +kernel
theorem dX9_refusedItem_20 : decode cX9_refusedItem 20 = .ok (.ifCond .le 7, 3) := by decide +kernel
theorem dX9_refusedItem_23 : decode cX9_refusedItem 23 = .ok (.iconst 0, 1) := by decide +kernel
theorem dX9_refusedItem_24 : decode cX9_refusedItem 24 = .ok (.goto 7, 3) := by decide +kernel
theorem dX9_refusedItem_27 : decode cX9_refusedItem 27 = .ok (.aload_n 0, 1) := by decide +kernel
theorem dX9_refusedItem_28 : decode cX9_refusedItem 28 = .ok (.getfield 91, 3) := by decide +kernel
theorem dX9_refusedItem_31 : decode cX9_refusedItem 31 = .ok (.ireturn, 1) := by decide +kernel
theorem dX9_undo_0 : decode cX9_undo 0 = .ok (.aload_n 0, 1) := by decide +kernel
theorem dX9_undo_1 : decode cX9_undo 1 = .ok (.aload_n 0, 1) := by decide +kernel
theorem dX9_undo_2 : decode cX9_undo 2 = .ok (.getfield 104, 3) := by decide +kernel
theorem dX9_undo_5 : decode cX9_undo 5 = .ok (.ifCond .ne 7, 3) := by decide +kernel
theorem dX9_undo_8 : decode cX9_undo 8 = .ok (.iconst 1, 1) := by decide +kernel
theorem dX9_undo_9 : decode cX9_undo 9 = .ok (.goto 4, 3) := by decide +kernel
theorem dX9_undo_12 : decode cX9_undo 12 = .ok (.iconst 0, 1) := by decide +kernel
theorem dX9_undo_13 : decode cX9_undo 13 = .ok (.putfield 97, 3) := by decide +kernel
theorem dX9_undo_16 : decode cX9_undo 16 = .ok (.aload_n 0, 1) := by decide +kernel
theorem dX9_undo_17 : decode cX9_undo 17 = .ok (.getfield 97, 3) := by decide +kernel
theorem dX9_undo_20 : decode cX9_undo 20 = .ok (.ifCond .le 5, 3) := by decide +kernel
theorem dX9_undo_23 : decode cX9_undo 23 = .ok (.iconst 0, 1) := by decide +kernel
theorem dX9_undo_24 : decode cX9_undo 24 = .ok (.ireturn, 1) := by decide +kernel
theorem dX9_undo_25 : decode cX9_undo 25 = .ok (.aload_n 0, 1) := by decide +kernel
theorem dX9_undo_26 : decode cX9_undo 26 = .ok (.dup, 1) := by decide +kernel
theorem dX9_undo_27 : decode cX9_undo 27 = .ok (.getfield 104, 3) := by decide +kernel
theorem dX9_undo_30 : decode cX9_undo 30 = .ok (.iconst 1, 1) := by decide +kernel
theorem dX9_undo_31 : decode cX9_undo 31 = .ok (.isub, 1) := by decide +kernel
theorem dX9_undo_32 : decode cX9_undo 32 = .ok (.putfield 104, 3) := by decide +kernel
theorem dX9_undo_35 : decode cX9_undo 35 = .ok (.aload_n 0, 1) := by decide +kernel
theorem dX9_undo_36 : decode cX9_undo 36 = .ok (.getfield 19, 3) := by decide +kernel
theorem dX9_undo_39 : decode cX9_undo 39 = .ok (.sipush 1114, 3) := by decide +kernel
theorem dX9_undo_42 : decode cX9_undo 42 = .ok (.aload_n 0, 1) := by decide +kernel
theorem dX9_undo_43 : decode cX9_undo 43 = .ok (.getfield 104, 3) := by decide +kernel
theorem dX9_undo_46 : decode cX9_undo 46 = .ok (.imul, 1) := by decide +kernel
theorem dX9_undo_47 : decode cX9_undo 47 = .ok (.aload_n 0, 1) := by decide +kernel
theorem dX9_undo_48 : decode cX9_undo 48 = .ok (.getfield 9, 3) := by decide +kernel
theorem dX9_undo_51 : decode cX9_undo 51 = .ok (.iconst 0, 1) := by decide +kernel
theorem dX9_undo_52 : decode cX9_undo 52 = .ok (.sipush 1114, 3) := by decide +kernel
theorem dX9_undo_55 : decode cX9_undo 55 = .ok (.invokestatic 110, 3) := by decide +kernel
theorem dX9_undo_58 : decode cX9_undo 58 = .ok (.aload_n 0, 1) := by decide +kernel
theorem dX9_undo_59 : decode cX9_undo 59 = .ok (.getfield 104, 3) := by decide +kernel
theorem dX9_undo_62 : decode cX9_undo 62 = .ok (.ireturn, 1) := by decide +kernel
theorem dX9_snapshot_0 : decode cX9_snapshot 0 = .ok (.aload_n 0, 1) := by decide +kernel
theorem dX9_snapshot_1 : decode cX9_snapshot 1 = .ok (.iconst 0, 1) := by decide +kernel
theorem dX9_snapshot_2 : decode cX9_snapshot 2 = .ok (.putfield 97, 3) := by decide +kernel
theorem dX9_snapshot_5 : decode cX9_snapshot 5 = .ok (.aload_n 0, 1) := by decide +kernel
theorem dX9_snapshot_6 : decode cX9_snapshot 6 = .ok (.getfield 9, 3) := by decide +kernel
theorem dX9_snapshot_9 : decode cX9_snapshot 9 = .ok (.iconst 0, 1) := by decide +kernel
theorem dX9_snapshot_10 : decode cX9_snapshot 10 = .ok (.aload_n 0, 1) := by decide +kernel
theorem dX9_snapshot_11 : decode cX9_snapshot 11 = .ok (.getfield 16, 3) := by decide +kernel
theorem dX9_snapshot_14 : decode cX9_snapshot 14 = .ok (.iconst 0, 1) := by decide +kernel
theorem dX9_snapshot_15 : decode cX9_snapshot 15 = .ok (.sipush 1114, 3) := by decide +kernel
theorem dX9_snapshot_18 : decode cX9_snapshot 18 = .ok (.invokestatic 110, 3) := by decide +kernel
theorem dX9_snapshot_21 : decode cX9_snapshot 21 = .ok (.aload_n 0, 1) := by decide +kernel
theorem dX9_snapshot_22 : decode cX9_snapshot 22 = .ok (.iconst 1, 1) := by decide +kernel
theorem dX9_snapshot_23 : decode cX9_snapshot 23 = .ok (.putfield 394, 3) := by decide +kernel
theorem dX9_snapshot_26 : decode cX9_snapshot 26 = .ok (.aload_n 0, 1) := by decide +kernel
theorem dX9_snapshot_27 : decode cX9_snapshot 27 = .ok (.invokevirtual 122, 3) := by decide +kernel
theorem dX9_snapshot_30 : decode cX9_snapshot 30 = .ok (.ireturn, 1) := by decide +kernel
theorem dX9_restore_0 : decode cX9_restore 0 = .ok (.aload_n 0, 1) := by decide +kernel
theorem dX9_restore_1 : decode cX9_restore 1 = .ok (.aload_n 0, 1) := by decide +kernel
theorem dX9_restore_2 : decode cX9_restore 2 = .ok (.getfield 394, 3) := by decide +kernel
theorem dX9_restore_5 : decode cX9_restore 5 = .ok (.ifCond .eq 7, 3) := by decide +kernel
theorem dX9_restore_8 : decode cX9_restore 8 = .ok (.iconst 0, 1) := by decide +kernel
theorem dX9_restore_9 : decode cX9_restore 9 = .ok (.goto 4, 3) := by decide +kernel
theorem dX9_restore_12 : decode cX9_restore 12 = .ok (.iconst 1, 1) := by decide +kernel
theorem dX9_restore_13 : decode cX9_restore 13 = .ok (.putfield 97, 3) := by decide +kernel
theorem dX9_restore_16 : decode cX9_restore 16 = .ok (.aload_n 0, 1) := by decide +kernel
theorem dX9_restore_17 : decode cX9_restore 17 = .ok (.getfield 97, 3) := by decide +kernel
theorem dX9_restore_20 : decode cX9_restore 20 = .ok (.ifCond .le 5, 3) := by decide +kernel
theorem dX9_restore_23 : decode cX9_restore 23 = .ok (.iconst 0, 1) := by decide +kernel
theorem dX9_restore_24 : decode cX9_restore 24 = .ok (.ireturn, 1) := by decide +kernel
theorem dX9_restore_25 : decode cX9_restore 25 = .ok (.aload_n 0, 1) := by decide +kernel
theorem dX9_restore_26 : decode cX9_restore 26 = .ok (.getfield 16, 3) := by decide +kernel
theorem dX9_restore_29 : decode cX9_restore 29 = .ok (.iconst 0, 1) := by decide +kernel
theorem dX9_restore_30 : decode cX9_restore 30 = .ok (.aload_n 0, 1) := by decide +kernel
theorem dX9_restore_31 : decode cX9_restore 31 = .ok (.getfield 9, 3) := by decide +kernel
theorem dX9_restore_34 : decode cX9_restore 34 = .ok (.iconst 0, 1) := by decide +kernel
theorem dX9_restore_35 : decode cX9_restore 35 = .ok (.sipush 1114, 3) := by decide +kernel
theorem dX9_restore_38 : decode cX9_restore 38 = .ok (.invokestatic 110, 3) := by decide +kernel
theorem dX9_restore_41 : decode cX9_restore 41 = .ok (.aload_n 0, 1) := by decide +kernel
theorem dX9_restore_42 : decode cX9_restore 42 = .ok (.iconst 0, 1) := by decide +kernel
theorem dX9_restore_43 : decode cX9_restore 43 = .ok (.putfield 104, 3) := by decide +kernel
theorem dX9_restore_46 : decode cX9_restore 46 = .ok (.aload_n 0, 1) := by decide +kernel
theorem dX9_restore_47 : decode cX9_restore 47 = .ok (.invokevirtual 122, 3) := by decide +kernel
theorem dX9_restore_50 : decode cX9_restore 50 = .ok (.ireturn, 1) := by decide +kernel
theorem dL_addTier_0 : decode cL_addTier 0 = .ok (.aload 4, 2) := by decide +kernel
theorem dL_addTier_2 : decode cL_addTier 2 = .ok (.iconst 0, 1) := by decide +kernel
theorem dL_addTier_3 : decode cL_addTier 3 = .ok (.aload_n 0, 1) := by decide +kernel
theorem dL_addTier_4 : decode cL_addTier 4 = .ok (.iload_n 1, 1) := by decide +kernel
theorem dL_addTier_5 : decode cL_addTier 5 = .ok (.iload_n 2, 1) := by decide +kernel
theorem dL_addTier_6 : decode cL_addTier 6 = .ok (.iload_n 3, 1) := by decide +kernel
theorem dL_addTier_7 : decode cL_addTier 7 = .ok (.invokevirtual 7, 3) := by decide +kernel
theorem dL_addTier_10 : decode cL_addTier 10 = .ok (.i2l, 1) := by decide +kernel
theorem dL_addTier_11 : decode cL_addTier 11 = .ok (.lastore, 1) := by decide +kernel
theorem dL_addTier_12 : decode cL_addTier 12 = .ok (.goto 15, 3) := by decide +kernel
theorem dL_addTier_15 : decode cL_addTier 15 = .ok (.astore 5, 2) := by decide +kernel
theorem dL_addTier_17 : decode cL_addTier 17 = .ok (.iconst 1, 1) := by decide +kernel
theorem dL_addTier_18 : decode cL_addTier 18 = .ok (.ireturn, 1) := by decide +kernel
theorem dL_addTier_19 : decode cL_addTier 19 = .ok (.astore 5, 2) := by decide +kernel
theorem dL_addTier_21 : decode cL_addTier 21 = .ok (.iconst 2, 1) := by decide +kernel
theorem dL_addTier_22 : decode cL_addTier 22 = .ok (.ireturn, 1) := by decide +kernel
theorem dL_addTier_23 : decode cL_addTier 23 = .ok (.astore 5, 2) := by decide +kernel
theorem dL_addTier_25 : decode cL_addTier 25 = .ok (.iconst 3, 1) := by decide +kernel
theorem dL_addTier_26 : decode cL_addTier 26 = .ok (.ireturn, 1) := by decide +kernel
theorem dL_addTier_27 : decode cL_addTier 27 = .ok (.iconst 0, 1) := by decide +kernel
theorem dL_addTier_28 : decode cL_addTier 28 = .ok (.ireturn, 1) := by decide +kernel
theorem dL_select_0 : decode cL_select 0 = .ok (.aload_n 2, 1) := by decide +kernel
theorem dL_select_1 : decode cL_select 1 = .ok (.iconst 0, 1) := by decide +kernel
theorem dL_select_2 : decode cL_select 2 = .ok (.aload_n 0, 1) := by decide +kernel
theorem dL_select_3 : decode cL_select 3 = .ok (.iload_n 1, 1) := by decide +kernel
theorem dL_select_4 : decode cL_select 4 = .ok (.invokevirtual 19, 3) := by decide +kernel
theorem dL_select_7 : decode cL_select 7 = .ok (.i2l, 1) := by decide +kernel
theorem dL_select_8 : decode cL_select 8 = .ok (.lastore, 1) := by decide +kernel
theorem dL_select_9 : decode cL_select 9 = .ok (.goto 6, 3) := by decide +kernel
theorem dL_select_12 : decode cL_select 12 = .ok (.astore_n 3, 1) := by decide +kernel
theorem dL_select_13 : decode cL_select 13 = .ok (.iconst 1, 1) := by decide +kernel
theorem dL_select_14 : decode cL_select 14 = .ok (.ireturn, 1) := by decide +kernel
theorem dL_select_15 : decode cL_select 15 = .ok (.iconst 0, 1) := by decide +kernel
theorem dL_select_16 : decode cL_select 16 = .ok (.ireturn, 1) := by decide +kernel
theorem dL_setSetting_0 : decode cL_setSetting 0 = .ok (.aload_n 3, 1) := by decide +kernel
theorem dL_setSetting_1 : decode cL_setSetting 1 = .ok (.iconst 0, 1) := by decide +kernel
theorem dL_setSetting_2 : decode cL_setSetting 2 = .ok (.aload_n 0, 1) := by decide +kernel
theorem dL_setSetting_3 : decode cL_setSetting 3 = .ok (.iload_n 1, 1) := by decide +kernel
theorem dL_setSetting_4 : decode cL_setSetting 4 = .ok (.iload_n 2, 1) := by decide +kernel
theorem dL_setSetting_5 : decode cL_setSetting 5 = .ok (.invokevirtual 23, 3) := by decide +kernel
theorem dL_setSetting_8 : decode cL_setSetting 8 = .ok (.i2l, 1) := by decide +kernel
theorem dL_setSetting_9 : decode cL_setSetting 9 = .ok (.lastore, 1) := by decide +kernel
theorem dL_setSetting_10 : decode cL_setSetting 10 = .ok (.goto 11, 3) := by decide +kernel
theorem dL_setSetting_13 : decode cL_setSetting 13 = .ok (.astore 4, 2) := by decide +kernel
theorem dL_setSetting_15 : decode cL_setSetting 15 = .ok (.iconst 1, 1) := by decide +kernel
theorem dL_setSetting_16 : decode cL_setSetting 16 = .ok (.ireturn, 1) := by decide +kernel
theorem dL_setSetting_17 : decode cL_setSetting 17 = .ok (.astore 4, 2) := by decide +kernel
theorem dL_setSetting_19 : decode cL_setSetting 19 = .ok (.iconst 2, 1) := by decide +kernel
theorem dL_setSetting_20 : decode cL_setSetting 20 = .ok (.ireturn, 1) := by decide +kernel
theorem dL_setSetting_21 : decode cL_setSetting 21 = .ok (.iconst 0, 1) := by decide +kernel
theorem dL_setSetting_22 : decode cL_setSetting 22 = .ok (.ireturn, 1) := by decide +kernel
theorem dL_tier_0 : decode cL_tier 0 = .ok (.aload_n 3, 1) := by decide +kernel
theorem dL_tier_1 : decode cL_tier 1 = .ok (.iconst 0, 1) := by decide +kernel
theorem dL_tier_2 : decode cL_tier 2 = .ok (.aload_n 0, 1) := by decide +kernel
theorem dL_tier_3 : decode cL_tier 3 = .ok (.iload_n 1, 1) := by decide +kernel
theorem dL_tier_4 : decode cL_tier 4 = .ok (.iload_n 2, 1) := by decide +kernel
theorem dL_tier_5 : decode cL_tier 5 = .ok (.invokevirtual 27, 3) := by decide +kernel
theorem dL_tier_8 : decode cL_tier 8 = .ok (.i2l, 1) := by decide +kernel
theorem dL_tier_9 : decode cL_tier 9 = .ok (.lastore, 1) := by decide +kernel
theorem dL_tier_10 : decode cL_tier 10 = .ok (.goto 11, 3) := by decide +kernel
theorem dL_tier_13 : decode cL_tier 13 = .ok (.astore 4, 2) := by decide +kernel
theorem dL_tier_15 : decode cL_tier 15 = .ok (.iconst 1, 1) := by decide +kernel
theorem dL_tier_16 : decode cL_tier 16 = .ok (.ireturn, 1) := by decide +kernel
theorem dL_tier_17 : decode cL_tier 17 = .ok (.astore 4, 2) := by decide +kernel
theorem dL_tier_19 : decode cL_tier 19 = .ok (.iconst 2, 1) := by decide +kernel
theorem dL_tier_20 : decode cL_tier 20 = .ok (.ireturn, 1) := by decide +kernel
theorem dL_tier_21 : decode cL_tier 21 = .ok (.iconst 0, 1) := by decide +kernel
theorem dL_tier_22 : decode cL_tier 22 = .ok (.ireturn, 1) := by decide +kernel
theorem dL_book_0 : decode cL_book 0 = .ok (.aload_n 2, 1) := by decide +kernel
theorem dL_book_1 : decode cL_book 1 = .ok (.iconst 0, 1) := by decide +kernel
theorem dL_book_2 : decode cL_book 2 = .ok (.aload_n 0, 1) := by decide +kernel
theorem dL_book_3 : decode cL_book 3 = .ok (.iload_n 1, 1) := by decide +kernel
theorem dL_book_4 : decode cL_book 4 = .ok (.invokevirtual 30, 3) := by decide +kernel
theorem dL_book_7 : decode cL_book 7 = .ok (.i2l, 1) := by decide +kernel
theorem dL_book_8 : decode cL_book 8 = .ok (.lastore, 1) := by decide +kernel
theorem dL_book_9 : decode cL_book 9 = .ok (.goto 6, 3) := by decide +kernel
theorem dL_book_12 : decode cL_book 12 = .ok (.astore_n 3, 1) := by decide +kernel
theorem dL_book_13 : decode cL_book 13 = .ok (.iconst 1, 1) := by decide +kernel
theorem dL_book_14 : decode cL_book 14 = .ok (.ireturn, 1) := by decide +kernel
theorem dL_book_15 : decode cL_book 15 = .ok (.iconst 0, 1) := by decide +kernel
theorem dL_book_16 : decode cL_book 16 = .ok (.ireturn, 1) := by decide +kernel
theorem dL_append_0 : decode cL_append 0 = .ok (.aload_n 2, 1) := by decide +kernel
theorem dL_append_1 : decode cL_append 1 = .ok (.iconst 0, 1) := by decide +kernel
theorem dL_append_2 : decode cL_append 2 = .ok (.aload_n 0, 1) := by decide +kernel
theorem dL_append_3 : decode cL_append 3 = .ok (.iload_n 1, 1) := by decide +kernel
theorem dL_append_4 : decode cL_append 4 = .ok (.invokevirtual 33, 3) := by decide +kernel
theorem dL_append_7 : decode cL_append 7 = .ok (.i2l, 1) := by decide +kernel
theorem dL_append_8 : decode cL_append 8 = .ok (.lastore, 1) := by decide +kernel
theorem dL_append_9 : decode cL_append 9 = .ok (.goto 9, 3) := by decide +kernel
theorem dL_append_12 : decode cL_append 12 = .ok (.astore_n 3, 1) := by decide +kernel
theorem dL_append_13 : decode cL_append 13 = .ok (.iconst 1, 1) := by decide +kernel
theorem dL_append_14 : decode cL_append 14 = .ok (.ireturn, 1) := by decide +kernel
theorem dL_append_15 : decode cL_append 15 = .ok (.astore_n 3, 1) := by decide +kernel
theorem dL_append_16 : decode cL_append 16 = .ok (.iconst 2, 1) := by decide +kernel
theorem dL_append_17 : decode cL_append 17 = .ok (.ireturn, 1) := by decide +kernel
theorem dL_append_18 : decode cL_append 18 = .ok (.iconst 0, 1) := by decide +kernel
theorem dL_append_19 : decode cL_append 19 = .ok (.ireturn, 1) := by decide +kernel
theorem dL_addSpan_0 : decode cL_addSpan 0 = .ok (.aload 4, 2) := by decide +kernel
theorem dL_addSpan_2 : decode cL_addSpan 2 = .ok (.iconst 0, 1) := by decide +kernel
theorem dL_addSpan_3 : decode cL_addSpan 3 = .ok (.aload_n 0, 1) := by decide +kernel
theorem dL_addSpan_4 : decode cL_addSpan 4 = .ok (.iload_n 1, 1) := by decide +kernel
theorem dL_addSpan_5 : decode cL_addSpan 5 = .ok (.iload_n 2, 1) := by decide +kernel
theorem dL_addSpan_6 : decode cL_addSpan 6 = .ok (.iload_n 3, 1) := by decide +kernel
theorem dL_addSpan_7 : decode cL_addSpan 7 = .ok (.invokevirtual 36, 3) := by decide +kernel
theorem dL_addSpan_10 : decode cL_addSpan 10 = .ok (.i2l, 1) := by decide +kernel
theorem dL_addSpan_11 : decode cL_addSpan 11 = .ok (.lastore, 1) := by decide +kernel
theorem dL_addSpan_12 : decode cL_addSpan 12 = .ok (.goto 15, 3) := by decide +kernel
theorem dL_addSpan_15 : decode cL_addSpan 15 = .ok (.astore 5, 2) := by decide +kernel
theorem dL_addSpan_17 : decode cL_addSpan 17 = .ok (.iconst 1, 1) := by decide +kernel
theorem dL_addSpan_18 : decode cL_addSpan 18 = .ok (.ireturn, 1) := by decide +kernel
theorem dL_addSpan_19 : decode cL_addSpan 19 = .ok (.astore 5, 2) := by decide +kernel
theorem dL_addSpan_21 : decode cL_addSpan 21 = .ok (.iconst 2, 1) := by decide +kernel
theorem dL_addSpan_22 : decode cL_addSpan 22 = .ok (.ireturn, 1) := by decide +kernel
theorem dL_addSpan_23 : decode cL_addSpan 23 = .ok (.astore 5, 2) := by decide +kernel
theorem dL_addSpan_25 : decode cL_addSpan 25 = .ok (.iconst 3, 1) := by decide +kernel
theorem dL_addSpan_26 : decode cL_addSpan 26 = .ok (.ireturn, 1) := by decide +kernel
theorem dL_addSpan_27 : decode cL_addSpan 27 = .ok (.iconst 0, 1) := by decide +kernel
theorem dL_addSpan_28 : decode cL_addSpan 28 = .ok (.ireturn, 1) := by decide +kernel
theorem dL_removeSpan_0 : decode cL_removeSpan 0 = .ok (.aload_n 3, 1) := by decide +kernel
theorem dL_removeSpan_1 : decode cL_removeSpan 1 = .ok (.iconst 0, 1) := by decide +kernel
theorem dL_removeSpan_2 : decode cL_removeSpan 2 = .ok (.aload_n 0, 1) := by decide +kernel
theorem dL_removeSpan_3 : decode cL_removeSpan 3 = .ok (.iload_n 1, 1) := by decide +kernel
theorem dL_removeSpan_4 : decode cL_removeSpan 4 = .ok (.iload_n 2, 1) := by decide +kernel
theorem dL_removeSpan_5 : decode cL_removeSpan 5 = .ok (.invokevirtual 41, 3) := by decide +kernel
theorem dL_removeSpan_8 : decode cL_removeSpan 8 = .ok (.i2l, 1) := by decide +kernel
theorem dL_removeSpan_9 : decode cL_removeSpan 9 = .ok (.lastore, 1) := by decide +kernel
theorem dL_removeSpan_10 : decode cL_removeSpan 10 = .ok (.goto 7, 3) := by decide +kernel
theorem dL_removeSpan_13 : decode cL_removeSpan 13 = .ok (.astore 4, 2) := by decide +kernel
theorem dL_removeSpan_15 : decode cL_removeSpan 15 = .ok (.iconst 1, 1) := by decide +kernel
theorem dL_removeSpan_16 : decode cL_removeSpan 16 = .ok (.ireturn, 1) := by decide +kernel
theorem dL_removeSpan_17 : decode cL_removeSpan 17 = .ok (.iconst 0, 1) := by decide +kernel
theorem dL_removeSpan_18 : decode cL_removeSpan 18 = .ok (.ireturn, 1) := by decide +kernel
theorem dL_moveSpan_0 : decode cL_moveSpan 0 = .ok (.aload 5, 2) := by decide +kernel
theorem dL_moveSpan_2 : decode cL_moveSpan 2 = .ok (.iconst 0, 1) := by decide +kernel
theorem dL_moveSpan_3 : decode cL_moveSpan 3 = .ok (.aload_n 0, 1) := by decide +kernel
theorem dL_moveSpan_4 : decode cL_moveSpan 4 = .ok (.iload_n 1, 1) := by decide +kernel
theorem dL_moveSpan_5 : decode cL_moveSpan 5 = .ok (.iload_n 2, 1) := by decide +kernel
theorem dL_moveSpan_6 : decode cL_moveSpan 6 = .ok (.iload_n 3, 1) := by decide +kernel
theorem dL_moveSpan_7 : decode cL_moveSpan 7 = .ok (.iload 4, 2) := by decide +kernel
theorem dL_moveSpan_9 : decode cL_moveSpan 9 = .ok (.invokevirtual 44, 3) := by decide +kernel
theorem dL_moveSpan_12 : decode cL_moveSpan 12 = .ok (.i2l, 1) := by decide +kernel
theorem dL_moveSpan_13 : decode cL_moveSpan 13 = .ok (.lastore, 1) := by decide +kernel
theorem dL_moveSpan_14 : decode cL_moveSpan 14 = .ok (.goto 11, 3) := by decide +kernel
theorem dL_moveSpan_17 : decode cL_moveSpan 17 = .ok (.astore 6, 2) := by decide +kernel
theorem dL_moveSpan_19 : decode cL_moveSpan 19 = .ok (.iconst 1, 1) := by decide +kernel
theorem dL_moveSpan_20 : decode cL_moveSpan 20 = .ok (.ireturn, 1) := by decide +kernel
theorem dL_moveSpan_21 : decode cL_moveSpan 21 = .ok (.astore 6, 2) := by decide +kernel
theorem dL_moveSpan_23 : decode cL_moveSpan 23 = .ok (.iconst 2, 1) := by decide +kernel
theorem dL_moveSpan_24 : decode cL_moveSpan 24 = .ok (.ireturn, 1) := by decide +kernel
theorem dL_moveSpan_25 : decode cL_moveSpan 25 = .ok (.iconst 0, 1) := by decide +kernel
theorem dL_moveSpan_26 : decode cL_moveSpan 26 = .ok (.ireturn, 1) := by decide +kernel
theorem dL_rename_0 : decode cL_rename 0 = .ok (.aload_n 3, 1) := by decide +kernel
theorem dL_rename_1 : decode cL_rename 1 = .ok (.iconst 0, 1) := by decide +kernel
theorem dL_rename_2 : decode cL_rename 2 = .ok (.aload_n 0, 1) := by decide +kernel
theorem dL_rename_3 : decode cL_rename 3 = .ok (.iload_n 1, 1) := by decide +kernel
theorem dL_rename_4 : decode cL_rename 4 = .ok (.iload_n 2, 1) := by decide +kernel
theorem dL_rename_5 : decode cL_rename 5 = .ok (.invokevirtual 48, 3) := by decide +kernel
theorem dL_rename_8 : decode cL_rename 8 = .ok (.i2l, 1) := by decide +kernel
theorem dL_rename_9 : decode cL_rename 9 = .ok (.lastore, 1) := by decide +kernel
theorem dL_rename_10 : decode cL_rename 10 = .ok (.goto 11, 3) := by decide +kernel
theorem dL_rename_13 : decode cL_rename 13 = .ok (.astore 4, 2) := by decide +kernel
theorem dL_rename_15 : decode cL_rename 15 = .ok (.iconst 1, 1) := by decide +kernel
theorem dL_rename_16 : decode cL_rename 16 = .ok (.ireturn, 1) := by decide +kernel
theorem dL_rename_17 : decode cL_rename 17 = .ok (.astore 4, 2) := by decide +kernel
theorem dL_rename_19 : decode cL_rename 19 = .ok (.iconst 2, 1) := by decide +kernel
theorem dL_rename_20 : decode cL_rename 20 = .ok (.ireturn, 1) := by decide +kernel
theorem dL_rename_21 : decode cL_rename 21 = .ok (.iconst 0, 1) := by decide +kernel
theorem dL_rename_22 : decode cL_rename 22 = .ok (.ireturn, 1) := by decide +kernel
theorem dL_split_0 : decode cL_split 0 = .ok (.aload 4, 2) := by decide +kernel
theorem dL_split_2 : decode cL_split 2 = .ok (.iconst 0, 1) := by decide +kernel
theorem dL_split_3 : decode cL_split 3 = .ok (.aload_n 0, 1) := by decide +kernel
theorem dL_split_4 : decode cL_split 4 = .ok (.iload_n 1, 1) := by decide +kernel
theorem dL_split_5 : decode cL_split 5 = .ok (.iload_n 2, 1) := by decide +kernel
theorem dL_split_6 : decode cL_split 6 = .ok (.iload_n 3, 1) := by decide +kernel
theorem dL_split_7 : decode cL_split 7 = .ok (.invokevirtual 51, 3) := by decide +kernel
theorem dL_split_10 : decode cL_split 10 = .ok (.i2l, 1) := by decide +kernel
theorem dL_split_11 : decode cL_split 11 = .ok (.lastore, 1) := by decide +kernel
theorem dL_split_12 : decode cL_split 12 = .ok (.goto 11, 3) := by decide +kernel
theorem dL_split_15 : decode cL_split 15 = .ok (.astore 5, 2) := by decide +kernel
theorem dL_split_17 : decode cL_split 17 = .ok (.iconst 1, 1) := by decide +kernel
theorem dL_split_18 : decode cL_split 18 = .ok (.ireturn, 1) := by decide +kernel
theorem dL_split_19 : decode cL_split 19 = .ok (.astore 5, 2) := by decide +kernel
theorem dL_split_21 : decode cL_split 21 = .ok (.iconst 2, 1) := by decide +kernel
theorem dL_split_22 : decode cL_split 22 = .ok (.ireturn, 1) := by decide +kernel
theorem dL_split_23 : decode cL_split 23 = .ok (.iconst 0, 1) := by decide +kernel
theorem dL_split_24 : decode cL_split 24 = .ok (.ireturn, 1) := by decide +kernel
theorem dL_join_0 : decode cL_join 0 = .ok (.aload_n 3, 1) := by decide +kernel
theorem dL_join_1 : decode cL_join 1 = .ok (.iconst 0, 1) := by decide +kernel
theorem dL_join_2 : decode cL_join 2 = .ok (.aload_n 0, 1) := by decide +kernel
theorem dL_join_3 : decode cL_join 3 = .ok (.iload_n 1, 1) := by decide +kernel
theorem dL_join_4 : decode cL_join 4 = .ok (.iload_n 2, 1) := by decide +kernel
theorem dL_join_5 : decode cL_join 5 = .ok (.invokevirtual 54, 3) := by decide +kernel
theorem dL_join_8 : decode cL_join 8 = .ok (.i2l, 1) := by decide +kernel
theorem dL_join_9 : decode cL_join 9 = .ok (.lastore, 1) := by decide +kernel
theorem dL_join_10 : decode cL_join 10 = .ok (.goto 11, 3) := by decide +kernel
theorem dL_join_13 : decode cL_join 13 = .ok (.astore 4, 2) := by decide +kernel
theorem dL_join_15 : decode cL_join 15 = .ok (.iconst 1, 1) := by decide +kernel
theorem dL_join_16 : decode cL_join 16 = .ok (.ireturn, 1) := by decide +kernel
theorem dL_join_17 : decode cL_join 17 = .ok (.astore 4, 2) := by decide +kernel
theorem dL_join_19 : decode cL_join 19 = .ok (.iconst 2, 1) := by decide +kernel
theorem dL_join_20 : decode cL_join 20 = .ok (.ireturn, 1) := by decide +kernel
theorem dL_join_21 : decode cL_join 21 = .ok (.iconst 0, 1) := by decide +kernel
theorem dL_join_22 : decode cL_join 22 = .ok (.ireturn, 1) := by decide +kernel
theorem dL_span_0 : decode cL_span 0 = .ok (.aload 4, 2) := by decide +kernel
theorem dL_span_2 : decode cL_span 2 = .ok (.iconst 0, 1) := by decide +kernel
theorem dL_span_3 : decode cL_span 3 = .ok (.aload_n 0, 1) := by decide +kernel
theorem dL_span_4 : decode cL_span 4 = .ok (.iload_n 1, 1) := by decide +kernel
theorem dL_span_5 : decode cL_span 5 = .ok (.iload_n 2, 1) := by decide +kernel
theorem dL_span_6 : decode cL_span 6 = .ok (.iload_n 3, 1) := by decide +kernel
theorem dL_span_7 : decode cL_span 7 = .ok (.invokevirtual 57, 3) := by decide +kernel
theorem dL_span_10 : decode cL_span 10 = .ok (.i2l, 1) := by decide +kernel
theorem dL_span_11 : decode cL_span 11 = .ok (.lastore, 1) := by decide +kernel
theorem dL_span_12 : decode cL_span 12 = .ok (.goto 11, 3) := by decide +kernel
theorem dL_span_15 : decode cL_span 15 = .ok (.astore 5, 2) := by decide +kernel
theorem dL_span_17 : decode cL_span 17 = .ok (.iconst 1, 1) := by decide +kernel
theorem dL_span_18 : decode cL_span 18 = .ok (.ireturn, 1) := by decide +kernel
theorem dL_span_19 : decode cL_span 19 = .ok (.astore 5, 2) := by decide +kernel
theorem dL_span_21 : decode cL_span 21 = .ok (.iconst 2, 1) := by decide +kernel
theorem dL_span_22 : decode cL_span 22 = .ok (.ireturn, 1) := by decide +kernel
theorem dL_span_23 : decode cL_span 23 = .ok (.iconst 0, 1) := by decide +kernel
theorem dL_span_24 : decode cL_span 24 = .ok (.ireturn, 1) := by decide +kernel
theorem dL_letter_0 : decode cL_letter 0 = .ok (.aload 4, 2) := by decide +kernel
theorem dL_letter_2 : decode cL_letter 2 = .ok (.iconst 0, 1) := by decide +kernel
theorem dL_letter_3 : decode cL_letter 3 = .ok (.aload_n 0, 1) := by decide +kernel
theorem dL_letter_4 : decode cL_letter 4 = .ok (.iload_n 1, 1) := by decide +kernel
theorem dL_letter_5 : decode cL_letter 5 = .ok (.iload_n 2, 1) := by decide +kernel
theorem dL_letter_6 : decode cL_letter 6 = .ok (.iload_n 3, 1) := by decide +kernel
theorem dL_letter_7 : decode cL_letter 7 = .ok (.invokevirtual 60, 3) := by decide +kernel
theorem dL_letter_10 : decode cL_letter 10 = .ok (.i2l, 1) := by decide +kernel
theorem dL_letter_11 : decode cL_letter 11 = .ok (.lastore, 1) := by decide +kernel
theorem dL_letter_12 : decode cL_letter 12 = .ok (.goto 11, 3) := by decide +kernel
theorem dL_letter_15 : decode cL_letter 15 = .ok (.astore 5, 2) := by decide +kernel
theorem dL_letter_17 : decode cL_letter 17 = .ok (.iconst 1, 1) := by decide +kernel
theorem dL_letter_18 : decode cL_letter 18 = .ok (.ireturn, 1) := by decide +kernel
theorem dL_letter_19 : decode cL_letter 19 = .ok (.astore 5, 2) := by decide +kernel
theorem dL_letter_21 : decode cL_letter 21 = .ok (.iconst 2, 1) := by decide +kernel
theorem dL_letter_22 : decode cL_letter 22 = .ok (.ireturn, 1) := by decide +kernel
theorem dL_letter_23 : decode cL_letter 23 = .ok (.iconst 0, 1) := by decide +kernel
theorem dL_letter_24 : decode cL_letter 24 = .ok (.ireturn, 1) := by decide +kernel
theorem dL_spanAt_0 : decode cL_spanAt 0 = .ok (.aload_n 3, 1) := by decide +kernel
theorem dL_spanAt_1 : decode cL_spanAt 1 = .ok (.iconst 0, 1) := by decide +kernel
theorem dL_spanAt_2 : decode cL_spanAt 2 = .ok (.aload_n 0, 1) := by decide +kernel
theorem dL_spanAt_3 : decode cL_spanAt 3 = .ok (.iload_n 1, 1) := by decide +kernel
theorem dL_spanAt_4 : decode cL_spanAt 4 = .ok (.iload_n 2, 1) := by decide +kernel
theorem dL_spanAt_5 : decode cL_spanAt 5 = .ok (.invokevirtual 66, 3) := by decide +kernel
theorem dL_spanAt_8 : decode cL_spanAt 8 = .ok (.i2l, 1) := by decide +kernel
theorem dL_spanAt_9 : decode cL_spanAt 9 = .ok (.lastore, 1) := by decide +kernel
theorem dL_spanAt_10 : decode cL_spanAt 10 = .ok (.goto 7, 3) := by decide +kernel
theorem dL_spanAt_13 : decode cL_spanAt 13 = .ok (.astore 4, 2) := by decide +kernel
theorem dL_spanAt_15 : decode cL_spanAt 15 = .ok (.iconst 1, 1) := by decide +kernel
theorem dL_spanAt_16 : decode cL_spanAt 16 = .ok (.ireturn, 1) := by decide +kernel
theorem dL_spanAt_17 : decode cL_spanAt 17 = .ok (.iconst 0, 1) := by decide +kernel
theorem dL_spanAt_18 : decode cL_spanAt 18 = .ok (.ireturn, 1) := by decide +kernel
theorem dL_refusal_0 : decode cL_refusal 0 = .ok (.aload_n 2, 1) := by decide +kernel
theorem dL_refusal_1 : decode cL_refusal 1 = .ok (.iconst 0, 1) := by decide +kernel
theorem dL_refusal_2 : decode cL_refusal 2 = .ok (.aload_n 0, 1) := by decide +kernel
theorem dL_refusal_3 : decode cL_refusal 3 = .ok (.iload_n 1, 1) := by decide +kernel
theorem dL_refusal_4 : decode cL_refusal 4 = .ok (.invokevirtual 69, 3) := by decide +kernel
theorem dL_refusal_7 : decode cL_refusal 7 = .ok (.i2l, 1) := by decide +kernel
theorem dL_refusal_8 : decode cL_refusal 8 = .ok (.lastore, 1) := by decide +kernel
theorem dL_refusal_9 : decode cL_refusal 9 = .ok (.goto 6, 3) := by decide +kernel
theorem dL_refusal_12 : decode cL_refusal 12 = .ok (.astore_n 3, 1) := by decide +kernel
theorem dL_refusal_13 : decode cL_refusal 13 = .ok (.iconst 1, 1) := by decide +kernel
theorem dL_refusal_14 : decode cL_refusal 14 = .ok (.ireturn, 1) := by decide +kernel
theorem dL_refusal_15 : decode cL_refusal 15 = .ok (.iconst 0, 1) := by decide +kernel
theorem dL_refusal_16 : decode cL_refusal 16 = .ok (.ireturn, 1) := by decide +kernel
theorem dL_aligned_0 : decode cL_aligned 0 = .ok (.aload 4, 2) := by decide +kernel
theorem dL_aligned_2 : decode cL_aligned 2 = .ok (.iconst 0, 1) := by decide +kernel
theorem dL_aligned_3 : decode cL_aligned 3 = .ok (.aload_n 0, 1) := by decide +kernel
theorem dL_aligned_4 : decode cL_aligned 4 = .ok (.iload_n 1, 1) := by decide +kernel
theorem dL_aligned_5 : decode cL_aligned 5 = .ok (.iload_n 2, 1) := by decide +kernel
theorem dL_aligned_6 : decode cL_aligned 6 = .ok (.iload_n 3, 1) := by decide +kernel
theorem dL_aligned_7 : decode cL_aligned 7 = .ok (.invokevirtual 73, 3) := by decide +kernel
theorem dL_aligned_10 : decode cL_aligned 10 = .ok (.i2l, 1) := by decide +kernel
theorem dL_aligned_11 : decode cL_aligned 11 = .ok (.lastore, 1) := by decide +kernel
theorem dL_aligned_12 : decode cL_aligned 12 = .ok (.goto 7, 3) := by decide +kernel
theorem dL_aligned_15 : decode cL_aligned 15 = .ok (.astore 5, 2) := by decide +kernel
theorem dL_aligned_17 : decode cL_aligned 17 = .ok (.iconst 1, 1) := by decide +kernel
theorem dL_aligned_18 : decode cL_aligned 18 = .ok (.ireturn, 1) := by decide +kernel
theorem dL_aligned_19 : decode cL_aligned 19 = .ok (.iconst 0, 1) := by decide +kernel
theorem dL_aligned_20 : decode cL_aligned 20 = .ok (.ireturn, 1) := by decide +kernel
theorem dL_alignment_0 : decode cL_alignment 0 = .ok (.aload 4, 2) := by decide +kernel
theorem dL_alignment_2 : decode cL_alignment 2 = .ok (.iconst 0, 1) := by decide +kernel
theorem dL_alignment_3 : decode cL_alignment 3 = .ok (.aload_n 0, 1) := by decide +kernel
theorem dL_alignment_4 : decode cL_alignment 4 = .ok (.iload_n 1, 1) := by decide +kernel
theorem dL_alignment_5 : decode cL_alignment 5 = .ok (.iload_n 2, 1) := by decide +kernel
theorem dL_alignment_6 : decode cL_alignment 6 = .ok (.iload_n 3, 1) := by decide +kernel
theorem dL_alignment_7 : decode cL_alignment 7 = .ok (.invokevirtual 76, 3) := by decide +kernel
theorem dL_alignment_10 : decode cL_alignment 10 = .ok (.i2l, 1) := by decide +kernel
theorem dL_alignment_11 : decode cL_alignment 11 = .ok (.lastore, 1) := by decide +kernel
theorem dL_alignment_12 : decode cL_alignment 12 = .ok (.goto 7, 3) := by decide +kernel
theorem dL_alignment_15 : decode cL_alignment 15 = .ok (.astore 5, 2) := by decide +kernel
theorem dL_alignment_17 : decode cL_alignment 17 = .ok (.iconst 1, 1) := by decide +kernel
theorem dL_alignment_18 : decode cL_alignment 18 = .ok (.ireturn, 1) := by decide +kernel
theorem dL_alignment_19 : decode cL_alignment 19 = .ok (.iconst 0, 1) := by decide +kernel
theorem dL_alignment_20 : decode cL_alignment 20 = .ok (.ireturn, 1) := by decide +kernel
theorem dL_search_0 : decode cL_search 0 = .ok (.aload_n 1, 1) := by decide +kernel
theorem dL_search_1 : decode cL_search 1 = .ok (.iconst 0, 1) := by decide +kernel
theorem dL_search_2 : decode cL_search 2 = .ok (.aload_n 0, 1) := by decide +kernel
theorem dL_search_3 : decode cL_search 3 = .ok (.invokevirtual 80, 3) := by decide +kernel
theorem dL_search_6 : decode cL_search 6 = .ok (.i2l, 1) := by decide +kernel
theorem dL_search_7 : decode cL_search 7 = .ok (.lastore, 1) := by decide +kernel
theorem dL_search_8 : decode cL_search 8 = .ok (.goto 6, 3) := by decide +kernel
theorem dL_search_11 : decode cL_search 11 = .ok (.astore_n 2, 1) := by decide +kernel
theorem dL_search_12 : decode cL_search 12 = .ok (.iconst 1, 1) := by decide +kernel
theorem dL_search_13 : decode cL_search 13 = .ok (.ireturn, 1) := by decide +kernel
theorem dL_search_14 : decode cL_search 14 = .ok (.iconst 0, 1) := by decide +kernel
theorem dL_search_15 : decode cL_search 15 = .ok (.ireturn, 1) := by decide +kernel
theorem dL_match_0 : decode cL_match 0 = .ok (.aload_n 3, 1) := by decide +kernel
theorem dL_match_1 : decode cL_match 1 = .ok (.iconst 0, 1) := by decide +kernel
theorem dL_match_2 : decode cL_match 2 = .ok (.aload_n 0, 1) := by decide +kernel
theorem dL_match_3 : decode cL_match 3 = .ok (.iload_n 1, 1) := by decide +kernel
theorem dL_match_4 : decode cL_match 4 = .ok (.iload_n 2, 1) := by decide +kernel
theorem dL_match_5 : decode cL_match 5 = .ok (.invokevirtual 84, 3) := by decide +kernel
theorem dL_match_8 : decode cL_match 8 = .ok (.i2l, 1) := by decide +kernel
theorem dL_match_9 : decode cL_match 9 = .ok (.lastore, 1) := by decide +kernel
theorem dL_match_10 : decode cL_match 10 = .ok (.goto 11, 3) := by decide +kernel
theorem dL_match_13 : decode cL_match 13 = .ok (.astore 4, 2) := by decide +kernel
theorem dL_match_15 : decode cL_match 15 = .ok (.iconst 1, 1) := by decide +kernel
theorem dL_match_16 : decode cL_match 16 = .ok (.ireturn, 1) := by decide +kernel
theorem dL_match_17 : decode cL_match 17 = .ok (.astore 4, 2) := by decide +kernel
theorem dL_match_19 : decode cL_match 19 = .ok (.iconst 2, 1) := by decide +kernel
theorem dL_match_20 : decode cL_match 20 = .ok (.ireturn, 1) := by decide +kernel
theorem dL_match_21 : decode cL_match 21 = .ok (.iconst 0, 1) := by decide +kernel
theorem dL_match_22 : decode cL_match 22 = .ok (.ireturn, 1) := by decide +kernel
theorem dL_merge_0 : decode cL_merge 0 = .ok (.aload_n 3, 1) := by decide +kernel
theorem dL_merge_1 : decode cL_merge 1 = .ok (.iconst 0, 1) := by decide +kernel
theorem dL_merge_2 : decode cL_merge 2 = .ok (.aload_n 0, 1) := by decide +kernel
theorem dL_merge_3 : decode cL_merge 3 = .ok (.iload_n 1, 1) := by decide +kernel
theorem dL_merge_4 : decode cL_merge 4 = .ok (.iload_n 2, 1) := by decide +kernel
theorem dL_merge_5 : decode cL_merge 5 = .ok (.invokevirtual 87, 3) := by decide +kernel
theorem dL_merge_8 : decode cL_merge 8 = .ok (.i2l, 1) := by decide +kernel
theorem dL_merge_9 : decode cL_merge 9 = .ok (.lastore, 1) := by decide +kernel
theorem dL_merge_10 : decode cL_merge 10 = .ok (.goto 11, 3) := by decide +kernel
theorem dL_merge_13 : decode cL_merge 13 = .ok (.astore 4, 2) := by decide +kernel
theorem dL_merge_15 : decode cL_merge 15 = .ok (.iconst 1, 1) := by decide +kernel
theorem dL_merge_16 : decode cL_merge 16 = .ok (.ireturn, 1) := by decide +kernel
theorem dL_merge_17 : decode cL_merge 17 = .ok (.astore 4, 2) := by decide +kernel
theorem dL_merge_19 : decode cL_merge 19 = .ok (.iconst 2, 1) := by decide +kernel
theorem dL_merge_20 : decode cL_merge 20 = .ok (.ireturn, 1) := by decide +kernel
theorem dL_merge_21 : decode cL_merge 21 = .ok (.iconst 0, 1) := by decide +kernel
theorem dL_merge_22 : decode cL_merge 22 = .ok (.ireturn, 1) := by decide +kernel
theorem dL_merged_0 : decode cL_merged 0 = .ok (.aload 4, 2) := by decide +kernel
theorem dL_merged_2 : decode cL_merged 2 = .ok (.iconst 0, 1) := by decide +kernel
theorem dL_merged_3 : decode cL_merged 3 = .ok (.aload_n 0, 1) := by decide +kernel
theorem dL_merged_4 : decode cL_merged 4 = .ok (.iload_n 1, 1) := by decide +kernel
theorem dL_merged_5 : decode cL_merged 5 = .ok (.iload_n 2, 1) := by decide +kernel
theorem dL_merged_6 : decode cL_merged 6 = .ok (.iload_n 3, 1) := by decide +kernel
theorem dL_merged_7 : decode cL_merged 7 = .ok (.invokevirtual 90, 3) := by decide +kernel
theorem dL_merged_10 : decode cL_merged 10 = .ok (.i2l, 1) := by decide +kernel
theorem dL_merged_11 : decode cL_merged 11 = .ok (.lastore, 1) := by decide +kernel
theorem dL_merged_12 : decode cL_merged 12 = .ok (.goto 15, 3) := by decide +kernel
theorem dL_merged_15 : decode cL_merged 15 = .ok (.astore 5, 2) := by decide +kernel
theorem dL_merged_17 : decode cL_merged 17 = .ok (.iconst 1, 1) := by decide +kernel
theorem dL_merged_18 : decode cL_merged 18 = .ok (.ireturn, 1) := by decide +kernel
theorem dL_merged_19 : decode cL_merged 19 = .ok (.astore 5, 2) := by decide +kernel
theorem dL_merged_21 : decode cL_merged 21 = .ok (.iconst 2, 1) := by decide +kernel
theorem dL_merged_22 : decode cL_merged 22 = .ok (.ireturn, 1) := by decide +kernel
theorem dL_merged_23 : decode cL_merged 23 = .ok (.astore 5, 2) := by decide +kernel
theorem dL_merged_25 : decode cL_merged 25 = .ok (.iconst 3, 1) := by decide +kernel
theorem dL_merged_26 : decode cL_merged 26 = .ok (.ireturn, 1) := by decide +kernel
theorem dL_merged_27 : decode cL_merged 27 = .ok (.iconst 0, 1) := by decide +kernel
theorem dL_merged_28 : decode cL_merged 28 = .ok (.ireturn, 1) := by decide +kernel
theorem dL_frames_0 : decode cL_frames 0 = .ok (.aload_n 3, 1) := by decide +kernel
theorem dL_frames_1 : decode cL_frames 1 = .ok (.iconst 0, 1) := by decide +kernel
theorem dL_frames_2 : decode cL_frames 2 = .ok (.aload_n 0, 1) := by decide +kernel
theorem dL_frames_3 : decode cL_frames 3 = .ok (.iload_n 1, 1) := by decide +kernel
theorem dL_frames_4 : decode cL_frames 4 = .ok (.iload_n 2, 1) := by decide +kernel
theorem dL_frames_5 : decode cL_frames 5 = .ok (.invokevirtual 93, 3) := by decide +kernel
theorem dL_frames_8 : decode cL_frames 8 = .ok (.i2l, 1) := by decide +kernel
theorem dL_frames_9 : decode cL_frames 9 = .ok (.lastore, 1) := by decide +kernel
theorem dL_frames_10 : decode cL_frames 10 = .ok (.goto 11, 3) := by decide +kernel
theorem dL_frames_13 : decode cL_frames 13 = .ok (.astore 4, 2) := by decide +kernel
theorem dL_frames_15 : decode cL_frames 15 = .ok (.iconst 1, 1) := by decide +kernel
theorem dL_frames_16 : decode cL_frames 16 = .ok (.ireturn, 1) := by decide +kernel
theorem dL_frames_17 : decode cL_frames 17 = .ok (.astore 4, 2) := by decide +kernel
theorem dL_frames_19 : decode cL_frames 19 = .ok (.iconst 2, 1) := by decide +kernel
theorem dL_frames_20 : decode cL_frames 20 = .ok (.ireturn, 1) := by decide +kernel
theorem dL_frames_21 : decode cL_frames 21 = .ok (.iconst 0, 1) := by decide +kernel
theorem dL_frames_22 : decode cL_frames 22 = .ok (.ireturn, 1) := by decide +kernel
theorem dL_agreement_0 : decode cL_agreement 0 = .ok (.aload_n 2, 1) := by decide +kernel
theorem dL_agreement_1 : decode cL_agreement 1 = .ok (.iconst 0, 1) := by decide +kernel
theorem dL_agreement_2 : decode cL_agreement 2 = .ok (.aload_n 0, 1) := by decide +kernel
theorem dL_agreement_3 : decode cL_agreement 3 = .ok (.iload_n 1, 1) := by decide +kernel
theorem dL_agreement_4 : decode cL_agreement 4 = .ok (.invokevirtual 96, 3) := by decide +kernel
theorem dL_agreement_7 : decode cL_agreement 7 = .ok (.f2d, 1) := by decide +kernel
theorem dL_agreement_8 : decode cL_agreement 8 = .ok (.dastore, 1) := by decide +kernel
theorem dL_agreement_9 : decode cL_agreement 9 = .ok (.goto 9, 3) := by decide +kernel
theorem dL_agreement_12 : decode cL_agreement 12 = .ok (.astore_n 3, 1) := by decide +kernel
theorem dL_agreement_13 : decode cL_agreement 13 = .ok (.iconst 1, 1) := by decide +kernel
theorem dL_agreement_14 : decode cL_agreement 14 = .ok (.ireturn, 1) := by decide +kernel
theorem dL_agreement_15 : decode cL_agreement 15 = .ok (.astore_n 3, 1) := by decide +kernel
theorem dL_agreement_16 : decode cL_agreement 16 = .ok (.iconst 2, 1) := by decide +kernel
theorem dL_agreement_17 : decode cL_agreement 17 = .ok (.ireturn, 1) := by decide +kernel
theorem dL_agreement_18 : decode cL_agreement 18 = .ok (.iconst 0, 1) := by decide +kernel
theorem dL_agreement_19 : decode cL_agreement 19 = .ok (.ireturn, 1) := by decide +kernel
theorem dL_kappa_0 : decode cL_kappa 0 = .ok (.aload_n 2, 1) := by decide +kernel
theorem dL_kappa_1 : decode cL_kappa 1 = .ok (.iconst 0, 1) := by decide +kernel
theorem dL_kappa_2 : decode cL_kappa 2 = .ok (.aload_n 0, 1) := by decide +kernel
theorem dL_kappa_3 : decode cL_kappa 3 = .ok (.iload_n 1, 1) := by decide +kernel
theorem dL_kappa_4 : decode cL_kappa 4 = .ok (.invokevirtual 102, 3) := by decide +kernel
theorem dL_kappa_7 : decode cL_kappa 7 = .ok (.dastore, 1) := by decide +kernel
theorem dL_kappa_8 : decode cL_kappa 8 = .ok (.goto 9, 3) := by decide +kernel
theorem dL_kappa_11 : decode cL_kappa 11 = .ok (.astore_n 3, 1) := by decide +kernel
theorem dL_kappa_12 : decode cL_kappa 12 = .ok (.iconst 1, 1) := by decide +kernel
theorem dL_kappa_13 : decode cL_kappa 13 = .ok (.ireturn, 1) := by decide +kernel
theorem dL_kappa_14 : decode cL_kappa 14 = .ok (.astore_n 3, 1) := by decide +kernel
theorem dL_kappa_15 : decode cL_kappa 15 = .ok (.iconst 2, 1) := by decide +kernel
theorem dL_kappa_16 : decode cL_kappa 16 = .ok (.ireturn, 1) := by decide +kernel
theorem dL_kappa_17 : decode cL_kappa 17 = .ok (.iconst 0, 1) := by decide +kernel
theorem dL_kappa_18 : decode cL_kappa 18 = .ok (.ireturn, 1) := by decide +kernel
theorem dL_read_0 : decode cL_read 0 = .ok (.aload_n 1, 1) := by decide +kernel
theorem dL_read_1 : decode cL_read 1 = .ok (.iconst 0, 1) := by decide +kernel
theorem dL_read_2 : decode cL_read 2 = .ok (.aload_n 0, 1) := by decide +kernel
theorem dL_read_3 : decode cL_read 3 = .ok (.invokevirtual 106, 3) := by decide +kernel
theorem dL_read_6 : decode cL_read 6 = .ok (.i2l, 1) := by decide +kernel
theorem dL_read_7 : decode cL_read 7 = .ok (.lastore, 1) := by decide +kernel
theorem dL_read_8 : decode cL_read 8 = .ok (.goto 9, 3) := by decide +kernel
theorem dL_read_11 : decode cL_read 11 = .ok (.astore_n 2, 1) := by decide +kernel
theorem dL_read_12 : decode cL_read 12 = .ok (.iconst 1, 1) := by decide +kernel
theorem dL_read_13 : decode cL_read 13 = .ok (.ireturn, 1) := by decide +kernel
theorem dL_read_14 : decode cL_read 14 = .ok (.astore_n 2, 1) := by decide +kernel
theorem dL_read_15 : decode cL_read 15 = .ok (.iconst 2, 1) := by decide +kernel
theorem dL_read_16 : decode cL_read 16 = .ok (.ireturn, 1) := by decide +kernel
theorem dL_read_17 : decode cL_read 17 = .ok (.iconst 0, 1) := by decide +kernel
theorem dL_read_18 : decode cL_read 18 = .ok (.ireturn, 1) := by decide +kernel
theorem dL_errorPosition_0 : decode cL_errorPosition 0 = .ok (.aload_n 1, 1) := by decide +kernel
theorem dL_errorPosition_1 : decode cL_errorPosition 1 = .ok (.iconst 0, 1) := by decide +kernel
theorem dL_errorPosition_2 : decode cL_errorPosition 2 = .ok (.aload_n 0, 1) := by decide +kernel
theorem dL_errorPosition_3 : decode cL_errorPosition 3 = .ok (.invokevirtual 109, 3) := by decide +kernel
theorem dL_errorPosition_6 : decode cL_errorPosition 6 = .ok (.i2l, 1) := by decide +kernel
theorem dL_errorPosition_7 : decode cL_errorPosition 7 = .ok (.lastore, 1) := by decide +kernel
theorem dL_errorPosition_8 : decode cL_errorPosition 8 = .ok (.goto 6, 3) := by decide +kernel
theorem dL_errorPosition_11 : decode cL_errorPosition 11 = .ok (.astore_n 2, 1) := by decide +kernel
theorem dL_errorPosition_12 : decode cL_errorPosition 12 = .ok (.iconst 1, 1) := by decide +kernel
theorem dL_errorPosition_13 : decode cL_errorPosition 13 = .ok (.ireturn, 1) := by decide +kernel
theorem dL_errorPosition_14 : decode cL_errorPosition 14 = .ok (.iconst 0, 1) := by decide +kernel
theorem dL_errorPosition_15 : decode cL_errorPosition 15 = .ok (.ireturn, 1) := by decide +kernel
theorem dL_refusedItem_0 : decode cL_refusedItem 0 = .ok (.aload_n 1, 1) := by decide +kernel
theorem dL_refusedItem_1 : decode cL_refusedItem 1 = .ok (.iconst 0, 1) := by decide +kernel
theorem dL_refusedItem_2 : decode cL_refusedItem 2 = .ok (.aload_n 0, 1) := by decide +kernel
theorem dL_refusedItem_3 : decode cL_refusedItem 3 = .ok (.invokevirtual 112, 3) := by decide +kernel
theorem dL_refusedItem_6 : decode cL_refusedItem 6 = .ok (.i2l, 1) := by decide +kernel
theorem dL_refusedItem_7 : decode cL_refusedItem 7 = .ok (.lastore, 1) := by decide +kernel
theorem dL_refusedItem_8 : decode cL_refusedItem 8 = .ok (.goto 6, 3) := by decide +kernel
theorem dL_refusedItem_11 : decode cL_refusedItem 11 = .ok (.astore_n 2, 1) := by decide +kernel
theorem dL_refusedItem_12 : decode cL_refusedItem 12 = .ok (.iconst 1, 1) := by decide +kernel
theorem dL_refusedItem_13 : decode cL_refusedItem 13 = .ok (.ireturn, 1) := by decide +kernel
theorem dL_refusedItem_14 : decode cL_refusedItem 14 = .ok (.iconst 0, 1) := by decide +kernel
theorem dL_refusedItem_15 : decode cL_refusedItem 15 = .ok (.ireturn, 1) := by decide +kernel
theorem dL_undo_0 : decode cL_undo 0 = .ok (.aload_n 1, 1) := by decide +kernel
theorem dL_undo_1 : decode cL_undo 1 = .ok (.iconst 0, 1) := by decide +kernel
theorem dL_undo_2 : decode cL_undo 2 = .ok (.aload_n 0, 1) := by decide +kernel
theorem dL_undo_3 : decode cL_undo 3 = .ok (.invokevirtual 115, 3) := by decide +kernel
theorem dL_undo_6 : decode cL_undo 6 = .ok (.i2l, 1) := by decide +kernel
theorem dL_undo_7 : decode cL_undo 7 = .ok (.lastore, 1) := by decide +kernel
theorem dL_undo_8 : decode cL_undo 8 = .ok (.goto 6, 3) := by decide +kernel
theorem dL_undo_11 : decode cL_undo 11 = .ok (.astore_n 2, 1) := by decide +kernel
theorem dL_undo_12 : decode cL_undo 12 = .ok (.iconst 1, 1) := by decide +kernel
theorem dL_undo_13 : decode cL_undo 13 = .ok (.ireturn, 1) := by decide +kernel
theorem dL_undo_14 : decode cL_undo 14 = .ok (.iconst 0, 1) := by decide +kernel
theorem dL_undo_15 : decode cL_undo 15 = .ok (.ireturn, 1) := by decide +kernel
theorem dL_restore_0 : decode cL_restore 0 = .ok (.aload_n 1, 1) := by decide +kernel
theorem dL_restore_1 : decode cL_restore 1 = .ok (.iconst 0, 1) := by decide +kernel
theorem dL_restore_2 : decode cL_restore 2 = .ok (.aload_n 0, 1) := by decide +kernel
theorem dL_restore_3 : decode cL_restore 3 = .ok (.invokevirtual 118, 3) := by decide +kernel
theorem dL_restore_6 : decode cL_restore 6 = .ok (.i2l, 1) := by decide +kernel
theorem dL_restore_7 : decode cL_restore 7 = .ok (.lastore, 1) := by decide +kernel
theorem dL_restore_8 : decode cL_restore 8 = .ok (.goto 6, 3) := by decide +kernel
theorem dL_restore_11 : decode cL_restore 11 = .ok (.astore_n 2, 1) := by decide +kernel
theorem dL_restore_12 : decode cL_restore 12 = .ok (.iconst 1, 1) := by decide +kernel
theorem dL_restore_13 : decode cL_restore 13 = .ok (.ireturn, 1) := by decide +kernel
theorem dL_restore_14 : decode cL_restore 14 = .ok (.iconst 0, 1) := by decide +kernel
theorem dL_restore_15 : decode cL_restore 15 = .ok (.ireturn, 1) := by decide +kernel
theorem dL_law_0 : decode cL_law 0 = .ok (.new 8, 3) := by decide +kernel
theorem dL_law_3 : decode cL_law 3 = .ok (.dup, 1) := by decide +kernel
theorem dL_law_4 : decode cL_law 4 = .ok (.invokespecial 121, 3) := by decide +kernel
theorem dL_law_7 : decode cL_law 7 = .ok (.astore_n 1, 1) := by decide +kernel
theorem dL_law_8 : decode cL_law 8 = .ok (.new 122, 3) := by decide +kernel
theorem dL_law_11 : decode cL_law 11 = .ok (.dup, 1) := by decide +kernel
theorem dL_law_12 : decode cL_law 12 = .ok (.invokespecial 124, 3) := by decide +kernel
theorem dL_law_15 : decode cL_law 15 = .ok (.astore_n 2, 1) := by decide +kernel
theorem dL_law_16 : decode cL_law 16 = .ok (.iconst 1, 1) := by decide +kernel
theorem dL_law_17 : decode cL_law 17 = .ok (.newarray .long, 2) := by decide +kernel
theorem dL_law_19 : decode cL_law 19 = .ok (.astore_n 3, 1) := by decide +kernel
theorem dL_law_20 : decode cL_law 20 = .ok (.iconst 1, 1) := by decide +kernel
theorem dL_law_21 : decode cL_law 21 = .ok (.newarray .double, 2) := by decide +kernel
theorem dL_law_23 : decode cL_law 23 = .ok (.astore 4, 2) := by decide +kernel
theorem dL_law_25 : decode cL_law 25 = .ok (.iconst 0, 1) := by decide +kernel
theorem dL_law_26 : decode cL_law 26 = .ok (.istore 5, 2) := by decide +kernel
theorem dL_law_28 : decode cL_law 28 = .ok (.iload 5, 2) := by decide +kernel
theorem dL_law_30 : decode cL_law 30 = .ok (.aload_n 0, 1) := by decide +kernel
theorem dL_law_31 : decode cL_law 31 = .ok (.arraylength, 1) := by decide +kernel
theorem dL_law_32 : decode cL_law 32 = .ok (.iconst 5, 1) := by decide +kernel
theorem dL_law_33 : decode cL_law 33 = .ok (.isub, 1) := by decide +kernel
theorem dL_law_34 : decode cL_law 34 = .ok (.if_icmp .gt 2222, 3) := by decide +kernel
theorem dL_law_37 : decode cL_law 37 = .ok (.aload_n 0, 1) := by decide +kernel
theorem dL_law_38 : decode cL_law 38 = .ok (.iload 5, 2) := by decide +kernel
theorem dL_law_40 : decode cL_law 40 = .ok (.iaload, 1) := by decide +kernel
theorem dL_law_41 : decode cL_law 41 = .ok (.bipush 63, 2) := by decide +kernel
theorem dL_law_43 : decode cL_law 43 = .ok (.iand, 1) := by decide +kernel
theorem dL_law_44 : decode cL_law 44 = .ok (.tableswitch 2206 0 32 #[148, 161, 241, 297, 365, 433, 489, 545, 625, 693, 785, 853, 933, 1001, 1081, 1161, 1229, 1301, 1381, 1477, 1521, 1589, 1657, 1737, 1805, 1883, 1960, 1973, 2017, 2061, 2105, 2149, 2162], 148) := by decide +kernel
theorem dL_law_192 : decode cL_law 192 = .ok (.aload_n 1, 1) := by decide +kernel
theorem dL_law_193 : decode cL_law 193 = .ok (.invokevirtual 125, 3) := by decide +kernel
theorem dL_law_196 : decode cL_law 196 = .ok (.aload_n 2, 1) := by decide +kernel
theorem dL_law_197 : decode cL_law 197 = .ok (.invokevirtual 128, 3) := by decide +kernel
theorem dL_law_200 : decode cL_law 200 = .ok (.if_icmp .eq 2050, 3) := by decide +kernel
theorem dL_law_203 : decode cL_law 203 = .ok (.iconst 0, 1) := by decide +kernel
theorem dL_law_204 : decode cL_law 204 = .ok (.ireturn, 1) := by decide +kernel
theorem dL_law_205 : decode cL_law 205 = .ok (.aload_n 1, 1) := by decide +kernel
theorem dL_law_206 : decode cL_law 206 = .ok (.aload_n 0, 1) := by decide +kernel
theorem dL_law_207 : decode cL_law 207 = .ok (.iload 5, 2) := by decide +kernel
theorem dL_law_209 : decode cL_law 209 = .ok (.iconst 1, 1) := by decide +kernel
theorem dL_law_210 : decode cL_law 210 = .ok (.iadd, 1) := by decide +kernel
theorem dL_law_211 : decode cL_law 211 = .ok (.iaload, 1) := by decide +kernel
theorem dL_law_212 : decode cL_law 212 = .ok (.aload_n 0, 1) := by decide +kernel
theorem dL_law_213 : decode cL_law 213 = .ok (.iload 5, 2) := by decide +kernel
theorem dL_law_215 : decode cL_law 215 = .ok (.iconst 2, 1) := by decide +kernel
theorem dL_law_216 : decode cL_law 216 = .ok (.iadd, 1) := by decide +kernel
theorem dL_law_217 : decode cL_law 217 = .ok (.iaload, 1) := by decide +kernel
theorem dL_law_218 : decode cL_law 218 = .ok (.aload_n 0, 1) := by decide +kernel
theorem dL_law_219 : decode cL_law 219 = .ok (.iload 5, 2) := by decide +kernel
theorem dL_law_221 : decode cL_law 221 = .ok (.iconst 3, 1) := by decide +kernel
theorem dL_law_222 : decode cL_law 222 = .ok (.iadd, 1) := by decide +kernel
theorem dL_law_223 : decode cL_law 223 = .ok (.iaload, 1) := by decide +kernel
theorem dL_law_224 : decode cL_law 224 = .ok (.aload_n 3, 1) := by decide +kernel
theorem dL_law_225 : decode cL_law 225 = .ok (.invokestatic 129, 3) := by decide +kernel
theorem dL_law_228 : decode cL_law 228 = .ok (.istore 6, 2) := by decide +kernel
theorem dL_law_230 : decode cL_law 230 = .ok (.aload_n 2, 1) := by decide +kernel
theorem dL_law_231 : decode cL_law 231 = .ok (.aload_n 0, 1) := by decide +kernel
theorem dL_law_232 : decode cL_law 232 = .ok (.iload 5, 2) := by decide +kernel
theorem dL_law_234 : decode cL_law 234 = .ok (.iconst 1, 1) := by decide +kernel
theorem dL_law_235 : decode cL_law 235 = .ok (.iadd, 1) := by decide +kernel
theorem dL_law_236 : decode cL_law 236 = .ok (.iaload, 1) := by decide +kernel
theorem dL_law_237 : decode cL_law 237 = .ok (.aload_n 0, 1) := by decide +kernel
theorem dL_law_238 : decode cL_law 238 = .ok (.iload 5, 2) := by decide +kernel
theorem dL_law_240 : decode cL_law 240 = .ok (.iconst 2, 1) := by decide +kernel
theorem dL_law_241 : decode cL_law 241 = .ok (.iadd, 1) := by decide +kernel
theorem dL_law_242 : decode cL_law 242 = .ok (.iaload, 1) := by decide +kernel
theorem dL_law_243 : decode cL_law 243 = .ok (.aload_n 0, 1) := by decide +kernel
theorem dL_law_244 : decode cL_law 244 = .ok (.iload 5, 2) := by decide +kernel
theorem dL_law_246 : decode cL_law 246 = .ok (.iconst 3, 1) := by decide +kernel
theorem dL_law_247 : decode cL_law 247 = .ok (.iadd, 1) := by decide +kernel
theorem dL_law_248 : decode cL_law 248 = .ok (.iaload, 1) := by decide +kernel
theorem dL_law_249 : decode cL_law 249 = .ok (.invokevirtual 134, 3) := by decide +kernel
theorem dL_law_252 : decode cL_law 252 = .ok (.istore 7, 2) := by decide +kernel
theorem dL_law_254 : decode cL_law 254 = .ok (.aload_n 2, 1) := by decide +kernel
theorem dL_law_255 : decode cL_law 255 = .ok (.invokevirtual 135, 3) := by decide +kernel
theorem dL_law_258 : decode cL_law 258 = .ok (.iload 6, 2) := by decide +kernel
theorem dL_law_260 : decode cL_law 260 = .ok (.if_icmp .eq 5, 3) := by decide +kernel
theorem dL_law_263 : decode cL_law 263 = .ok (.iconst 0, 1) := by decide +kernel
theorem dL_law_264 : decode cL_law 264 = .ok (.ireturn, 1) := by decide +kernel
theorem dL_law_265 : decode cL_law 265 = .ok (.iload 6, 2) := by decide +kernel
theorem dL_law_267 : decode cL_law 267 = .ok (.ifCond .ne 15, 3) := by decide +kernel
theorem dL_law_270 : decode cL_law 270 = .ok (.aload_n 3, 1) := by decide +kernel
theorem dL_law_271 : decode cL_law 271 = .ok (.iconst 0, 1) := by decide +kernel
theorem dL_law_272 : decode cL_law 272 = .ok (.laload, 1) := by decide +kernel
theorem dL_law_273 : decode cL_law 273 = .ok (.iload 7, 2) := by decide +kernel
theorem dL_law_275 : decode cL_law 275 = .ok (.i2l, 1) := by decide +kernel
theorem dL_law_276 : decode cL_law 276 = .ok (.lcmp, 1) := by decide +kernel
theorem dL_law_277 : decode cL_law 277 = .ok (.ifCond .eq 5, 3) := by decide +kernel
theorem dL_law_280 : decode cL_law 280 = .ok (.iconst 0, 1) := by decide +kernel
theorem dL_law_281 : decode cL_law 281 = .ok (.ireturn, 1) := by decide +kernel
theorem dL_law_282 : decode cL_law 282 = .ok (.goto 1968, 3) := by decide +kernel
theorem dL_law_285 : decode cL_law 285 = .ok (.aload_n 1, 1) := by decide +kernel
theorem dL_law_286 : decode cL_law 286 = .ok (.aload_n 0, 1) := by decide +kernel
theorem dL_law_287 : decode cL_law 287 = .ok (.iload 5, 2) := by decide +kernel
theorem dL_law_289 : decode cL_law 289 = .ok (.iconst 1, 1) := by decide +kernel
theorem dL_law_290 : decode cL_law 290 = .ok (.iadd, 1) := by decide +kernel
theorem dL_law_291 : decode cL_law 291 = .ok (.iaload, 1) := by decide +kernel
theorem dL_law_292 : decode cL_law 292 = .ok (.aload_n 3, 1) := by decide +kernel
theorem dL_law_293 : decode cL_law 293 = .ok (.invokestatic 138, 3) := by decide +kernel
theorem dL_law_296 : decode cL_law 296 = .ok (.istore 6, 2) := by decide +kernel
theorem dL_law_298 : decode cL_law 298 = .ok (.aload_n 2, 1) := by decide +kernel
theorem dL_law_299 : decode cL_law 299 = .ok (.aload_n 0, 1) := by decide +kernel
theorem dL_law_300 : decode cL_law 300 = .ok (.iload 5, 2) := by decide +kernel
theorem dL_law_302 : decode cL_law 302 = .ok (.iconst 1, 1) := by decide +kernel
theorem dL_law_303 : decode cL_law 303 = .ok (.iadd, 1) := by decide +kernel
theorem dL_law_304 : decode cL_law 304 = .ok (.iaload, 1) := by decide +kernel
theorem dL_law_305 : decode cL_law 305 = .ok (.invokevirtual 141, 3) := by decide +kernel
theorem dL_law_308 : decode cL_law 308 = .ok (.istore 7, 2) := by decide +kernel
theorem dL_law_310 : decode cL_law 310 = .ok (.aload_n 2, 1) := by decide +kernel
theorem dL_law_311 : decode cL_law 311 = .ok (.invokevirtual 135, 3) := by decide +kernel
theorem dL_law_314 : decode cL_law 314 = .ok (.iload 6, 2) := by decide +kernel
theorem dL_law_316 : decode cL_law 316 = .ok (.if_icmp .eq 5, 3) := by decide +kernel
theorem dL_law_319 : decode cL_law 319 = .ok (.iconst 0, 1) := by decide +kernel
theorem dL_law_320 : decode cL_law 320 = .ok (.ireturn, 1) := by decide +kernel
theorem dL_law_321 : decode cL_law 321 = .ok (.iload 6, 2) := by decide +kernel
theorem dL_law_323 : decode cL_law 323 = .ok (.ifCond .ne 15, 3) := by decide +kernel
theorem dL_law_326 : decode cL_law 326 = .ok (.aload_n 3, 1) := by decide +kernel
theorem dL_law_327 : decode cL_law 327 = .ok (.iconst 0, 1) := by decide +kernel
theorem dL_law_328 : decode cL_law 328 = .ok (.laload, 1) := by decide +kernel
theorem dL_law_329 : decode cL_law 329 = .ok (.iload 7, 2) := by decide +kernel
theorem dL_law_331 : decode cL_law 331 = .ok (.i2l, 1) := by decide +kernel
theorem dL_law_332 : decode cL_law 332 = .ok (.lcmp, 1) := by decide +kernel
theorem dL_law_333 : decode cL_law 333 = .ok (.ifCond .eq 5, 3) := by decide +kernel
theorem dL_law_336 : decode cL_law 336 = .ok (.iconst 0, 1) := by decide +kernel
theorem dL_law_337 : decode cL_law 337 = .ok (.ireturn, 1) := by decide +kernel
theorem dL_law_338 : decode cL_law 338 = .ok (.goto 1912, 3) := by decide +kernel
theorem dL_law_341 : decode cL_law 341 = .ok (.aload_n 1, 1) := by decide +kernel
theorem dL_law_342 : decode cL_law 342 = .ok (.aload_n 0, 1) := by decide +kernel
theorem dL_law_343 : decode cL_law 343 = .ok (.iload 5, 2) := by decide +kernel
theorem dL_law_345 : decode cL_law 345 = .ok (.iconst 1, 1) := by decide +kernel
theorem dL_law_346 : decode cL_law 346 = .ok (.iadd, 1) := by decide +kernel
theorem dL_law_347 : decode cL_law 347 = .ok (.iaload, 1) := by decide +kernel
theorem dL_law_348 : decode cL_law 348 = .ok (.aload_n 0, 1) := by decide +kernel
theorem dL_law_349 : decode cL_law 349 = .ok (.iload 5, 2) := by decide +kernel
theorem dL_law_351 : decode cL_law 351 = .ok (.iconst 2, 1) := by decide +kernel
theorem dL_law_352 : decode cL_law 352 = .ok (.iadd, 1) := by decide +kernel
theorem dL_law_353 : decode cL_law 353 = .ok (.iaload, 1) := by decide +kernel
theorem dL_law_354 : decode cL_law 354 = .ok (.aload_n 3, 1) := by decide +kernel
theorem dL_law_355 : decode cL_law 355 = .ok (.invokestatic 142, 3) := by decide +kernel
theorem dL_law_358 : decode cL_law 358 = .ok (.istore 6, 2) := by decide +kernel
theorem dL_law_360 : decode cL_law 360 = .ok (.aload_n 2, 1) := by decide +kernel
theorem dL_law_361 : decode cL_law 361 = .ok (.aload_n 0, 1) := by decide +kernel
theorem dL_law_362 : decode cL_law 362 = .ok (.iload 5, 2) := by decide +kernel
theorem dL_law_364 : decode cL_law 364 = .ok (.iconst 1, 1) := by decide +kernel
theorem dL_law_365 : decode cL_law 365 = .ok (.iadd, 1) := by decide +kernel
theorem dL_law_366 : decode cL_law 366 = .ok (.iaload, 1) := by decide +kernel
theorem dL_law_367 : decode cL_law 367 = .ok (.aload_n 0, 1) := by decide +kernel
theorem dL_law_368 : decode cL_law 368 = .ok (.iload 5, 2) := by decide +kernel
theorem dL_law_370 : decode cL_law 370 = .ok (.iconst 2, 1) := by decide +kernel
theorem dL_law_371 : decode cL_law 371 = .ok (.iadd, 1) := by decide +kernel
theorem dL_law_372 : decode cL_law 372 = .ok (.iaload, 1) := by decide +kernel
theorem dL_law_373 : decode cL_law 373 = .ok (.invokevirtual 145, 3) := by decide +kernel
theorem dL_law_376 : decode cL_law 376 = .ok (.istore 7, 2) := by decide +kernel
theorem dL_law_378 : decode cL_law 378 = .ok (.aload_n 2, 1) := by decide +kernel
theorem dL_law_379 : decode cL_law 379 = .ok (.invokevirtual 135, 3) := by decide +kernel
theorem dL_law_382 : decode cL_law 382 = .ok (.iload 6, 2) := by decide +kernel
theorem dL_law_384 : decode cL_law 384 = .ok (.if_icmp .eq 5, 3) := by decide +kernel
theorem dL_law_387 : decode cL_law 387 = .ok (.iconst 0, 1) := by decide +kernel
theorem dL_law_388 : decode cL_law 388 = .ok (.ireturn, 1) := by decide +kernel
theorem dL_law_389 : decode cL_law 389 = .ok (.iload 6, 2) := by decide +kernel
theorem dL_law_391 : decode cL_law 391 = .ok (.ifCond .ne 15, 3) := by decide +kernel
theorem dL_law_394 : decode cL_law 394 = .ok (.aload_n 3, 1) := by decide +kernel
theorem dL_law_395 : decode cL_law 395 = .ok (.iconst 0, 1) := by decide +kernel
theorem dL_law_396 : decode cL_law 396 = .ok (.laload, 1) := by decide +kernel
theorem dL_law_397 : decode cL_law 397 = .ok (.iload 7, 2) := by decide +kernel
theorem dL_law_399 : decode cL_law 399 = .ok (.i2l, 1) := by decide +kernel
theorem dL_law_400 : decode cL_law 400 = .ok (.lcmp, 1) := by decide +kernel
theorem dL_law_401 : decode cL_law 401 = .ok (.ifCond .eq 5, 3) := by decide +kernel
theorem dL_law_404 : decode cL_law 404 = .ok (.iconst 0, 1) := by decide +kernel
theorem dL_law_405 : decode cL_law 405 = .ok (.ireturn, 1) := by decide +kernel
theorem dL_law_406 : decode cL_law 406 = .ok (.goto 1844, 3) := by decide +kernel
theorem dL_law_409 : decode cL_law 409 = .ok (.aload_n 1, 1) := by decide +kernel
theorem dL_law_410 : decode cL_law 410 = .ok (.aload_n 0, 1) := by decide +kernel
theorem dL_law_411 : decode cL_law 411 = .ok (.iload 5, 2) := by decide +kernel
theorem dL_law_413 : decode cL_law 413 = .ok (.iconst 1, 1) := by decide +kernel
theorem dL_law_414 : decode cL_law 414 = .ok (.iadd, 1) := by decide +kernel
theorem dL_law_415 : decode cL_law 415 = .ok (.iaload, 1) := by decide +kernel
theorem dL_law_416 : decode cL_law 416 = .ok (.aload_n 0, 1) := by decide +kernel
theorem dL_law_417 : decode cL_law 417 = .ok (.iload 5, 2) := by decide +kernel
theorem dL_law_419 : decode cL_law 419 = .ok (.iconst 2, 1) := by decide +kernel
theorem dL_law_420 : decode cL_law 420 = .ok (.iadd, 1) := by decide +kernel
theorem dL_law_421 : decode cL_law 421 = .ok (.iaload, 1) := by decide +kernel
theorem dL_law_422 : decode cL_law 422 = .ok (.aload_n 3, 1) := by decide +kernel
theorem dL_law_423 : decode cL_law 423 = .ok (.invokestatic 146, 3) := by decide +kernel
theorem dL_law_426 : decode cL_law 426 = .ok (.istore 6, 2) := by decide +kernel
theorem dL_law_428 : decode cL_law 428 = .ok (.aload_n 2, 1) := by decide +kernel
theorem dL_law_429 : decode cL_law 429 = .ok (.aload_n 0, 1) := by decide +kernel
theorem dL_law_430 : decode cL_law 430 = .ok (.iload 5, 2) := by decide +kernel
theorem dL_law_432 : decode cL_law 432 = .ok (.iconst 1, 1) := by decide +kernel
theorem dL_law_433 : decode cL_law 433 = .ok (.iadd, 1) := by decide +kernel
theorem dL_law_434 : decode cL_law 434 = .ok (.iaload, 1) := by decide +kernel
theorem dL_law_435 : decode cL_law 435 = .ok (.aload_n 0, 1) := by decide +kernel
theorem dL_law_436 : decode cL_law 436 = .ok (.iload 5, 2) := by decide +kernel
theorem dL_law_438 : decode cL_law 438 = .ok (.iconst 2, 1) := by decide +kernel
theorem dL_law_439 : decode cL_law 439 = .ok (.iadd, 1) := by decide +kernel
theorem dL_law_440 : decode cL_law 440 = .ok (.iaload, 1) := by decide +kernel
theorem dL_law_441 : decode cL_law 441 = .ok (.invokevirtual 148, 3) := by decide +kernel
theorem dL_law_444 : decode cL_law 444 = .ok (.istore 7, 2) := by decide +kernel
theorem dL_law_446 : decode cL_law 446 = .ok (.aload_n 2, 1) := by decide +kernel
theorem dL_law_447 : decode cL_law 447 = .ok (.invokevirtual 135, 3) := by decide +kernel
theorem dL_law_450 : decode cL_law 450 = .ok (.iload 6, 2) := by decide +kernel
theorem dL_law_452 : decode cL_law 452 = .ok (.if_icmp .eq 5, 3) := by decide +kernel
theorem dL_law_455 : decode cL_law 455 = .ok (.iconst 0, 1) := by decide +kernel
theorem dL_law_456 : decode cL_law 456 = .ok (.ireturn, 1) := by decide +kernel
theorem dL_law_457 : decode cL_law 457 = .ok (.iload 6, 2) := by decide +kernel
theorem dL_law_459 : decode cL_law 459 = .ok (.ifCond .ne 15, 3) := by decide +kernel
theorem dL_law_462 : decode cL_law 462 = .ok (.aload_n 3, 1) := by decide +kernel
theorem dL_law_463 : decode cL_law 463 = .ok (.iconst 0, 1) := by decide +kernel
theorem dL_law_464 : decode cL_law 464 = .ok (.laload, 1) := by decide +kernel
theorem dL_law_465 : decode cL_law 465 = .ok (.iload 7, 2) := by decide +kernel
theorem dL_law_467 : decode cL_law 467 = .ok (.i2l, 1) := by decide +kernel
theorem dL_law_468 : decode cL_law 468 = .ok (.lcmp, 1) := by decide +kernel
theorem dL_law_469 : decode cL_law 469 = .ok (.ifCond .eq 5, 3) := by decide +kernel
theorem dL_law_472 : decode cL_law 472 = .ok (.iconst 0, 1) := by decide +kernel
theorem dL_law_473 : decode cL_law 473 = .ok (.ireturn, 1) := by decide +kernel
theorem dL_law_474 : decode cL_law 474 = .ok (.goto 1776, 3) := by decide +kernel
theorem dL_law_477 : decode cL_law 477 = .ok (.aload_n 1, 1) := by decide +kernel
theorem dL_law_478 : decode cL_law 478 = .ok (.aload_n 0, 1) := by decide +kernel
theorem dL_law_479 : decode cL_law 479 = .ok (.iload 5, 2) := by decide +kernel
theorem dL_law_481 : decode cL_law 481 = .ok (.iconst 1, 1) := by decide +kernel
theorem dL_law_482 : decode cL_law 482 = .ok (.iadd, 1) := by decide +kernel
theorem dL_law_483 : decode cL_law 483 = .ok (.iaload, 1) := by decide +kernel
theorem dL_law_484 : decode cL_law 484 = .ok (.aload_n 3, 1) := by decide +kernel
theorem dL_law_485 : decode cL_law 485 = .ok (.invokestatic 149, 3) := by decide +kernel
theorem dL_law_488 : decode cL_law 488 = .ok (.istore 6, 2) := by decide +kernel
theorem dL_law_490 : decode cL_law 490 = .ok (.aload_n 2, 1) := by decide +kernel
theorem dL_law_491 : decode cL_law 491 = .ok (.aload_n 0, 1) := by decide +kernel
theorem dL_law_492 : decode cL_law 492 = .ok (.iload 5, 2) := by decide +kernel
theorem dL_law_494 : decode cL_law 494 = .ok (.iconst 1, 1) := by decide +kernel
theorem dL_law_495 : decode cL_law 495 = .ok (.iadd, 1) := by decide +kernel
theorem dL_law_496 : decode cL_law 496 = .ok (.iaload, 1) := by decide +kernel
theorem dL_law_497 : decode cL_law 497 = .ok (.invokevirtual 151, 3) := by decide +kernel
theorem dL_law_500 : decode cL_law 500 = .ok (.istore 7, 2) := by decide +kernel
theorem dL_law_502 : decode cL_law 502 = .ok (.aload_n 2, 1) := by decide +kernel
theorem dL_law_503 : decode cL_law 503 = .ok (.invokevirtual 135, 3) := by decide +kernel
theorem dL_law_506 : decode cL_law 506 = .ok (.iload 6, 2) := by decide +kernel
theorem dL_law_508 : decode cL_law 508 = .ok (.if_icmp .eq 5, 3) := by decide +kernel
theorem dL_law_511 : decode cL_law 511 = .ok (.iconst 0, 1) := by decide +kernel
theorem dL_law_512 : decode cL_law 512 = .ok (.ireturn, 1) := by decide +kernel
theorem dL_law_513 : decode cL_law 513 = .ok (.iload 6, 2) := by decide +kernel
theorem dL_law_515 : decode cL_law 515 = .ok (.ifCond .ne 15, 3) := by decide +kernel
theorem dL_law_518 : decode cL_law 518 = .ok (.aload_n 3, 1) := by decide +kernel
theorem dL_law_519 : decode cL_law 519 = .ok (.iconst 0, 1) := by decide +kernel
theorem dL_law_520 : decode cL_law 520 = .ok (.laload, 1) := by decide +kernel
theorem dL_law_521 : decode cL_law 521 = .ok (.iload 7, 2) := by decide +kernel
theorem dL_law_523 : decode cL_law 523 = .ok (.i2l, 1) := by decide +kernel
theorem dL_law_524 : decode cL_law 524 = .ok (.lcmp, 1) := by decide +kernel
theorem dL_law_525 : decode cL_law 525 = .ok (.ifCond .eq 5, 3) := by decide +kernel
theorem dL_law_528 : decode cL_law 528 = .ok (.iconst 0, 1) := by decide +kernel
theorem dL_law_529 : decode cL_law 529 = .ok (.ireturn, 1) := by decide +kernel
theorem dL_law_530 : decode cL_law 530 = .ok (.goto 1720, 3) := by decide +kernel
theorem dL_law_533 : decode cL_law 533 = .ok (.aload_n 1, 1) := by decide +kernel
theorem dL_law_534 : decode cL_law 534 = .ok (.aload_n 0, 1) := by decide +kernel
theorem dL_law_535 : decode cL_law 535 = .ok (.iload 5, 2) := by decide +kernel
theorem dL_law_537 : decode cL_law 537 = .ok (.iconst 1, 1) := by decide +kernel
theorem dL_law_538 : decode cL_law 538 = .ok (.iadd, 1) := by decide +kernel
theorem dL_law_539 : decode cL_law 539 = .ok (.iaload, 1) := by decide +kernel
theorem dL_law_540 : decode cL_law 540 = .ok (.aload_n 3, 1) := by decide +kernel
theorem dL_law_541 : decode cL_law 541 = .ok (.invokestatic 152, 3) := by decide +kernel
theorem dL_law_544 : decode cL_law 544 = .ok (.istore 6, 2) := by decide +kernel
theorem dL_law_546 : decode cL_law 546 = .ok (.aload_n 2, 1) := by decide +kernel
theorem dL_law_547 : decode cL_law 547 = .ok (.aload_n 0, 1) := by decide +kernel
theorem dL_law_548 : decode cL_law 548 = .ok (.iload 5, 2) := by decide +kernel
theorem dL_law_550 : decode cL_law 550 = .ok (.iconst 1, 1) := by decide +kernel
theorem dL_law_551 : decode cL_law 551 = .ok (.iadd, 1) := by decide +kernel
theorem dL_law_552 : decode cL_law 552 = .ok (.iaload, 1) := by decide +kernel
theorem dL_law_553 : decode cL_law 553 = .ok (.invokevirtual 154, 3) := by decide +kernel
theorem dL_law_556 : decode cL_law 556 = .ok (.istore 7, 2) := by decide +kernel
theorem dL_law_558 : decode cL_law 558 = .ok (.aload_n 2, 1) := by decide +kernel
theorem dL_law_559 : decode cL_law 559 = .ok (.invokevirtual 135, 3) := by decide +kernel
theorem dL_law_562 : decode cL_law 562 = .ok (.iload 6, 2) := by decide +kernel
theorem dL_law_564 : decode cL_law 564 = .ok (.if_icmp .eq 5, 3) := by decide +kernel
theorem dL_law_567 : decode cL_law 567 = .ok (.iconst 0, 1) := by decide +kernel
theorem dL_law_568 : decode cL_law 568 = .ok (.ireturn, 1) := by decide +kernel
theorem dL_law_569 : decode cL_law 569 = .ok (.iload 6, 2) := by decide +kernel
theorem dL_law_571 : decode cL_law 571 = .ok (.ifCond .ne 15, 3) := by decide +kernel
theorem dL_law_574 : decode cL_law 574 = .ok (.aload_n 3, 1) := by decide +kernel
theorem dL_law_575 : decode cL_law 575 = .ok (.iconst 0, 1) := by decide +kernel
theorem dL_law_576 : decode cL_law 576 = .ok (.laload, 1) := by decide +kernel
theorem dL_law_577 : decode cL_law 577 = .ok (.iload 7, 2) := by decide +kernel
theorem dL_law_579 : decode cL_law 579 = .ok (.i2l, 1) := by decide +kernel
theorem dL_law_580 : decode cL_law 580 = .ok (.lcmp, 1) := by decide +kernel
theorem dL_law_581 : decode cL_law 581 = .ok (.ifCond .eq 5, 3) := by decide +kernel
theorem dL_law_584 : decode cL_law 584 = .ok (.iconst 0, 1) := by decide +kernel
theorem dL_law_585 : decode cL_law 585 = .ok (.ireturn, 1) := by decide +kernel
theorem dL_law_586 : decode cL_law 586 = .ok (.goto 1664, 3) := by decide +kernel
theorem dL_law_589 : decode cL_law 589 = .ok (.aload_n 1, 1) := by decide +kernel
theorem dL_law_590 : decode cL_law 590 = .ok (.aload_n 0, 1) := by decide +kernel
theorem dL_law_591 : decode cL_law 591 = .ok (.iload 5, 2) := by decide +kernel
theorem dL_law_593 : decode cL_law 593 = .ok (.iconst 1, 1) := by decide +kernel
theorem dL_law_594 : decode cL_law 594 = .ok (.iadd, 1) := by decide +kernel
theorem dL_law_595 : decode cL_law 595 = .ok (.iaload, 1) := by decide +kernel
theorem dL_law_596 : decode cL_law 596 = .ok (.aload_n 0, 1) := by decide +kernel
theorem dL_law_597 : decode cL_law 597 = .ok (.iload 5, 2) := by decide +kernel
theorem dL_law_599 : decode cL_law 599 = .ok (.iconst 2, 1) := by decide +kernel
theorem dL_law_600 : decode cL_law 600 = .ok (.iadd, 1) := by decide +kernel
theorem dL_law_601 : decode cL_law 601 = .ok (.iaload, 1) := by decide +kernel
theorem dL_law_602 : decode cL_law 602 = .ok (.aload_n 0, 1) := by decide +kernel
theorem dL_law_603 : decode cL_law 603 = .ok (.iload 5, 2) := by decide +kernel
theorem dL_law_605 : decode cL_law 605 = .ok (.iconst 3, 1) := by decide +kernel
theorem dL_law_606 : decode cL_law 606 = .ok (.iadd, 1) := by decide +kernel
theorem dL_law_607 : decode cL_law 607 = .ok (.iaload, 1) := by decide +kernel
theorem dL_law_608 : decode cL_law 608 = .ok (.aload_n 3, 1) := by decide +kernel
theorem dL_law_609 : decode cL_law 609 = .ok (.invokestatic 155, 3) := by decide +kernel
theorem dL_law_612 : decode cL_law 612 = .ok (.istore 6, 2) := by decide +kernel
theorem dL_law_614 : decode cL_law 614 = .ok (.aload_n 2, 1) := by decide +kernel
theorem dL_law_615 : decode cL_law 615 = .ok (.aload_n 0, 1) := by decide +kernel
theorem dL_law_616 : decode cL_law 616 = .ok (.iload 5, 2) := by decide +kernel
theorem dL_law_618 : decode cL_law 618 = .ok (.iconst 1, 1) := by decide +kernel
theorem dL_law_619 : decode cL_law 619 = .ok (.iadd, 1) := by decide +kernel
theorem dL_law_620 : decode cL_law 620 = .ok (.iaload, 1) := by decide +kernel
theorem dL_law_621 : decode cL_law 621 = .ok (.aload_n 0, 1) := by decide +kernel
theorem dL_law_622 : decode cL_law 622 = .ok (.iload 5, 2) := by decide +kernel
theorem dL_law_624 : decode cL_law 624 = .ok (.iconst 2, 1) := by decide +kernel
theorem dL_law_625 : decode cL_law 625 = .ok (.iadd, 1) := by decide +kernel
theorem dL_law_626 : decode cL_law 626 = .ok (.iaload, 1) := by decide +kernel
theorem dL_law_627 : decode cL_law 627 = .ok (.aload_n 0, 1) := by decide +kernel
theorem dL_law_628 : decode cL_law 628 = .ok (.iload 5, 2) := by decide +kernel
theorem dL_law_630 : decode cL_law 630 = .ok (.iconst 3, 1) := by decide +kernel
theorem dL_law_631 : decode cL_law 631 = .ok (.iadd, 1) := by decide +kernel
theorem dL_law_632 : decode cL_law 632 = .ok (.iaload, 1) := by decide +kernel
theorem dL_law_633 : decode cL_law 633 = .ok (.invokevirtual 157, 3) := by decide +kernel
theorem dL_law_636 : decode cL_law 636 = .ok (.istore 7, 2) := by decide +kernel
theorem dL_law_638 : decode cL_law 638 = .ok (.aload_n 2, 1) := by decide +kernel
theorem dL_law_639 : decode cL_law 639 = .ok (.invokevirtual 135, 3) := by decide +kernel
theorem dL_law_642 : decode cL_law 642 = .ok (.iload 6, 2) := by decide +kernel
theorem dL_law_644 : decode cL_law 644 = .ok (.if_icmp .eq 5, 3) := by decide +kernel
theorem dL_law_647 : decode cL_law 647 = .ok (.iconst 0, 1) := by decide +kernel
theorem dL_law_648 : decode cL_law 648 = .ok (.ireturn, 1) := by decide +kernel
theorem dL_law_649 : decode cL_law 649 = .ok (.iload 6, 2) := by decide +kernel
theorem dL_law_651 : decode cL_law 651 = .ok (.ifCond .ne 15, 3) := by decide +kernel
theorem dL_law_654 : decode cL_law 654 = .ok (.aload_n 3, 1) := by decide +kernel
theorem dL_law_655 : decode cL_law 655 = .ok (.iconst 0, 1) := by decide +kernel
theorem dL_law_656 : decode cL_law 656 = .ok (.laload, 1) := by decide +kernel
theorem dL_law_657 : decode cL_law 657 = .ok (.iload 7, 2) := by decide +kernel
theorem dL_law_659 : decode cL_law 659 = .ok (.i2l, 1) := by decide +kernel
theorem dL_law_660 : decode cL_law 660 = .ok (.lcmp, 1) := by decide +kernel
theorem dL_law_661 : decode cL_law 661 = .ok (.ifCond .eq 5, 3) := by decide +kernel
theorem dL_law_664 : decode cL_law 664 = .ok (.iconst 0, 1) := by decide +kernel
theorem dL_law_665 : decode cL_law 665 = .ok (.ireturn, 1) := by decide +kernel
theorem dL_law_666 : decode cL_law 666 = .ok (.goto 1584, 3) := by decide +kernel
theorem dL_law_669 : decode cL_law 669 = .ok (.aload_n 1, 1) := by decide +kernel
theorem dL_law_670 : decode cL_law 670 = .ok (.aload_n 0, 1) := by decide +kernel
theorem dL_law_671 : decode cL_law 671 = .ok (.iload 5, 2) := by decide +kernel
theorem dL_law_673 : decode cL_law 673 = .ok (.iconst 1, 1) := by decide +kernel
theorem dL_law_674 : decode cL_law 674 = .ok (.iadd, 1) := by decide +kernel
theorem dL_law_675 : decode cL_law 675 = .ok (.iaload, 1) := by decide +kernel
theorem dL_law_676 : decode cL_law 676 = .ok (.aload_n 0, 1) := by decide +kernel
theorem dL_law_677 : decode cL_law 677 = .ok (.iload 5, 2) := by decide +kernel
theorem dL_law_679 : decode cL_law 679 = .ok (.iconst 2, 1) := by decide +kernel
theorem dL_law_680 : decode cL_law 680 = .ok (.iadd, 1) := by decide +kernel
theorem dL_law_681 : decode cL_law 681 = .ok (.iaload, 1) := by decide +kernel
theorem dL_law_682 : decode cL_law 682 = .ok (.aload_n 3, 1) := by decide +kernel
theorem dL_law_683 : decode cL_law 683 = .ok (.invokestatic 158, 3) := by decide +kernel
theorem dL_law_686 : decode cL_law 686 = .ok (.istore 6, 2) := by decide +kernel
theorem dL_law_688 : decode cL_law 688 = .ok (.aload_n 2, 1) := by decide +kernel
theorem dL_law_689 : decode cL_law 689 = .ok (.aload_n 0, 1) := by decide +kernel
theorem dL_law_690 : decode cL_law 690 = .ok (.iload 5, 2) := by decide +kernel
theorem dL_law_692 : decode cL_law 692 = .ok (.iconst 1, 1) := by decide +kernel
theorem dL_law_693 : decode cL_law 693 = .ok (.iadd, 1) := by decide +kernel
theorem dL_law_694 : decode cL_law 694 = .ok (.iaload, 1) := by decide +kernel
theorem dL_law_695 : decode cL_law 695 = .ok (.aload_n 0, 1) := by decide +kernel
theorem dL_law_696 : decode cL_law 696 = .ok (.iload 5, 2) := by decide +kernel
theorem dL_law_698 : decode cL_law 698 = .ok (.iconst 2, 1) := by decide +kernel
theorem dL_law_699 : decode cL_law 699 = .ok (.iadd, 1) := by decide +kernel
theorem dL_law_700 : decode cL_law 700 = .ok (.iaload, 1) := by decide +kernel
theorem dL_law_701 : decode cL_law 701 = .ok (.invokevirtual 160, 3) := by decide +kernel
theorem dL_law_704 : decode cL_law 704 = .ok (.istore 7, 2) := by decide +kernel
theorem dL_law_706 : decode cL_law 706 = .ok (.aload_n 2, 1) := by decide +kernel
theorem dL_law_707 : decode cL_law 707 = .ok (.invokevirtual 135, 3) := by decide +kernel
theorem dL_law_710 : decode cL_law 710 = .ok (.iload 6, 2) := by decide +kernel
theorem dL_law_712 : decode cL_law 712 = .ok (.if_icmp .eq 5, 3) := by decide +kernel
theorem dL_law_715 : decode cL_law 715 = .ok (.iconst 0, 1) := by decide +kernel
theorem dL_law_716 : decode cL_law 716 = .ok (.ireturn, 1) := by decide +kernel
theorem dL_law_717 : decode cL_law 717 = .ok (.iload 6, 2) := by decide +kernel
theorem dL_law_719 : decode cL_law 719 = .ok (.ifCond .ne 15, 3) := by decide +kernel
theorem dL_law_722 : decode cL_law 722 = .ok (.aload_n 3, 1) := by decide +kernel
theorem dL_law_723 : decode cL_law 723 = .ok (.iconst 0, 1) := by decide +kernel
theorem dL_law_724 : decode cL_law 724 = .ok (.laload, 1) := by decide +kernel
theorem dL_law_725 : decode cL_law 725 = .ok (.iload 7, 2) := by decide +kernel
theorem dL_law_727 : decode cL_law 727 = .ok (.i2l, 1) := by decide +kernel
theorem dL_law_728 : decode cL_law 728 = .ok (.lcmp, 1) := by decide +kernel
theorem dL_law_729 : decode cL_law 729 = .ok (.ifCond .eq 5, 3) := by decide +kernel
theorem dL_law_732 : decode cL_law 732 = .ok (.iconst 0, 1) := by decide +kernel
theorem dL_law_733 : decode cL_law 733 = .ok (.ireturn, 1) := by decide +kernel
theorem dL_law_734 : decode cL_law 734 = .ok (.goto 1516, 3) := by decide +kernel
theorem dL_law_737 : decode cL_law 737 = .ok (.aload_n 1, 1) := by decide +kernel
theorem dL_law_738 : decode cL_law 738 = .ok (.aload_n 0, 1) := by decide +kernel
theorem dL_law_739 : decode cL_law 739 = .ok (.iload 5, 2) := by decide +kernel
theorem dL_law_741 : decode cL_law 741 = .ok (.iconst 1, 1) := by decide +kernel
theorem dL_law_742 : decode cL_law 742 = .ok (.iadd, 1) := by decide +kernel
theorem dL_law_743 : decode cL_law 743 = .ok (.iaload, 1) := by decide +kernel
theorem dL_law_744 : decode cL_law 744 = .ok (.aload_n 0, 1) := by decide +kernel
theorem dL_law_745 : decode cL_law 745 = .ok (.iload 5, 2) := by decide +kernel
theorem dL_law_747 : decode cL_law 747 = .ok (.iconst 2, 1) := by decide +kernel
theorem dL_law_748 : decode cL_law 748 = .ok (.iadd, 1) := by decide +kernel
theorem dL_law_749 : decode cL_law 749 = .ok (.iaload, 1) := by decide +kernel
theorem dL_law_750 : decode cL_law 750 = .ok (.aload_n 0, 1) := by decide +kernel
theorem dL_law_751 : decode cL_law 751 = .ok (.iload 5, 2) := by decide +kernel
theorem dL_law_753 : decode cL_law 753 = .ok (.iconst 3, 1) := by decide +kernel
theorem dL_law_754 : decode cL_law 754 = .ok (.iadd, 1) := by decide +kernel
theorem dL_law_755 : decode cL_law 755 = .ok (.iaload, 1) := by decide +kernel
theorem dL_law_756 : decode cL_law 756 = .ok (.aload_n 0, 1) := by decide +kernel
theorem dL_law_757 : decode cL_law 757 = .ok (.iload 5, 2) := by decide +kernel
theorem dL_law_759 : decode cL_law 759 = .ok (.iconst 4, 1) := by decide +kernel
theorem dL_law_760 : decode cL_law 760 = .ok (.iadd, 1) := by decide +kernel
theorem dL_law_761 : decode cL_law 761 = .ok (.iaload, 1) := by decide +kernel
theorem dL_law_762 : decode cL_law 762 = .ok (.aload_n 3, 1) := by decide +kernel
theorem dL_law_763 : decode cL_law 763 = .ok (.invokestatic 161, 3) := by decide +kernel
theorem dL_law_766 : decode cL_law 766 = .ok (.istore 6, 2) := by decide +kernel
theorem dL_law_768 : decode cL_law 768 = .ok (.aload_n 2, 1) := by decide +kernel
theorem dL_law_769 : decode cL_law 769 = .ok (.aload_n 0, 1) := by decide +kernel
theorem dL_law_770 : decode cL_law 770 = .ok (.iload 5, 2) := by decide +kernel
theorem dL_law_772 : decode cL_law 772 = .ok (.iconst 1, 1) := by decide +kernel
theorem dL_law_773 : decode cL_law 773 = .ok (.iadd, 1) := by decide +kernel
theorem dL_law_774 : decode cL_law 774 = .ok (.iaload, 1) := by decide +kernel
theorem dL_law_775 : decode cL_law 775 = .ok (.aload_n 0, 1) := by decide +kernel
theorem dL_law_776 : decode cL_law 776 = .ok (.iload 5, 2) := by decide +kernel
theorem dL_law_778 : decode cL_law 778 = .ok (.iconst 2, 1) := by decide +kernel
theorem dL_law_779 : decode cL_law 779 = .ok (.iadd, 1) := by decide +kernel
theorem dL_law_780 : decode cL_law 780 = .ok (.iaload, 1) := by decide +kernel
theorem dL_law_781 : decode cL_law 781 = .ok (.aload_n 0, 1) := by decide +kernel
theorem dL_law_782 : decode cL_law 782 = .ok (.iload 5, 2) := by decide +kernel
theorem dL_law_784 : decode cL_law 784 = .ok (.iconst 3, 1) := by decide +kernel
theorem dL_law_785 : decode cL_law 785 = .ok (.iadd, 1) := by decide +kernel
theorem dL_law_786 : decode cL_law 786 = .ok (.iaload, 1) := by decide +kernel
theorem dL_law_787 : decode cL_law 787 = .ok (.aload_n 0, 1) := by decide +kernel
theorem dL_law_788 : decode cL_law 788 = .ok (.iload 5, 2) := by decide +kernel
theorem dL_law_790 : decode cL_law 790 = .ok (.iconst 4, 1) := by decide +kernel
theorem dL_law_791 : decode cL_law 791 = .ok (.iadd, 1) := by decide +kernel
theorem dL_law_792 : decode cL_law 792 = .ok (.iaload, 1) := by decide +kernel
theorem dL_law_793 : decode cL_law 793 = .ok (.invokevirtual 164, 3) := by decide +kernel
theorem dL_law_796 : decode cL_law 796 = .ok (.istore 7, 2) := by decide +kernel
theorem dL_law_798 : decode cL_law 798 = .ok (.aload_n 2, 1) := by decide +kernel
theorem dL_law_799 : decode cL_law 799 = .ok (.invokevirtual 135, 3) := by decide +kernel
theorem dL_law_802 : decode cL_law 802 = .ok (.iload 6, 2) := by decide +kernel
theorem dL_law_804 : decode cL_law 804 = .ok (.if_icmp .eq 5, 3) := by decide +kernel
theorem dL_law_807 : decode cL_law 807 = .ok (.iconst 0, 1) := by decide +kernel
theorem dL_law_808 : decode cL_law 808 = .ok (.ireturn, 1) := by decide +kernel
theorem dL_law_809 : decode cL_law 809 = .ok (.iload 6, 2) := by decide +kernel
theorem dL_law_811 : decode cL_law 811 = .ok (.ifCond .ne 15, 3) := by decide +kernel
theorem dL_law_814 : decode cL_law 814 = .ok (.aload_n 3, 1) := by decide +kernel
theorem dL_law_815 : decode cL_law 815 = .ok (.iconst 0, 1) := by decide +kernel
theorem dL_law_816 : decode cL_law 816 = .ok (.laload, 1) := by decide +kernel
theorem dL_law_817 : decode cL_law 817 = .ok (.iload 7, 2) := by decide +kernel
theorem dL_law_819 : decode cL_law 819 = .ok (.i2l, 1) := by decide +kernel
theorem dL_law_820 : decode cL_law 820 = .ok (.lcmp, 1) := by decide +kernel
theorem dL_law_821 : decode cL_law 821 = .ok (.ifCond .eq 5, 3) := by decide +kernel
theorem dL_law_824 : decode cL_law 824 = .ok (.iconst 0, 1) := by decide +kernel
theorem dL_law_825 : decode cL_law 825 = .ok (.ireturn, 1) := by decide +kernel
theorem dL_law_826 : decode cL_law 826 = .ok (.goto 1424, 3) := by decide +kernel
theorem dL_law_829 : decode cL_law 829 = .ok (.aload_n 1, 1) := by decide +kernel
theorem dL_law_830 : decode cL_law 830 = .ok (.aload_n 0, 1) := by decide +kernel
theorem dL_law_831 : decode cL_law 831 = .ok (.iload 5, 2) := by decide +kernel
theorem dL_law_833 : decode cL_law 833 = .ok (.iconst 1, 1) := by decide +kernel
theorem dL_law_834 : decode cL_law 834 = .ok (.iadd, 1) := by decide +kernel
theorem dL_law_835 : decode cL_law 835 = .ok (.iaload, 1) := by decide +kernel
theorem dL_law_836 : decode cL_law 836 = .ok (.aload_n 0, 1) := by decide +kernel
theorem dL_law_837 : decode cL_law 837 = .ok (.iload 5, 2) := by decide +kernel
theorem dL_law_839 : decode cL_law 839 = .ok (.iconst 2, 1) := by decide +kernel
theorem dL_law_840 : decode cL_law 840 = .ok (.iadd, 1) := by decide +kernel
theorem dL_law_841 : decode cL_law 841 = .ok (.iaload, 1) := by decide +kernel
theorem dL_law_842 : decode cL_law 842 = .ok (.aload_n 3, 1) := by decide +kernel
theorem dL_law_843 : decode cL_law 843 = .ok (.invokestatic 165, 3) := by decide +kernel
theorem dL_law_846 : decode cL_law 846 = .ok (.istore 6, 2) := by decide +kernel
theorem dL_law_848 : decode cL_law 848 = .ok (.aload_n 2, 1) := by decide +kernel
theorem dL_law_849 : decode cL_law 849 = .ok (.aload_n 0, 1) := by decide +kernel
theorem dL_law_850 : decode cL_law 850 = .ok (.iload 5, 2) := by decide +kernel
theorem dL_law_852 : decode cL_law 852 = .ok (.iconst 1, 1) := by decide +kernel
theorem dL_law_853 : decode cL_law 853 = .ok (.iadd, 1) := by decide +kernel
theorem dL_law_854 : decode cL_law 854 = .ok (.iaload, 1) := by decide +kernel
theorem dL_law_855 : decode cL_law 855 = .ok (.aload_n 0, 1) := by decide +kernel
theorem dL_law_856 : decode cL_law 856 = .ok (.iload 5, 2) := by decide +kernel
theorem dL_law_858 : decode cL_law 858 = .ok (.iconst 2, 1) := by decide +kernel
theorem dL_law_859 : decode cL_law 859 = .ok (.iadd, 1) := by decide +kernel
theorem dL_law_860 : decode cL_law 860 = .ok (.iaload, 1) := by decide +kernel
theorem dL_law_861 : decode cL_law 861 = .ok (.invokevirtual 167, 3) := by decide +kernel
theorem dL_law_864 : decode cL_law 864 = .ok (.istore 7, 2) := by decide +kernel
theorem dL_law_866 : decode cL_law 866 = .ok (.aload_n 2, 1) := by decide +kernel
theorem dL_law_867 : decode cL_law 867 = .ok (.invokevirtual 135, 3) := by decide +kernel
theorem dL_law_870 : decode cL_law 870 = .ok (.iload 6, 2) := by decide +kernel
theorem dL_law_872 : decode cL_law 872 = .ok (.if_icmp .eq 5, 3) := by decide +kernel
theorem dL_law_875 : decode cL_law 875 = .ok (.iconst 0, 1) := by decide +kernel
theorem dL_law_876 : decode cL_law 876 = .ok (.ireturn, 1) := by decide +kernel
theorem dL_law_877 : decode cL_law 877 = .ok (.iload 6, 2) := by decide +kernel
theorem dL_law_879 : decode cL_law 879 = .ok (.ifCond .ne 15, 3) := by decide +kernel
theorem dL_law_882 : decode cL_law 882 = .ok (.aload_n 3, 1) := by decide +kernel
theorem dL_law_883 : decode cL_law 883 = .ok (.iconst 0, 1) := by decide +kernel
theorem dL_law_884 : decode cL_law 884 = .ok (.laload, 1) := by decide +kernel
theorem dL_law_885 : decode cL_law 885 = .ok (.iload 7, 2) := by decide +kernel
theorem dL_law_887 : decode cL_law 887 = .ok (.i2l, 1) := by decide +kernel
theorem dL_law_888 : decode cL_law 888 = .ok (.lcmp, 1) := by decide +kernel
theorem dL_law_889 : decode cL_law 889 = .ok (.ifCond .eq 5, 3) := by decide +kernel
theorem dL_law_892 : decode cL_law 892 = .ok (.iconst 0, 1) := by decide +kernel
theorem dL_law_893 : decode cL_law 893 = .ok (.ireturn, 1) := by decide +kernel
theorem dL_law_894 : decode cL_law 894 = .ok (.goto 1356, 3) := by decide +kernel
theorem dL_law_897 : decode cL_law 897 = .ok (.aload_n 1, 1) := by decide +kernel
theorem dL_law_898 : decode cL_law 898 = .ok (.aload_n 0, 1) := by decide +kernel
theorem dL_law_899 : decode cL_law 899 = .ok (.iload 5, 2) := by decide +kernel
theorem dL_law_901 : decode cL_law 901 = .ok (.iconst 1, 1) := by decide +kernel
theorem dL_law_902 : decode cL_law 902 = .ok (.iadd, 1) := by decide +kernel
theorem dL_law_903 : decode cL_law 903 = .ok (.iaload, 1) := by decide +kernel
theorem dL_law_904 : decode cL_law 904 = .ok (.aload_n 0, 1) := by decide +kernel
theorem dL_law_905 : decode cL_law 905 = .ok (.iload 5, 2) := by decide +kernel
theorem dL_law_907 : decode cL_law 907 = .ok (.iconst 2, 1) := by decide +kernel
theorem dL_law_908 : decode cL_law 908 = .ok (.iadd, 1) := by decide +kernel
theorem dL_law_909 : decode cL_law 909 = .ok (.iaload, 1) := by decide +kernel
theorem dL_law_910 : decode cL_law 910 = .ok (.aload_n 0, 1) := by decide +kernel
theorem dL_law_911 : decode cL_law 911 = .ok (.iload 5, 2) := by decide +kernel
theorem dL_law_913 : decode cL_law 913 = .ok (.iconst 3, 1) := by decide +kernel
theorem dL_law_914 : decode cL_law 914 = .ok (.iadd, 1) := by decide +kernel
theorem dL_law_915 : decode cL_law 915 = .ok (.iaload, 1) := by decide +kernel
theorem dL_law_916 : decode cL_law 916 = .ok (.aload_n 3, 1) := by decide +kernel
theorem dL_law_917 : decode cL_law 917 = .ok (.invokestatic 168, 3) := by decide +kernel
theorem dL_law_920 : decode cL_law 920 = .ok (.istore 6, 2) := by decide +kernel
theorem dL_law_922 : decode cL_law 922 = .ok (.aload_n 2, 1) := by decide +kernel
theorem dL_law_923 : decode cL_law 923 = .ok (.aload_n 0, 1) := by decide +kernel
theorem dL_law_924 : decode cL_law 924 = .ok (.iload 5, 2) := by decide +kernel
theorem dL_law_926 : decode cL_law 926 = .ok (.iconst 1, 1) := by decide +kernel
theorem dL_law_927 : decode cL_law 927 = .ok (.iadd, 1) := by decide +kernel
theorem dL_law_928 : decode cL_law 928 = .ok (.iaload, 1) := by decide +kernel
theorem dL_law_929 : decode cL_law 929 = .ok (.aload_n 0, 1) := by decide +kernel
theorem dL_law_930 : decode cL_law 930 = .ok (.iload 5, 2) := by decide +kernel
theorem dL_law_932 : decode cL_law 932 = .ok (.iconst 2, 1) := by decide +kernel
theorem dL_law_933 : decode cL_law 933 = .ok (.iadd, 1) := by decide +kernel
theorem dL_law_934 : decode cL_law 934 = .ok (.iaload, 1) := by decide +kernel
theorem dL_law_935 : decode cL_law 935 = .ok (.aload_n 0, 1) := by decide +kernel
theorem dL_law_936 : decode cL_law 936 = .ok (.iload 5, 2) := by decide +kernel
theorem dL_law_938 : decode cL_law 938 = .ok (.iconst 3, 1) := by decide +kernel
theorem dL_law_939 : decode cL_law 939 = .ok (.iadd, 1) := by decide +kernel
theorem dL_law_940 : decode cL_law 940 = .ok (.iaload, 1) := by decide +kernel
theorem dL_law_941 : decode cL_law 941 = .ok (.invokevirtual 170, 3) := by decide +kernel
theorem dL_law_944 : decode cL_law 944 = .ok (.istore 7, 2) := by decide +kernel
theorem dL_law_946 : decode cL_law 946 = .ok (.aload_n 2, 1) := by decide +kernel
theorem dL_law_947 : decode cL_law 947 = .ok (.invokevirtual 135, 3) := by decide +kernel
theorem dL_law_950 : decode cL_law 950 = .ok (.iload 6, 2) := by decide +kernel
theorem dL_law_952 : decode cL_law 952 = .ok (.if_icmp .eq 5, 3) := by decide +kernel
theorem dL_law_955 : decode cL_law 955 = .ok (.iconst 0, 1) := by decide +kernel
theorem dL_law_956 : decode cL_law 956 = .ok (.ireturn, 1) := by decide +kernel
theorem dL_law_957 : decode cL_law 957 = .ok (.iload 6, 2) := by decide +kernel
theorem dL_law_959 : decode cL_law 959 = .ok (.ifCond .ne 15, 3) := by decide +kernel
theorem dL_law_962 : decode cL_law 962 = .ok (.aload_n 3, 1) := by decide +kernel
theorem dL_law_963 : decode cL_law 963 = .ok (.iconst 0, 1) := by decide +kernel
theorem dL_law_964 : decode cL_law 964 = .ok (.laload, 1) := by decide +kernel
theorem dL_law_965 : decode cL_law 965 = .ok (.iload 7, 2) := by decide +kernel
theorem dL_law_967 : decode cL_law 967 = .ok (.i2l, 1) := by decide +kernel
theorem dL_law_968 : decode cL_law 968 = .ok (.lcmp, 1) := by decide +kernel
theorem dL_law_969 : decode cL_law 969 = .ok (.ifCond .eq 5, 3) := by decide +kernel
theorem dL_law_972 : decode cL_law 972 = .ok (.iconst 0, 1) := by decide +kernel
theorem dL_law_973 : decode cL_law 973 = .ok (.ireturn, 1) := by decide +kernel
theorem dL_law_974 : decode cL_law 974 = .ok (.goto 1276, 3) := by decide +kernel
theorem dL_law_977 : decode cL_law 977 = .ok (.aload_n 1, 1) := by decide +kernel
theorem dL_law_978 : decode cL_law 978 = .ok (.aload_n 0, 1) := by decide +kernel
theorem dL_law_979 : decode cL_law 979 = .ok (.iload 5, 2) := by decide +kernel
theorem dL_law_981 : decode cL_law 981 = .ok (.iconst 1, 1) := by decide +kernel
theorem dL_law_982 : decode cL_law 982 = .ok (.iadd, 1) := by decide +kernel
theorem dL_law_983 : decode cL_law 983 = .ok (.iaload, 1) := by decide +kernel
theorem dL_law_984 : decode cL_law 984 = .ok (.aload_n 0, 1) := by decide +kernel
theorem dL_law_985 : decode cL_law 985 = .ok (.iload 5, 2) := by decide +kernel
theorem dL_law_987 : decode cL_law 987 = .ok (.iconst 2, 1) := by decide +kernel
theorem dL_law_988 : decode cL_law 988 = .ok (.iadd, 1) := by decide +kernel
theorem dL_law_989 : decode cL_law 989 = .ok (.iaload, 1) := by decide +kernel
theorem dL_law_990 : decode cL_law 990 = .ok (.aload_n 3, 1) := by decide +kernel
theorem dL_law_991 : decode cL_law 991 = .ok (.invokestatic 171, 3) := by decide +kernel
theorem dL_law_994 : decode cL_law 994 = .ok (.istore 6, 2) := by decide +kernel
theorem dL_law_996 : decode cL_law 996 = .ok (.aload_n 2, 1) := by decide +kernel
theorem dL_law_997 : decode cL_law 997 = .ok (.aload_n 0, 1) := by decide +kernel
theorem dL_law_998 : decode cL_law 998 = .ok (.iload 5, 2) := by decide +kernel
theorem dL_law_1000 : decode cL_law 1000 = .ok (.iconst 1, 1) := by decide +kernel
theorem dL_law_1001 : decode cL_law 1001 = .ok (.iadd, 1) := by decide +kernel
theorem dL_law_1002 : decode cL_law 1002 = .ok (.iaload, 1) := by decide +kernel
theorem dL_law_1003 : decode cL_law 1003 = .ok (.aload_n 0, 1) := by decide +kernel
theorem dL_law_1004 : decode cL_law 1004 = .ok (.iload 5, 2) := by decide +kernel
theorem dL_law_1006 : decode cL_law 1006 = .ok (.iconst 2, 1) := by decide +kernel
theorem dL_law_1007 : decode cL_law 1007 = .ok (.iadd, 1) := by decide +kernel
theorem dL_law_1008 : decode cL_law 1008 = .ok (.iaload, 1) := by decide +kernel
theorem dL_law_1009 : decode cL_law 1009 = .ok (.invokevirtual 173, 3) := by decide +kernel
theorem dL_law_1012 : decode cL_law 1012 = .ok (.istore 7, 2) := by decide +kernel
theorem dL_law_1014 : decode cL_law 1014 = .ok (.aload_n 2, 1) := by decide +kernel
theorem dL_law_1015 : decode cL_law 1015 = .ok (.invokevirtual 135, 3) := by decide +kernel
theorem dL_law_1018 : decode cL_law 1018 = .ok (.iload 6, 2) := by decide +kernel
theorem dL_law_1020 : decode cL_law 1020 = .ok (.if_icmp .eq 5, 3) := by decide +kernel
theorem dL_law_1023 : decode cL_law 1023 = .ok (.iconst 0, 1) := by decide +kernel
theorem dL_law_1024 : decode cL_law 1024 = .ok (.ireturn, 1) := by decide +kernel
theorem dL_law_1025 : decode cL_law 1025 = .ok (.iload 6, 2) := by decide +kernel
theorem dL_law_1027 : decode cL_law 1027 = .ok (.ifCond .ne 15, 3) := by decide +kernel
theorem dL_law_1030 : decode cL_law 1030 = .ok (.aload_n 3, 1) := by decide +kernel
theorem dL_law_1031 : decode cL_law 1031 = .ok (.iconst 0, 1) := by decide +kernel
theorem dL_law_1032 : decode cL_law 1032 = .ok (.laload, 1) := by decide +kernel
theorem dL_law_1033 : decode cL_law 1033 = .ok (.iload 7, 2) := by decide +kernel
theorem dL_law_1035 : decode cL_law 1035 = .ok (.i2l, 1) := by decide +kernel
theorem dL_law_1036 : decode cL_law 1036 = .ok (.lcmp, 1) := by decide +kernel
theorem dL_law_1037 : decode cL_law 1037 = .ok (.ifCond .eq 5, 3) := by decide +kernel
theorem dL_law_1040 : decode cL_law 1040 = .ok (.iconst 0, 1) := by decide +kernel
theorem dL_law_1041 : decode cL_law 1041 = .ok (.ireturn, 1) := by decide +kernel
theorem dL_law_1042 : decode cL_law 1042 = .ok (.goto 1208, 3) := by decide +kernel
theorem dL_law_1045 : decode cL_law 1045 = .ok (.aload_n 1, 1) := by decide +kernel
theorem dL_law_1046 : decode cL_law 1046 = .ok (.aload_n 0, 1) := by decide +kernel
theorem dL_law_1047 : decode cL_law 1047 = .ok (.iload 5, 2) := by decide +kernel
theorem dL_law_1049 : decode cL_law 1049 = .ok (.iconst 1, 1) := by decide +kernel
theorem dL_law_1050 : decode cL_law 1050 = .ok (.iadd, 1) := by decide +kernel
theorem dL_law_1051 : decode cL_law 1051 = .ok (.iaload, 1) := by decide +kernel
theorem dL_law_1052 : decode cL_law 1052 = .ok (.aload_n 0, 1) := by decide +kernel
theorem dL_law_1053 : decode cL_law 1053 = .ok (.iload 5, 2) := by decide +kernel
theorem dL_law_1055 : decode cL_law 1055 = .ok (.iconst 2, 1) := by decide +kernel
theorem dL_law_1056 : decode cL_law 1056 = .ok (.iadd, 1) := by decide +kernel
theorem dL_law_1057 : decode cL_law 1057 = .ok (.iaload, 1) := by decide +kernel
theorem dL_law_1058 : decode cL_law 1058 = .ok (.aload_n 0, 1) := by decide +kernel
theorem dL_law_1059 : decode cL_law 1059 = .ok (.iload 5, 2) := by decide +kernel
theorem dL_law_1061 : decode cL_law 1061 = .ok (.iconst 3, 1) := by decide +kernel
theorem dL_law_1062 : decode cL_law 1062 = .ok (.iadd, 1) := by decide +kernel
theorem dL_law_1063 : decode cL_law 1063 = .ok (.iaload, 1) := by decide +kernel
theorem dL_law_1064 : decode cL_law 1064 = .ok (.aload_n 3, 1) := by decide +kernel
theorem dL_law_1065 : decode cL_law 1065 = .ok (.invokestatic 174, 3) := by decide +kernel
theorem dL_law_1068 : decode cL_law 1068 = .ok (.istore 6, 2) := by decide +kernel
theorem dL_law_1070 : decode cL_law 1070 = .ok (.aload_n 2, 1) := by decide +kernel
theorem dL_law_1071 : decode cL_law 1071 = .ok (.aload_n 0, 1) := by decide +kernel
theorem dL_law_1072 : decode cL_law 1072 = .ok (.iload 5, 2) := by decide +kernel
theorem dL_law_1074 : decode cL_law 1074 = .ok (.iconst 1, 1) := by decide +kernel
theorem dL_law_1075 : decode cL_law 1075 = .ok (.iadd, 1) := by decide +kernel
theorem dL_law_1076 : decode cL_law 1076 = .ok (.iaload, 1) := by decide +kernel
theorem dL_law_1077 : decode cL_law 1077 = .ok (.aload_n 0, 1) := by decide +kernel
theorem dL_law_1078 : decode cL_law 1078 = .ok (.iload 5, 2) := by decide +kernel
theorem dL_law_1080 : decode cL_law 1080 = .ok (.iconst 2, 1) := by decide +kernel
theorem dL_law_1081 : decode cL_law 1081 = .ok (.iadd, 1) := by decide +kernel
theorem dL_law_1082 : decode cL_law 1082 = .ok (.iaload, 1) := by decide +kernel
theorem dL_law_1083 : decode cL_law 1083 = .ok (.aload_n 0, 1) := by decide +kernel
theorem dL_law_1084 : decode cL_law 1084 = .ok (.iload 5, 2) := by decide +kernel
theorem dL_law_1086 : decode cL_law 1086 = .ok (.iconst 3, 1) := by decide +kernel
theorem dL_law_1087 : decode cL_law 1087 = .ok (.iadd, 1) := by decide +kernel
theorem dL_law_1088 : decode cL_law 1088 = .ok (.iaload, 1) := by decide +kernel
theorem dL_law_1089 : decode cL_law 1089 = .ok (.invokevirtual 176, 3) := by decide +kernel
theorem dL_law_1092 : decode cL_law 1092 = .ok (.istore 7, 2) := by decide +kernel
theorem dL_law_1094 : decode cL_law 1094 = .ok (.aload_n 2, 1) := by decide +kernel
theorem dL_law_1095 : decode cL_law 1095 = .ok (.invokevirtual 135, 3) := by decide +kernel
theorem dL_law_1098 : decode cL_law 1098 = .ok (.iload 6, 2) := by decide +kernel
theorem dL_law_1100 : decode cL_law 1100 = .ok (.if_icmp .eq 5, 3) := by decide +kernel
theorem dL_law_1103 : decode cL_law 1103 = .ok (.iconst 0, 1) := by decide +kernel
theorem dL_law_1104 : decode cL_law 1104 = .ok (.ireturn, 1) := by decide +kernel
theorem dL_law_1105 : decode cL_law 1105 = .ok (.iload 6, 2) := by decide +kernel
theorem dL_law_1107 : decode cL_law 1107 = .ok (.ifCond .ne 15, 3) := by decide +kernel
theorem dL_law_1110 : decode cL_law 1110 = .ok (.aload_n 3, 1) := by decide +kernel
theorem dL_law_1111 : decode cL_law 1111 = .ok (.iconst 0, 1) := by decide +kernel
theorem dL_law_1112 : decode cL_law 1112 = .ok (.laload, 1) := by decide +kernel
theorem dL_law_1113 : decode cL_law 1113 = .ok (.iload 7, 2) := by decide +kernel
theorem dL_law_1115 : decode cL_law 1115 = .ok (.i2l, 1) := by decide +kernel
theorem dL_law_1116 : decode cL_law 1116 = .ok (.lcmp, 1) := by decide +kernel
theorem dL_law_1117 : decode cL_law 1117 = .ok (.ifCond .eq 5, 3) := by decide +kernel
theorem dL_law_1120 : decode cL_law 1120 = .ok (.iconst 0, 1) := by decide +kernel
theorem dL_law_1121 : decode cL_law 1121 = .ok (.ireturn, 1) := by decide +kernel
theorem dL_law_1122 : decode cL_law 1122 = .ok (.goto 1128, 3) := by decide +kernel
theorem dL_law_1125 : decode cL_law 1125 = .ok (.aload_n 1, 1) := by decide +kernel
theorem dL_law_1126 : decode cL_law 1126 = .ok (.aload_n 0, 1) := by decide +kernel
theorem dL_law_1127 : decode cL_law 1127 = .ok (.iload 5, 2) := by decide +kernel
theorem dL_law_1129 : decode cL_law 1129 = .ok (.iconst 1, 1) := by decide +kernel
theorem dL_law_1130 : decode cL_law 1130 = .ok (.iadd, 1) := by decide +kernel
theorem dL_law_1131 : decode cL_law 1131 = .ok (.iaload, 1) := by decide +kernel
theorem dL_law_1132 : decode cL_law 1132 = .ok (.aload_n 0, 1) := by decide +kernel
theorem dL_law_1133 : decode cL_law 1133 = .ok (.iload 5, 2) := by decide +kernel
theorem dL_law_1135 : decode cL_law 1135 = .ok (.iconst 2, 1) := by decide +kernel
theorem dL_law_1136 : decode cL_law 1136 = .ok (.iadd, 1) := by decide +kernel
theorem dL_law_1137 : decode cL_law 1137 = .ok (.iaload, 1) := by decide +kernel
theorem dL_law_1138 : decode cL_law 1138 = .ok (.aload_n 0, 1) := by decide +kernel
theorem dL_law_1139 : decode cL_law 1139 = .ok (.iload 5, 2) := by decide +kernel
theorem dL_law_1141 : decode cL_law 1141 = .ok (.iconst 3, 1) := by decide +kernel
theorem dL_law_1142 : decode cL_law 1142 = .ok (.iadd, 1) := by decide +kernel
theorem dL_law_1143 : decode cL_law 1143 = .ok (.iaload, 1) := by decide +kernel
theorem dL_law_1144 : decode cL_law 1144 = .ok (.aload_n 3, 1) := by decide +kernel
theorem dL_law_1145 : decode cL_law 1145 = .ok (.invokestatic 177, 3) := by decide +kernel
theorem dL_law_1148 : decode cL_law 1148 = .ok (.istore 6, 2) := by decide +kernel
theorem dL_law_1150 : decode cL_law 1150 = .ok (.aload_n 2, 1) := by decide +kernel
theorem dL_law_1151 : decode cL_law 1151 = .ok (.aload_n 0, 1) := by decide +kernel
theorem dL_law_1152 : decode cL_law 1152 = .ok (.iload 5, 2) := by decide +kernel
theorem dL_law_1154 : decode cL_law 1154 = .ok (.iconst 1, 1) := by decide +kernel
theorem dL_law_1155 : decode cL_law 1155 = .ok (.iadd, 1) := by decide +kernel
theorem dL_law_1156 : decode cL_law 1156 = .ok (.iaload, 1) := by decide +kernel
theorem dL_law_1157 : decode cL_law 1157 = .ok (.aload_n 0, 1) := by decide +kernel
theorem dL_law_1158 : decode cL_law 1158 = .ok (.iload 5, 2) := by decide +kernel
theorem dL_law_1160 : decode cL_law 1160 = .ok (.iconst 2, 1) := by decide +kernel
theorem dL_law_1161 : decode cL_law 1161 = .ok (.iadd, 1) := by decide +kernel
theorem dL_law_1162 : decode cL_law 1162 = .ok (.iaload, 1) := by decide +kernel
theorem dL_law_1163 : decode cL_law 1163 = .ok (.aload_n 0, 1) := by decide +kernel
theorem dL_law_1164 : decode cL_law 1164 = .ok (.iload 5, 2) := by decide +kernel
theorem dL_law_1166 : decode cL_law 1166 = .ok (.iconst 3, 1) := by decide +kernel
theorem dL_law_1167 : decode cL_law 1167 = .ok (.iadd, 1) := by decide +kernel
theorem dL_law_1168 : decode cL_law 1168 = .ok (.iaload, 1) := by decide +kernel
theorem dL_law_1169 : decode cL_law 1169 = .ok (.invokevirtual 179, 3) := by decide +kernel
theorem dL_law_1172 : decode cL_law 1172 = .ok (.istore 7, 2) := by decide +kernel
theorem dL_law_1174 : decode cL_law 1174 = .ok (.aload_n 2, 1) := by decide +kernel
theorem dL_law_1175 : decode cL_law 1175 = .ok (.invokevirtual 135, 3) := by decide +kernel
theorem dL_law_1178 : decode cL_law 1178 = .ok (.iload 6, 2) := by decide +kernel
theorem dL_law_1180 : decode cL_law 1180 = .ok (.if_icmp .eq 5, 3) := by decide +kernel
theorem dL_law_1183 : decode cL_law 1183 = .ok (.iconst 0, 1) := by decide +kernel
theorem dL_law_1184 : decode cL_law 1184 = .ok (.ireturn, 1) := by decide +kernel
theorem dL_law_1185 : decode cL_law 1185 = .ok (.iload 6, 2) := by decide +kernel
theorem dL_law_1187 : decode cL_law 1187 = .ok (.ifCond .ne 15, 3) := by decide +kernel
theorem dL_law_1190 : decode cL_law 1190 = .ok (.aload_n 3, 1) := by decide +kernel
theorem dL_law_1191 : decode cL_law 1191 = .ok (.iconst 0, 1) := by decide +kernel
theorem dL_law_1192 : decode cL_law 1192 = .ok (.laload, 1) := by decide +kernel
theorem dL_law_1193 : decode cL_law 1193 = .ok (.iload 7, 2) := by decide +kernel
theorem dL_law_1195 : decode cL_law 1195 = .ok (.i2l, 1) := by decide +kernel
theorem dL_law_1196 : decode cL_law 1196 = .ok (.lcmp, 1) := by decide +kernel
theorem dL_law_1197 : decode cL_law 1197 = .ok (.ifCond .eq 5, 3) := by decide +kernel
theorem dL_law_1200 : decode cL_law 1200 = .ok (.iconst 0, 1) := by decide +kernel
theorem dL_law_1201 : decode cL_law 1201 = .ok (.ireturn, 1) := by decide +kernel
theorem dL_law_1202 : decode cL_law 1202 = .ok (.goto 1048, 3) := by decide +kernel
theorem dL_law_1205 : decode cL_law 1205 = .ok (.aload_n 1, 1) := by decide +kernel
theorem dL_law_1206 : decode cL_law 1206 = .ok (.aload_n 0, 1) := by decide +kernel
theorem dL_law_1207 : decode cL_law 1207 = .ok (.iload 5, 2) := by decide +kernel
theorem dL_law_1209 : decode cL_law 1209 = .ok (.iconst 1, 1) := by decide +kernel
theorem dL_law_1210 : decode cL_law 1210 = .ok (.iadd, 1) := by decide +kernel
theorem dL_law_1211 : decode cL_law 1211 = .ok (.iaload, 1) := by decide +kernel
theorem dL_law_1212 : decode cL_law 1212 = .ok (.aload_n 0, 1) := by decide +kernel
theorem dL_law_1213 : decode cL_law 1213 = .ok (.iload 5, 2) := by decide +kernel
theorem dL_law_1215 : decode cL_law 1215 = .ok (.iconst 2, 1) := by decide +kernel
theorem dL_law_1216 : decode cL_law 1216 = .ok (.iadd, 1) := by decide +kernel
theorem dL_law_1217 : decode cL_law 1217 = .ok (.iaload, 1) := by decide +kernel
theorem dL_law_1218 : decode cL_law 1218 = .ok (.aload_n 3, 1) := by decide +kernel
theorem dL_law_1219 : decode cL_law 1219 = .ok (.invokestatic 180, 3) := by decide +kernel
theorem dL_law_1222 : decode cL_law 1222 = .ok (.istore 6, 2) := by decide +kernel
theorem dL_law_1224 : decode cL_law 1224 = .ok (.aload_n 2, 1) := by decide +kernel
theorem dL_law_1225 : decode cL_law 1225 = .ok (.aload_n 0, 1) := by decide +kernel
theorem dL_law_1226 : decode cL_law 1226 = .ok (.iload 5, 2) := by decide +kernel
theorem dL_law_1228 : decode cL_law 1228 = .ok (.iconst 1, 1) := by decide +kernel
theorem dL_law_1229 : decode cL_law 1229 = .ok (.iadd, 1) := by decide +kernel
theorem dL_law_1230 : decode cL_law 1230 = .ok (.iaload, 1) := by decide +kernel
theorem dL_law_1231 : decode cL_law 1231 = .ok (.aload_n 0, 1) := by decide +kernel
theorem dL_law_1232 : decode cL_law 1232 = .ok (.iload 5, 2) := by decide +kernel
theorem dL_law_1234 : decode cL_law 1234 = .ok (.iconst 2, 1) := by decide +kernel
theorem dL_law_1235 : decode cL_law 1235 = .ok (.iadd, 1) := by decide +kernel
theorem dL_law_1236 : decode cL_law 1236 = .ok (.iaload, 1) := by decide +kernel
theorem dL_law_1237 : decode cL_law 1237 = .ok (.invokevirtual 182, 3) := by decide +kernel
theorem dL_law_1240 : decode cL_law 1240 = .ok (.istore 7, 2) := by decide +kernel
theorem dL_law_1242 : decode cL_law 1242 = .ok (.aload_n 2, 1) := by decide +kernel
theorem dL_law_1243 : decode cL_law 1243 = .ok (.invokevirtual 135, 3) := by decide +kernel
theorem dL_law_1246 : decode cL_law 1246 = .ok (.iload 6, 2) := by decide +kernel
theorem dL_law_1248 : decode cL_law 1248 = .ok (.if_icmp .eq 5, 3) := by decide +kernel
theorem dL_law_1251 : decode cL_law 1251 = .ok (.iconst 0, 1) := by decide +kernel
theorem dL_law_1252 : decode cL_law 1252 = .ok (.ireturn, 1) := by decide +kernel
theorem dL_law_1253 : decode cL_law 1253 = .ok (.iload 6, 2) := by decide +kernel
theorem dL_law_1255 : decode cL_law 1255 = .ok (.ifCond .ne 15, 3) := by decide +kernel
theorem dL_law_1258 : decode cL_law 1258 = .ok (.aload_n 3, 1) := by decide +kernel
theorem dL_law_1259 : decode cL_law 1259 = .ok (.iconst 0, 1) := by decide +kernel
theorem dL_law_1260 : decode cL_law 1260 = .ok (.laload, 1) := by decide +kernel
theorem dL_law_1261 : decode cL_law 1261 = .ok (.iload 7, 2) := by decide +kernel
theorem dL_law_1263 : decode cL_law 1263 = .ok (.i2l, 1) := by decide +kernel
theorem dL_law_1264 : decode cL_law 1264 = .ok (.lcmp, 1) := by decide +kernel
theorem dL_law_1265 : decode cL_law 1265 = .ok (.ifCond .eq 5, 3) := by decide +kernel
theorem dL_law_1268 : decode cL_law 1268 = .ok (.iconst 0, 1) := by decide +kernel
theorem dL_law_1269 : decode cL_law 1269 = .ok (.ireturn, 1) := by decide +kernel
theorem dL_law_1270 : decode cL_law 1270 = .ok (.goto 980, 3) := by decide +kernel
theorem dL_law_1273 : decode cL_law 1273 = .ok (.aload_n 1, 1) := by decide +kernel
theorem dL_law_1274 : decode cL_law 1274 = .ok (.aload_n 0, 1) := by decide +kernel
theorem dL_law_1275 : decode cL_law 1275 = .ok (.iload 5, 2) := by decide +kernel
theorem dL_law_1277 : decode cL_law 1277 = .ok (.iconst 1, 1) := by decide +kernel
theorem dL_law_1278 : decode cL_law 1278 = .ok (.iadd, 1) := by decide +kernel
theorem dL_law_1279 : decode cL_law 1279 = .ok (.iaload, 1) := by decide +kernel
theorem dL_law_1280 : decode cL_law 1280 = .ok (.ifCond .eq 7, 3) := by decide +kernel
theorem dL_law_1283 : decode cL_law 1283 = .ok (.iconst 1, 1) := by decide +kernel
theorem dL_law_1284 : decode cL_law 1284 = .ok (.goto 4, 3) := by decide +kernel
theorem dL_law_1287 : decode cL_law 1287 = .ok (.iconst 0, 1) := by decide +kernel
theorem dL_law_1288 : decode cL_law 1288 = .ok (.aload_n 3, 1) := by decide +kernel
theorem dL_law_1289 : decode cL_law 1289 = .ok (.invokestatic 183, 3) := by decide +kernel
theorem dL_law_1292 : decode cL_law 1292 = .ok (.istore 6, 2) := by decide +kernel
theorem dL_law_1294 : decode cL_law 1294 = .ok (.aload_n 2, 1) := by decide +kernel
theorem dL_law_1295 : decode cL_law 1295 = .ok (.aload_n 0, 1) := by decide +kernel
theorem dL_law_1296 : decode cL_law 1296 = .ok (.iload 5, 2) := by decide +kernel
theorem dL_law_1298 : decode cL_law 1298 = .ok (.iconst 1, 1) := by decide +kernel
theorem dL_law_1299 : decode cL_law 1299 = .ok (.iadd, 1) := by decide +kernel
theorem dL_law_1300 : decode cL_law 1300 = .ok (.iaload, 1) := by decide +kernel
theorem dL_law_1301 : decode cL_law 1301 = .ok (.ifCond .eq 7, 3) := by decide +kernel
theorem dL_law_1304 : decode cL_law 1304 = .ok (.iconst 1, 1) := by decide +kernel
theorem dL_law_1305 : decode cL_law 1305 = .ok (.goto 4, 3) := by decide +kernel
theorem dL_law_1308 : decode cL_law 1308 = .ok (.iconst 0, 1) := by decide +kernel
theorem dL_law_1309 : decode cL_law 1309 = .ok (.invokevirtual 186, 3) := by decide +kernel
theorem dL_law_1312 : decode cL_law 1312 = .ok (.istore 7, 2) := by decide +kernel
theorem dL_law_1314 : decode cL_law 1314 = .ok (.aload_n 2, 1) := by decide +kernel
theorem dL_law_1315 : decode cL_law 1315 = .ok (.invokevirtual 135, 3) := by decide +kernel
theorem dL_law_1318 : decode cL_law 1318 = .ok (.iload 6, 2) := by decide +kernel
theorem dL_law_1320 : decode cL_law 1320 = .ok (.if_icmp .eq 5, 3) := by decide +kernel
theorem dL_law_1323 : decode cL_law 1323 = .ok (.iconst 0, 1) := by decide +kernel
theorem dL_law_1324 : decode cL_law 1324 = .ok (.ireturn, 1) := by decide +kernel
theorem dL_law_1325 : decode cL_law 1325 = .ok (.iload 6, 2) := by decide +kernel
theorem dL_law_1327 : decode cL_law 1327 = .ok (.ifCond .ne 15, 3) := by decide +kernel
theorem dL_law_1330 : decode cL_law 1330 = .ok (.aload_n 3, 1) := by decide +kernel
theorem dL_law_1331 : decode cL_law 1331 = .ok (.iconst 0, 1) := by decide +kernel
theorem dL_law_1332 : decode cL_law 1332 = .ok (.laload, 1) := by decide +kernel
theorem dL_law_1333 : decode cL_law 1333 = .ok (.iload 7, 2) := by decide +kernel
theorem dL_law_1335 : decode cL_law 1335 = .ok (.i2l, 1) := by decide +kernel
theorem dL_law_1336 : decode cL_law 1336 = .ok (.lcmp, 1) := by decide +kernel
theorem dL_law_1337 : decode cL_law 1337 = .ok (.ifCond .eq 5, 3) := by decide +kernel
theorem dL_law_1340 : decode cL_law 1340 = .ok (.iconst 0, 1) := by decide +kernel
theorem dL_law_1341 : decode cL_law 1341 = .ok (.ireturn, 1) := by decide +kernel
theorem dL_law_1342 : decode cL_law 1342 = .ok (.goto 908, 3) := by decide +kernel
theorem dL_law_1345 : decode cL_law 1345 = .ok (.aload_n 1, 1) := by decide +kernel
theorem dL_law_1346 : decode cL_law 1346 = .ok (.aload_n 0, 1) := by decide +kernel
theorem dL_law_1347 : decode cL_law 1347 = .ok (.iload 5, 2) := by decide +kernel
theorem dL_law_1349 : decode cL_law 1349 = .ok (.iconst 1, 1) := by decide +kernel
theorem dL_law_1350 : decode cL_law 1350 = .ok (.iadd, 1) := by decide +kernel
theorem dL_law_1351 : decode cL_law 1351 = .ok (.iaload, 1) := by decide +kernel
theorem dL_law_1352 : decode cL_law 1352 = .ok (.aload_n 0, 1) := by decide +kernel
theorem dL_law_1353 : decode cL_law 1353 = .ok (.iload 5, 2) := by decide +kernel
theorem dL_law_1355 : decode cL_law 1355 = .ok (.iconst 2, 1) := by decide +kernel
theorem dL_law_1356 : decode cL_law 1356 = .ok (.iadd, 1) := by decide +kernel
theorem dL_law_1357 : decode cL_law 1357 = .ok (.iaload, 1) := by decide +kernel
theorem dL_law_1358 : decode cL_law 1358 = .ok (.aload_n 0, 1) := by decide +kernel
theorem dL_law_1359 : decode cL_law 1359 = .ok (.iload 5, 2) := by decide +kernel
theorem dL_law_1361 : decode cL_law 1361 = .ok (.iconst 3, 1) := by decide +kernel
theorem dL_law_1362 : decode cL_law 1362 = .ok (.iadd, 1) := by decide +kernel
theorem dL_law_1363 : decode cL_law 1363 = .ok (.iaload, 1) := by decide +kernel
theorem dL_law_1364 : decode cL_law 1364 = .ok (.aload_n 3, 1) := by decide +kernel
theorem dL_law_1365 : decode cL_law 1365 = .ok (.invokestatic 187, 3) := by decide +kernel
theorem dL_law_1368 : decode cL_law 1368 = .ok (.istore 6, 2) := by decide +kernel
theorem dL_law_1370 : decode cL_law 1370 = .ok (.aload_n 2, 1) := by decide +kernel
theorem dL_law_1371 : decode cL_law 1371 = .ok (.aload_n 0, 1) := by decide +kernel
theorem dL_law_1372 : decode cL_law 1372 = .ok (.iload 5, 2) := by decide +kernel
theorem dL_law_1374 : decode cL_law 1374 = .ok (.iconst 1, 1) := by decide +kernel
theorem dL_law_1375 : decode cL_law 1375 = .ok (.iadd, 1) := by decide +kernel
theorem dL_law_1376 : decode cL_law 1376 = .ok (.iaload, 1) := by decide +kernel
theorem dL_law_1377 : decode cL_law 1377 = .ok (.aload_n 0, 1) := by decide +kernel
theorem dL_law_1378 : decode cL_law 1378 = .ok (.iload 5, 2) := by decide +kernel
theorem dL_law_1380 : decode cL_law 1380 = .ok (.iconst 2, 1) := by decide +kernel
theorem dL_law_1381 : decode cL_law 1381 = .ok (.iadd, 1) := by decide +kernel
theorem dL_law_1382 : decode cL_law 1382 = .ok (.iaload, 1) := by decide +kernel
theorem dL_law_1383 : decode cL_law 1383 = .ok (.aload_n 0, 1) := by decide +kernel
theorem dL_law_1384 : decode cL_law 1384 = .ok (.iload 5, 2) := by decide +kernel
theorem dL_law_1386 : decode cL_law 1386 = .ok (.iconst 3, 1) := by decide +kernel
theorem dL_law_1387 : decode cL_law 1387 = .ok (.iadd, 1) := by decide +kernel
theorem dL_law_1388 : decode cL_law 1388 = .ok (.iaload, 1) := by decide +kernel
theorem dL_law_1389 : decode cL_law 1389 = .ok (.invokevirtual 189, 3) := by decide +kernel
theorem dL_law_1392 : decode cL_law 1392 = .ok (.istore 7, 2) := by decide +kernel
theorem dL_law_1394 : decode cL_law 1394 = .ok (.aload_n 2, 1) := by decide +kernel
theorem dL_law_1395 : decode cL_law 1395 = .ok (.invokevirtual 135, 3) := by decide +kernel
theorem dL_law_1398 : decode cL_law 1398 = .ok (.iload 6, 2) := by decide +kernel
theorem dL_law_1400 : decode cL_law 1400 = .ok (.if_icmp .eq 5, 3) := by decide +kernel
theorem dL_law_1403 : decode cL_law 1403 = .ok (.iconst 0, 1) := by decide +kernel
theorem dL_law_1404 : decode cL_law 1404 = .ok (.ireturn, 1) := by decide +kernel
theorem dL_law_1405 : decode cL_law 1405 = .ok (.iload 6, 2) := by decide +kernel
theorem dL_law_1407 : decode cL_law 1407 = .ok (.ifCond .ne 15, 3) := by decide +kernel
theorem dL_law_1410 : decode cL_law 1410 = .ok (.aload_n 3, 1) := by decide +kernel
theorem dL_law_1411 : decode cL_law 1411 = .ok (.iconst 0, 1) := by decide +kernel
theorem dL_law_1412 : decode cL_law 1412 = .ok (.laload, 1) := by decide +kernel
theorem dL_law_1413 : decode cL_law 1413 = .ok (.iload 7, 2) := by decide +kernel
theorem dL_law_1415 : decode cL_law 1415 = .ok (.i2l, 1) := by decide +kernel
theorem dL_law_1416 : decode cL_law 1416 = .ok (.lcmp, 1) := by decide +kernel
theorem dL_law_1417 : decode cL_law 1417 = .ok (.ifCond .eq 5, 3) := by decide +kernel
theorem dL_law_1420 : decode cL_law 1420 = .ok (.iconst 0, 1) := by decide +kernel
theorem dL_law_1421 : decode cL_law 1421 = .ok (.ireturn, 1) := by decide +kernel
theorem dL_law_1422 : decode cL_law 1422 = .ok (.goto 828, 3) := by decide +kernel
theorem dL_law_1425 : decode cL_law 1425 = .ok (.aload_n 1, 1) := by decide +kernel
theorem dL_law_1426 : decode cL_law 1426 = .ok (.aload_n 0, 1) := by decide +kernel
theorem dL_law_1427 : decode cL_law 1427 = .ok (.iload 5, 2) := by decide +kernel
theorem dL_law_1429 : decode cL_law 1429 = .ok (.iconst 1, 1) := by decide +kernel
theorem dL_law_1430 : decode cL_law 1430 = .ok (.iadd, 1) := by decide +kernel
theorem dL_law_1431 : decode cL_law 1431 = .ok (.iaload, 1) := by decide +kernel
theorem dL_law_1432 : decode cL_law 1432 = .ok (.aload_n 0, 1) := by decide +kernel
theorem dL_law_1433 : decode cL_law 1433 = .ok (.iload 5, 2) := by decide +kernel
theorem dL_law_1435 : decode cL_law 1435 = .ok (.iconst 2, 1) := by decide +kernel
theorem dL_law_1436 : decode cL_law 1436 = .ok (.iadd, 1) := by decide +kernel
theorem dL_law_1437 : decode cL_law 1437 = .ok (.iaload, 1) := by decide +kernel
theorem dL_law_1438 : decode cL_law 1438 = .ok (.aload_n 0, 1) := by decide +kernel
theorem dL_law_1439 : decode cL_law 1439 = .ok (.iload 5, 2) := by decide +kernel
theorem dL_law_1441 : decode cL_law 1441 = .ok (.iconst 3, 1) := by decide +kernel
theorem dL_law_1442 : decode cL_law 1442 = .ok (.iadd, 1) := by decide +kernel
theorem dL_law_1443 : decode cL_law 1443 = .ok (.iaload, 1) := by decide +kernel
theorem dL_law_1444 : decode cL_law 1444 = .ok (.ifCond .eq 7, 3) := by decide +kernel
theorem dL_law_1447 : decode cL_law 1447 = .ok (.iconst 1, 1) := by decide +kernel
theorem dL_law_1448 : decode cL_law 1448 = .ok (.goto 4, 3) := by decide +kernel
theorem dL_law_1451 : decode cL_law 1451 = .ok (.iconst 0, 1) := by decide +kernel
theorem dL_law_1452 : decode cL_law 1452 = .ok (.aload_n 3, 1) := by decide +kernel
theorem dL_law_1453 : decode cL_law 1453 = .ok (.invokestatic 190, 3) := by decide +kernel
theorem dL_law_1456 : decode cL_law 1456 = .ok (.istore 6, 2) := by decide +kernel
theorem dL_law_1458 : decode cL_law 1458 = .ok (.aload_n 2, 1) := by decide +kernel
theorem dL_law_1459 : decode cL_law 1459 = .ok (.aload_n 0, 1) := by decide +kernel
theorem dL_law_1460 : decode cL_law 1460 = .ok (.iload 5, 2) := by decide +kernel
theorem dL_law_1462 : decode cL_law 1462 = .ok (.iconst 1, 1) := by decide +kernel
theorem dL_law_1463 : decode cL_law 1463 = .ok (.iadd, 1) := by decide +kernel
theorem dL_law_1464 : decode cL_law 1464 = .ok (.iaload, 1) := by decide +kernel
theorem dL_law_1465 : decode cL_law 1465 = .ok (.aload_n 0, 1) := by decide +kernel
theorem dL_law_1466 : decode cL_law 1466 = .ok (.iload 5, 2) := by decide +kernel
theorem dL_law_1468 : decode cL_law 1468 = .ok (.iconst 2, 1) := by decide +kernel
theorem dL_law_1469 : decode cL_law 1469 = .ok (.iadd, 1) := by decide +kernel
theorem dL_law_1470 : decode cL_law 1470 = .ok (.iaload, 1) := by decide +kernel
theorem dL_law_1471 : decode cL_law 1471 = .ok (.aload_n 0, 1) := by decide +kernel
theorem dL_law_1472 : decode cL_law 1472 = .ok (.iload 5, 2) := by decide +kernel
theorem dL_law_1474 : decode cL_law 1474 = .ok (.iconst 3, 1) := by decide +kernel
theorem dL_law_1475 : decode cL_law 1475 = .ok (.iadd, 1) := by decide +kernel
theorem dL_law_1476 : decode cL_law 1476 = .ok (.iaload, 1) := by decide +kernel
theorem dL_law_1477 : decode cL_law 1477 = .ok (.ifCond .eq 7, 3) := by decide +kernel
theorem dL_law_1480 : decode cL_law 1480 = .ok (.iconst 1, 1) := by decide +kernel
theorem dL_law_1481 : decode cL_law 1481 = .ok (.goto 4, 3) := by decide +kernel
theorem dL_law_1484 : decode cL_law 1484 = .ok (.iconst 0, 1) := by decide +kernel
theorem dL_law_1485 : decode cL_law 1485 = .ok (.invokevirtual 193, 3) := by decide +kernel
theorem dL_law_1488 : decode cL_law 1488 = .ok (.istore 7, 2) := by decide +kernel
theorem dL_law_1490 : decode cL_law 1490 = .ok (.aload_n 2, 1) := by decide +kernel
theorem dL_law_1491 : decode cL_law 1491 = .ok (.invokevirtual 135, 3) := by decide +kernel
theorem dL_law_1494 : decode cL_law 1494 = .ok (.iload 6, 2) := by decide +kernel
theorem dL_law_1496 : decode cL_law 1496 = .ok (.if_icmp .eq 5, 3) := by decide +kernel
theorem dL_law_1499 : decode cL_law 1499 = .ok (.iconst 0, 1) := by decide +kernel
theorem dL_law_1500 : decode cL_law 1500 = .ok (.ireturn, 1) := by decide +kernel
theorem dL_law_1501 : decode cL_law 1501 = .ok (.iload 6, 2) := by decide +kernel
theorem dL_law_1503 : decode cL_law 1503 = .ok (.ifCond .ne 15, 3) := by decide +kernel
theorem dL_law_1506 : decode cL_law 1506 = .ok (.aload_n 3, 1) := by decide +kernel
theorem dL_law_1507 : decode cL_law 1507 = .ok (.iconst 0, 1) := by decide +kernel
theorem dL_law_1508 : decode cL_law 1508 = .ok (.laload, 1) := by decide +kernel
theorem dL_law_1509 : decode cL_law 1509 = .ok (.iload 7, 2) := by decide +kernel
theorem dL_law_1511 : decode cL_law 1511 = .ok (.i2l, 1) := by decide +kernel
theorem dL_law_1512 : decode cL_law 1512 = .ok (.lcmp, 1) := by decide +kernel
theorem dL_law_1513 : decode cL_law 1513 = .ok (.ifCond .eq 5, 3) := by decide +kernel
theorem dL_law_1516 : decode cL_law 1516 = .ok (.iconst 0, 1) := by decide +kernel
theorem dL_law_1517 : decode cL_law 1517 = .ok (.ireturn, 1) := by decide +kernel
theorem dL_law_1518 : decode cL_law 1518 = .ok (.goto 732, 3) := by decide +kernel
theorem dL_law_1521 : decode cL_law 1521 = .ok (.aload_n 1, 1) := by decide +kernel
theorem dL_law_1522 : decode cL_law 1522 = .ok (.aload_n 3, 1) := by decide +kernel
theorem dL_law_1523 : decode cL_law 1523 = .ok (.invokestatic 194, 3) := by decide +kernel
theorem dL_law_1526 : decode cL_law 1526 = .ok (.istore 6, 2) := by decide +kernel
theorem dL_law_1528 : decode cL_law 1528 = .ok (.aload_n 2, 1) := by decide +kernel
theorem dL_law_1529 : decode cL_law 1529 = .ok (.invokevirtual 197, 3) := by decide +kernel
theorem dL_law_1532 : decode cL_law 1532 = .ok (.istore 7, 2) := by decide +kernel
theorem dL_law_1534 : decode cL_law 1534 = .ok (.aload_n 2, 1) := by decide +kernel
theorem dL_law_1535 : decode cL_law 1535 = .ok (.invokevirtual 135, 3) := by decide +kernel
theorem dL_law_1538 : decode cL_law 1538 = .ok (.iload 6, 2) := by decide +kernel
theorem dL_law_1540 : decode cL_law 1540 = .ok (.if_icmp .eq 5, 3) := by decide +kernel
theorem dL_law_1543 : decode cL_law 1543 = .ok (.iconst 0, 1) := by decide +kernel
theorem dL_law_1544 : decode cL_law 1544 = .ok (.ireturn, 1) := by decide +kernel
theorem dL_law_1545 : decode cL_law 1545 = .ok (.iload 6, 2) := by decide +kernel
theorem dL_law_1547 : decode cL_law 1547 = .ok (.ifCond .ne 15, 3) := by decide +kernel
theorem dL_law_1550 : decode cL_law 1550 = .ok (.aload_n 3, 1) := by decide +kernel
theorem dL_law_1551 : decode cL_law 1551 = .ok (.iconst 0, 1) := by decide +kernel
theorem dL_law_1552 : decode cL_law 1552 = .ok (.laload, 1) := by decide +kernel
theorem dL_law_1553 : decode cL_law 1553 = .ok (.iload 7, 2) := by decide +kernel
theorem dL_law_1555 : decode cL_law 1555 = .ok (.i2l, 1) := by decide +kernel
theorem dL_law_1556 : decode cL_law 1556 = .ok (.lcmp, 1) := by decide +kernel
theorem dL_law_1557 : decode cL_law 1557 = .ok (.ifCond .eq 5, 3) := by decide +kernel
theorem dL_law_1560 : decode cL_law 1560 = .ok (.iconst 0, 1) := by decide +kernel
theorem dL_law_1561 : decode cL_law 1561 = .ok (.ireturn, 1) := by decide +kernel
theorem dL_law_1562 : decode cL_law 1562 = .ok (.goto 688, 3) := by decide +kernel
theorem dL_law_1565 : decode cL_law 1565 = .ok (.aload_n 1, 1) := by decide +kernel
theorem dL_law_1566 : decode cL_law 1566 = .ok (.aload_n 0, 1) := by decide +kernel
theorem dL_law_1567 : decode cL_law 1567 = .ok (.iload 5, 2) := by decide +kernel
theorem dL_law_1569 : decode cL_law 1569 = .ok (.iconst 1, 1) := by decide +kernel
theorem dL_law_1570 : decode cL_law 1570 = .ok (.iadd, 1) := by decide +kernel
theorem dL_law_1571 : decode cL_law 1571 = .ok (.iaload, 1) := by decide +kernel
theorem dL_law_1572 : decode cL_law 1572 = .ok (.aload_n 0, 1) := by decide +kernel
theorem dL_law_1573 : decode cL_law 1573 = .ok (.iload 5, 2) := by decide +kernel
theorem dL_law_1575 : decode cL_law 1575 = .ok (.iconst 2, 1) := by decide +kernel
theorem dL_law_1576 : decode cL_law 1576 = .ok (.iadd, 1) := by decide +kernel
theorem dL_law_1577 : decode cL_law 1577 = .ok (.iaload, 1) := by decide +kernel
theorem dL_law_1578 : decode cL_law 1578 = .ok (.aload_n 3, 1) := by decide +kernel
theorem dL_law_1579 : decode cL_law 1579 = .ok (.invokestatic 198, 3) := by decide +kernel
theorem dL_law_1582 : decode cL_law 1582 = .ok (.istore 6, 2) := by decide +kernel
theorem dL_law_1584 : decode cL_law 1584 = .ok (.aload_n 2, 1) := by decide +kernel
theorem dL_law_1585 : decode cL_law 1585 = .ok (.aload_n 0, 1) := by decide +kernel
theorem dL_law_1586 : decode cL_law 1586 = .ok (.iload 5, 2) := by decide +kernel
theorem dL_law_1588 : decode cL_law 1588 = .ok (.iconst 1, 1) := by decide +kernel
theorem dL_law_1589 : decode cL_law 1589 = .ok (.iadd, 1) := by decide +kernel
theorem dL_law_1590 : decode cL_law 1590 = .ok (.iaload, 1) := by decide +kernel
theorem dL_law_1591 : decode cL_law 1591 = .ok (.aload_n 0, 1) := by decide +kernel
theorem dL_law_1592 : decode cL_law 1592 = .ok (.iload 5, 2) := by decide +kernel
theorem dL_law_1594 : decode cL_law 1594 = .ok (.iconst 2, 1) := by decide +kernel
theorem dL_law_1595 : decode cL_law 1595 = .ok (.iadd, 1) := by decide +kernel
theorem dL_law_1596 : decode cL_law 1596 = .ok (.iaload, 1) := by decide +kernel
theorem dL_law_1597 : decode cL_law 1597 = .ok (.invokevirtual 200, 3) := by decide +kernel
theorem dL_law_1600 : decode cL_law 1600 = .ok (.istore 7, 2) := by decide +kernel
theorem dL_law_1602 : decode cL_law 1602 = .ok (.aload_n 2, 1) := by decide +kernel
theorem dL_law_1603 : decode cL_law 1603 = .ok (.invokevirtual 135, 3) := by decide +kernel
theorem dL_law_1606 : decode cL_law 1606 = .ok (.iload 6, 2) := by decide +kernel
theorem dL_law_1608 : decode cL_law 1608 = .ok (.if_icmp .eq 5, 3) := by decide +kernel
theorem dL_law_1611 : decode cL_law 1611 = .ok (.iconst 0, 1) := by decide +kernel
theorem dL_law_1612 : decode cL_law 1612 = .ok (.ireturn, 1) := by decide +kernel
theorem dL_law_1613 : decode cL_law 1613 = .ok (.iload 6, 2) := by decide +kernel
theorem dL_law_1615 : decode cL_law 1615 = .ok (.ifCond .ne 15, 3) := by decide +kernel
theorem dL_law_1618 : decode cL_law 1618 = .ok (.aload_n 3, 1) := by decide +kernel
theorem dL_law_1619 : decode cL_law 1619 = .ok (.iconst 0, 1) := by decide +kernel
theorem dL_law_1620 : decode cL_law 1620 = .ok (.laload, 1) := by decide +kernel
theorem dL_law_1621 : decode cL_law 1621 = .ok (.iload 7, 2) := by decide +kernel
theorem dL_law_1623 : decode cL_law 1623 = .ok (.i2l, 1) := by decide +kernel
theorem dL_law_1624 : decode cL_law 1624 = .ok (.lcmp, 1) := by decide +kernel
theorem dL_law_1625 : decode cL_law 1625 = .ok (.ifCond .eq 5, 3) := by decide +kernel
theorem dL_law_1628 : decode cL_law 1628 = .ok (.iconst 0, 1) := by decide +kernel
theorem dL_law_1629 : decode cL_law 1629 = .ok (.ireturn, 1) := by decide +kernel
theorem dL_law_1630 : decode cL_law 1630 = .ok (.goto 620, 3) := by decide +kernel
theorem dL_law_1633 : decode cL_law 1633 = .ok (.aload_n 1, 1) := by decide +kernel
theorem dL_law_1634 : decode cL_law 1634 = .ok (.aload_n 0, 1) := by decide +kernel
theorem dL_law_1635 : decode cL_law 1635 = .ok (.iload 5, 2) := by decide +kernel
theorem dL_law_1637 : decode cL_law 1637 = .ok (.iconst 1, 1) := by decide +kernel
theorem dL_law_1638 : decode cL_law 1638 = .ok (.iadd, 1) := by decide +kernel
theorem dL_law_1639 : decode cL_law 1639 = .ok (.iaload, 1) := by decide +kernel
theorem dL_law_1640 : decode cL_law 1640 = .ok (.aload_n 0, 1) := by decide +kernel
theorem dL_law_1641 : decode cL_law 1641 = .ok (.iload 5, 2) := by decide +kernel
theorem dL_law_1643 : decode cL_law 1643 = .ok (.iconst 2, 1) := by decide +kernel
theorem dL_law_1644 : decode cL_law 1644 = .ok (.iadd, 1) := by decide +kernel
theorem dL_law_1645 : decode cL_law 1645 = .ok (.iaload, 1) := by decide +kernel
theorem dL_law_1646 : decode cL_law 1646 = .ok (.aload_n 3, 1) := by decide +kernel
theorem dL_law_1647 : decode cL_law 1647 = .ok (.invokestatic 201, 3) := by decide +kernel
theorem dL_law_1650 : decode cL_law 1650 = .ok (.istore 6, 2) := by decide +kernel
theorem dL_law_1652 : decode cL_law 1652 = .ok (.aload_n 2, 1) := by decide +kernel
theorem dL_law_1653 : decode cL_law 1653 = .ok (.aload_n 0, 1) := by decide +kernel
theorem dL_law_1654 : decode cL_law 1654 = .ok (.iload 5, 2) := by decide +kernel
theorem dL_law_1656 : decode cL_law 1656 = .ok (.iconst 1, 1) := by decide +kernel
theorem dL_law_1657 : decode cL_law 1657 = .ok (.iadd, 1) := by decide +kernel
theorem dL_law_1658 : decode cL_law 1658 = .ok (.iaload, 1) := by decide +kernel
theorem dL_law_1659 : decode cL_law 1659 = .ok (.aload_n 0, 1) := by decide +kernel
theorem dL_law_1660 : decode cL_law 1660 = .ok (.iload 5, 2) := by decide +kernel
theorem dL_law_1662 : decode cL_law 1662 = .ok (.iconst 2, 1) := by decide +kernel
theorem dL_law_1663 : decode cL_law 1663 = .ok (.iadd, 1) := by decide +kernel
theorem dL_law_1664 : decode cL_law 1664 = .ok (.iaload, 1) := by decide +kernel
theorem dL_law_1665 : decode cL_law 1665 = .ok (.invokevirtual 203, 3) := by decide +kernel
theorem dL_law_1668 : decode cL_law 1668 = .ok (.istore 7, 2) := by decide +kernel
theorem dL_law_1670 : decode cL_law 1670 = .ok (.aload_n 2, 1) := by decide +kernel
theorem dL_law_1671 : decode cL_law 1671 = .ok (.invokevirtual 135, 3) := by decide +kernel
theorem dL_law_1674 : decode cL_law 1674 = .ok (.iload 6, 2) := by decide +kernel
theorem dL_law_1676 : decode cL_law 1676 = .ok (.if_icmp .eq 5, 3) := by decide +kernel
theorem dL_law_1679 : decode cL_law 1679 = .ok (.iconst 0, 1) := by decide +kernel
theorem dL_law_1680 : decode cL_law 1680 = .ok (.ireturn, 1) := by decide +kernel
theorem dL_law_1681 : decode cL_law 1681 = .ok (.iload 6, 2) := by decide +kernel
theorem dL_law_1683 : decode cL_law 1683 = .ok (.ifCond .ne 15, 3) := by decide +kernel
theorem dL_law_1686 : decode cL_law 1686 = .ok (.aload_n 3, 1) := by decide +kernel
theorem dL_law_1687 : decode cL_law 1687 = .ok (.iconst 0, 1) := by decide +kernel
theorem dL_law_1688 : decode cL_law 1688 = .ok (.laload, 1) := by decide +kernel
theorem dL_law_1689 : decode cL_law 1689 = .ok (.iload 7, 2) := by decide +kernel
theorem dL_law_1691 : decode cL_law 1691 = .ok (.i2l, 1) := by decide +kernel
theorem dL_law_1692 : decode cL_law 1692 = .ok (.lcmp, 1) := by decide +kernel
theorem dL_law_1693 : decode cL_law 1693 = .ok (.ifCond .eq 5, 3) := by decide +kernel
theorem dL_law_1696 : decode cL_law 1696 = .ok (.iconst 0, 1) := by decide +kernel
theorem dL_law_1697 : decode cL_law 1697 = .ok (.ireturn, 1) := by decide +kernel
theorem dL_law_1698 : decode cL_law 1698 = .ok (.goto 552, 3) := by decide +kernel
theorem dL_law_1701 : decode cL_law 1701 = .ok (.aload_n 1, 1) := by decide +kernel
theorem dL_law_1702 : decode cL_law 1702 = .ok (.aload_n 0, 1) := by decide +kernel
theorem dL_law_1703 : decode cL_law 1703 = .ok (.iload 5, 2) := by decide +kernel
theorem dL_law_1705 : decode cL_law 1705 = .ok (.iconst 1, 1) := by decide +kernel
theorem dL_law_1706 : decode cL_law 1706 = .ok (.iadd, 1) := by decide +kernel
theorem dL_law_1707 : decode cL_law 1707 = .ok (.iaload, 1) := by decide +kernel
theorem dL_law_1708 : decode cL_law 1708 = .ok (.aload_n 0, 1) := by decide +kernel
theorem dL_law_1709 : decode cL_law 1709 = .ok (.iload 5, 2) := by decide +kernel
theorem dL_law_1711 : decode cL_law 1711 = .ok (.iconst 2, 1) := by decide +kernel
theorem dL_law_1712 : decode cL_law 1712 = .ok (.iadd, 1) := by decide +kernel
theorem dL_law_1713 : decode cL_law 1713 = .ok (.iaload, 1) := by decide +kernel
theorem dL_law_1714 : decode cL_law 1714 = .ok (.aload_n 0, 1) := by decide +kernel
theorem dL_law_1715 : decode cL_law 1715 = .ok (.iload 5, 2) := by decide +kernel
theorem dL_law_1717 : decode cL_law 1717 = .ok (.iconst 3, 1) := by decide +kernel
theorem dL_law_1718 : decode cL_law 1718 = .ok (.iadd, 1) := by decide +kernel
theorem dL_law_1719 : decode cL_law 1719 = .ok (.iaload, 1) := by decide +kernel
theorem dL_law_1720 : decode cL_law 1720 = .ok (.aload_n 3, 1) := by decide +kernel
theorem dL_law_1721 : decode cL_law 1721 = .ok (.invokestatic 204, 3) := by decide +kernel
theorem dL_law_1724 : decode cL_law 1724 = .ok (.istore 6, 2) := by decide +kernel
theorem dL_law_1726 : decode cL_law 1726 = .ok (.aload_n 2, 1) := by decide +kernel
theorem dL_law_1727 : decode cL_law 1727 = .ok (.aload_n 0, 1) := by decide +kernel
theorem dL_law_1728 : decode cL_law 1728 = .ok (.iload 5, 2) := by decide +kernel
theorem dL_law_1730 : decode cL_law 1730 = .ok (.iconst 1, 1) := by decide +kernel
theorem dL_law_1731 : decode cL_law 1731 = .ok (.iadd, 1) := by decide +kernel
theorem dL_law_1732 : decode cL_law 1732 = .ok (.iaload, 1) := by decide +kernel
theorem dL_law_1733 : decode cL_law 1733 = .ok (.aload_n 0, 1) := by decide +kernel
theorem dL_law_1734 : decode cL_law 1734 = .ok (.iload 5, 2) := by decide +kernel
theorem dL_law_1736 : decode cL_law 1736 = .ok (.iconst 2, 1) := by decide +kernel
theorem dL_law_1737 : decode cL_law 1737 = .ok (.iadd, 1) := by decide +kernel
theorem dL_law_1738 : decode cL_law 1738 = .ok (.iaload, 1) := by decide +kernel
theorem dL_law_1739 : decode cL_law 1739 = .ok (.aload_n 0, 1) := by decide +kernel
theorem dL_law_1740 : decode cL_law 1740 = .ok (.iload 5, 2) := by decide +kernel
theorem dL_law_1742 : decode cL_law 1742 = .ok (.iconst 3, 1) := by decide +kernel
theorem dL_law_1743 : decode cL_law 1743 = .ok (.iadd, 1) := by decide +kernel
theorem dL_law_1744 : decode cL_law 1744 = .ok (.iaload, 1) := by decide +kernel
theorem dL_law_1745 : decode cL_law 1745 = .ok (.invokevirtual 206, 3) := by decide +kernel
theorem dL_law_1748 : decode cL_law 1748 = .ok (.istore 7, 2) := by decide +kernel
theorem dL_law_1750 : decode cL_law 1750 = .ok (.aload_n 2, 1) := by decide +kernel
theorem dL_law_1751 : decode cL_law 1751 = .ok (.invokevirtual 135, 3) := by decide +kernel
theorem dL_law_1754 : decode cL_law 1754 = .ok (.iload 6, 2) := by decide +kernel
theorem dL_law_1756 : decode cL_law 1756 = .ok (.if_icmp .eq 5, 3) := by decide +kernel
theorem dL_law_1759 : decode cL_law 1759 = .ok (.iconst 0, 1) := by decide +kernel
theorem dL_law_1760 : decode cL_law 1760 = .ok (.ireturn, 1) := by decide +kernel
theorem dL_law_1761 : decode cL_law 1761 = .ok (.iload 6, 2) := by decide +kernel
theorem dL_law_1763 : decode cL_law 1763 = .ok (.ifCond .ne 15, 3) := by decide +kernel
theorem dL_law_1766 : decode cL_law 1766 = .ok (.aload_n 3, 1) := by decide +kernel
theorem dL_law_1767 : decode cL_law 1767 = .ok (.iconst 0, 1) := by decide +kernel
theorem dL_law_1768 : decode cL_law 1768 = .ok (.laload, 1) := by decide +kernel
theorem dL_law_1769 : decode cL_law 1769 = .ok (.iload 7, 2) := by decide +kernel
theorem dL_law_1771 : decode cL_law 1771 = .ok (.i2l, 1) := by decide +kernel
theorem dL_law_1772 : decode cL_law 1772 = .ok (.lcmp, 1) := by decide +kernel
theorem dL_law_1773 : decode cL_law 1773 = .ok (.ifCond .eq 5, 3) := by decide +kernel
theorem dL_law_1776 : decode cL_law 1776 = .ok (.iconst 0, 1) := by decide +kernel
theorem dL_law_1777 : decode cL_law 1777 = .ok (.ireturn, 1) := by decide +kernel
theorem dL_law_1778 : decode cL_law 1778 = .ok (.goto 472, 3) := by decide +kernel
theorem dL_law_1781 : decode cL_law 1781 = .ok (.aload_n 1, 1) := by decide +kernel
theorem dL_law_1782 : decode cL_law 1782 = .ok (.aload_n 0, 1) := by decide +kernel
theorem dL_law_1783 : decode cL_law 1783 = .ok (.iload 5, 2) := by decide +kernel
theorem dL_law_1785 : decode cL_law 1785 = .ok (.iconst 1, 1) := by decide +kernel
theorem dL_law_1786 : decode cL_law 1786 = .ok (.iadd, 1) := by decide +kernel
theorem dL_law_1787 : decode cL_law 1787 = .ok (.iaload, 1) := by decide +kernel
theorem dL_law_1788 : decode cL_law 1788 = .ok (.aload_n 0, 1) := by decide +kernel
theorem dL_law_1789 : decode cL_law 1789 = .ok (.iload 5, 2) := by decide +kernel
theorem dL_law_1791 : decode cL_law 1791 = .ok (.iconst 2, 1) := by decide +kernel
theorem dL_law_1792 : decode cL_law 1792 = .ok (.iadd, 1) := by decide +kernel
theorem dL_law_1793 : decode cL_law 1793 = .ok (.iaload, 1) := by decide +kernel
theorem dL_law_1794 : decode cL_law 1794 = .ok (.aload_n 3, 1) := by decide +kernel
theorem dL_law_1795 : decode cL_law 1795 = .ok (.invokestatic 207, 3) := by decide +kernel
theorem dL_law_1798 : decode cL_law 1798 = .ok (.istore 6, 2) := by decide +kernel
theorem dL_law_1800 : decode cL_law 1800 = .ok (.aload_n 2, 1) := by decide +kernel
theorem dL_law_1801 : decode cL_law 1801 = .ok (.aload_n 0, 1) := by decide +kernel
theorem dL_law_1802 : decode cL_law 1802 = .ok (.iload 5, 2) := by decide +kernel
theorem dL_law_1804 : decode cL_law 1804 = .ok (.iconst 1, 1) := by decide +kernel
theorem dL_law_1805 : decode cL_law 1805 = .ok (.iadd, 1) := by decide +kernel
theorem dL_law_1806 : decode cL_law 1806 = .ok (.iaload, 1) := by decide +kernel
theorem dL_law_1807 : decode cL_law 1807 = .ok (.aload_n 0, 1) := by decide +kernel
theorem dL_law_1808 : decode cL_law 1808 = .ok (.iload 5, 2) := by decide +kernel
theorem dL_law_1810 : decode cL_law 1810 = .ok (.iconst 2, 1) := by decide +kernel
theorem dL_law_1811 : decode cL_law 1811 = .ok (.iadd, 1) := by decide +kernel
theorem dL_law_1812 : decode cL_law 1812 = .ok (.iaload, 1) := by decide +kernel
theorem dL_law_1813 : decode cL_law 1813 = .ok (.invokevirtual 209, 3) := by decide +kernel
theorem dL_law_1816 : decode cL_law 1816 = .ok (.istore 7, 2) := by decide +kernel
theorem dL_law_1818 : decode cL_law 1818 = .ok (.aload_n 2, 1) := by decide +kernel
theorem dL_law_1819 : decode cL_law 1819 = .ok (.invokevirtual 135, 3) := by decide +kernel
theorem dL_law_1822 : decode cL_law 1822 = .ok (.iload 6, 2) := by decide +kernel
theorem dL_law_1824 : decode cL_law 1824 = .ok (.if_icmp .eq 5, 3) := by decide +kernel
theorem dL_law_1827 : decode cL_law 1827 = .ok (.iconst 0, 1) := by decide +kernel
theorem dL_law_1828 : decode cL_law 1828 = .ok (.ireturn, 1) := by decide +kernel
theorem dL_law_1829 : decode cL_law 1829 = .ok (.iload 6, 2) := by decide +kernel
theorem dL_law_1831 : decode cL_law 1831 = .ok (.ifCond .ne 15, 3) := by decide +kernel
theorem dL_law_1834 : decode cL_law 1834 = .ok (.aload_n 3, 1) := by decide +kernel
theorem dL_law_1835 : decode cL_law 1835 = .ok (.iconst 0, 1) := by decide +kernel
theorem dL_law_1836 : decode cL_law 1836 = .ok (.laload, 1) := by decide +kernel
theorem dL_law_1837 : decode cL_law 1837 = .ok (.iload 7, 2) := by decide +kernel
theorem dL_law_1839 : decode cL_law 1839 = .ok (.i2l, 1) := by decide +kernel
theorem dL_law_1840 : decode cL_law 1840 = .ok (.lcmp, 1) := by decide +kernel
theorem dL_law_1841 : decode cL_law 1841 = .ok (.ifCond .eq 5, 3) := by decide +kernel
theorem dL_law_1844 : decode cL_law 1844 = .ok (.iconst 0, 1) := by decide +kernel
theorem dL_law_1845 : decode cL_law 1845 = .ok (.ireturn, 1) := by decide +kernel
theorem dL_law_1846 : decode cL_law 1846 = .ok (.goto 404, 3) := by decide +kernel
theorem dL_law_1849 : decode cL_law 1849 = .ok (.aload_n 1, 1) := by decide +kernel
theorem dL_law_1850 : decode cL_law 1850 = .ok (.aload_n 0, 1) := by decide +kernel
theorem dL_law_1851 : decode cL_law 1851 = .ok (.iload 5, 2) := by decide +kernel
theorem dL_law_1853 : decode cL_law 1853 = .ok (.iconst 1, 1) := by decide +kernel
theorem dL_law_1854 : decode cL_law 1854 = .ok (.iadd, 1) := by decide +kernel
theorem dL_law_1855 : decode cL_law 1855 = .ok (.iaload, 1) := by decide +kernel
theorem dL_law_1856 : decode cL_law 1856 = .ok (.aload 4, 2) := by decide +kernel
theorem dL_law_1858 : decode cL_law 1858 = .ok (.invokestatic 210, 3) := by decide +kernel
theorem dL_law_1861 : decode cL_law 1861 = .ok (.istore 6, 2) := by decide +kernel
theorem dL_law_1863 : decode cL_law 1863 = .ok (.aload_n 2, 1) := by decide +kernel
theorem dL_law_1864 : decode cL_law 1864 = .ok (.aload_n 0, 1) := by decide +kernel
theorem dL_law_1865 : decode cL_law 1865 = .ok (.iload 5, 2) := by decide +kernel
theorem dL_law_1867 : decode cL_law 1867 = .ok (.iconst 1, 1) := by decide +kernel
theorem dL_law_1868 : decode cL_law 1868 = .ok (.iadd, 1) := by decide +kernel
theorem dL_law_1869 : decode cL_law 1869 = .ok (.iaload, 1) := by decide +kernel
theorem dL_law_1870 : decode cL_law 1870 = .ok (.invokevirtual 213, 3) := by decide +kernel
theorem dL_law_1873 : decode cL_law 1873 = .ok (.fstore 7, 2) := by decide +kernel
theorem dL_law_1875 : decode cL_law 1875 = .ok (.aload_n 2, 1) := by decide +kernel
theorem dL_law_1876 : decode cL_law 1876 = .ok (.invokevirtual 135, 3) := by decide +kernel
theorem dL_law_1879 : decode cL_law 1879 = .ok (.iload 6, 2) := by decide +kernel
theorem dL_law_1881 : decode cL_law 1881 = .ok (.if_icmp .eq 5, 3) := by decide +kernel
theorem dL_law_1884 : decode cL_law 1884 = .ok (.iconst 0, 1) := by decide +kernel
theorem dL_law_1885 : decode cL_law 1885 = .ok (.ireturn, 1) := by decide +kernel
theorem dL_law_1886 : decode cL_law 1886 = .ok (.iload 6, 2) := by decide +kernel
theorem dL_law_1888 : decode cL_law 1888 = .ok (.ifCond .ne 36, 3) := by decide +kernel
theorem dL_law_1891 : decode cL_law 1891 = .ok (.aload 4, 2) := by decide +kernel
theorem dL_law_1893 : decode cL_law 1893 = .ok (.iconst 0, 1) := by decide +kernel
theorem dL_law_1894 : decode cL_law 1894 = .ok (.daload, 1) := by decide +kernel
theorem dL_law_1895 : decode cL_law 1895 = .ok (.fload 7, 2) := by decide +kernel
theorem dL_law_1897 : decode cL_law 1897 = .ok (.f2d, 1) := by decide +kernel
theorem dL_law_1898 : decode cL_law 1898 = .ok (.dcmp .l, 1) := by decide +kernel
theorem dL_law_1899 : decode cL_law 1899 = .ok (.ifCond .eq 25, 3) := by decide +kernel
theorem dL_law_1902 : decode cL_law 1902 = .ok (.aload 4, 2) := by decide +kernel
theorem dL_law_1904 : decode cL_law 1904 = .ok (.iconst 0, 1) := by decide +kernel
theorem dL_law_1905 : decode cL_law 1905 = .ok (.daload, 1) := by decide +kernel
theorem dL_law_1906 : decode cL_law 1906 = .ok (.aload 4, 2) := by decide +kernel
theorem dL_law_1908 : decode cL_law 1908 = .ok (.iconst 0, 1) := by decide +kernel
theorem dL_law_1909 : decode cL_law 1909 = .ok (.daload, 1) := by decide +kernel
theorem dL_law_1910 : decode cL_law 1910 = .ok (.dcmp .l, 1) := by decide +kernel
theorem dL_law_1911 : decode cL_law 1911 = .ok (.ifCond .eq 11, 3) := by decide +kernel
theorem dL_law_1914 : decode cL_law 1914 = .ok (.fload 7, 2) := by decide +kernel
theorem dL_law_1916 : decode cL_law 1916 = .ok (.fload 7, 2) := by decide +kernel
theorem dL_law_1918 : decode cL_law 1918 = .ok (.fcmp .l, 1) := by decide +kernel
theorem dL_law_1919 : decode cL_law 1919 = .ok (.ifCond .ne 5, 3) := by decide +kernel
theorem dL_law_1922 : decode cL_law 1922 = .ok (.iconst 0, 1) := by decide +kernel
theorem dL_law_1923 : decode cL_law 1923 = .ok (.ireturn, 1) := by decide +kernel
theorem dL_law_1924 : decode cL_law 1924 = .ok (.goto 326, 3) := by decide +kernel
theorem dL_law_1927 : decode cL_law 1927 = .ok (.aload_n 1, 1) := by decide +kernel
theorem dL_law_1928 : decode cL_law 1928 = .ok (.aload_n 0, 1) := by decide +kernel
theorem dL_law_1929 : decode cL_law 1929 = .ok (.iload 5, 2) := by decide +kernel
theorem dL_law_1931 : decode cL_law 1931 = .ok (.iconst 1, 1) := by decide +kernel
theorem dL_law_1932 : decode cL_law 1932 = .ok (.iadd, 1) := by decide +kernel
theorem dL_law_1933 : decode cL_law 1933 = .ok (.iaload, 1) := by decide +kernel
theorem dL_law_1934 : decode cL_law 1934 = .ok (.aload 4, 2) := by decide +kernel
theorem dL_law_1936 : decode cL_law 1936 = .ok (.invokestatic 214, 3) := by decide +kernel
theorem dL_law_1939 : decode cL_law 1939 = .ok (.istore 6, 2) := by decide +kernel
theorem dL_law_1941 : decode cL_law 1941 = .ok (.aload_n 2, 1) := by decide +kernel
theorem dL_law_1942 : decode cL_law 1942 = .ok (.aload_n 0, 1) := by decide +kernel
theorem dL_law_1943 : decode cL_law 1943 = .ok (.iload 5, 2) := by decide +kernel
theorem dL_law_1945 : decode cL_law 1945 = .ok (.iconst 1, 1) := by decide +kernel
theorem dL_law_1946 : decode cL_law 1946 = .ok (.iadd, 1) := by decide +kernel
theorem dL_law_1947 : decode cL_law 1947 = .ok (.iaload, 1) := by decide +kernel
theorem dL_law_1948 : decode cL_law 1948 = .ok (.invokevirtual 216, 3) := by decide +kernel
theorem dL_law_1951 : decode cL_law 1951 = .ok (.dstore 7, 2) := by decide +kernel
theorem dL_law_1953 : decode cL_law 1953 = .ok (.aload_n 2, 1) := by decide +kernel
theorem dL_law_1954 : decode cL_law 1954 = .ok (.invokevirtual 135, 3) := by decide +kernel
theorem dL_law_1957 : decode cL_law 1957 = .ok (.iload 6, 2) := by decide +kernel
theorem dL_law_1959 : decode cL_law 1959 = .ok (.if_icmp .eq 5, 3) := by decide +kernel
theorem dL_law_1962 : decode cL_law 1962 = .ok (.iconst 0, 1) := by decide +kernel
theorem dL_law_1963 : decode cL_law 1963 = .ok (.ireturn, 1) := by decide +kernel
theorem dL_law_1964 : decode cL_law 1964 = .ok (.iload 6, 2) := by decide +kernel
theorem dL_law_1966 : decode cL_law 1966 = .ok (.ifCond .ne 35, 3) := by decide +kernel
theorem dL_law_1969 : decode cL_law 1969 = .ok (.aload 4, 2) := by decide +kernel
theorem dL_law_1971 : decode cL_law 1971 = .ok (.iconst 0, 1) := by decide +kernel
theorem dL_law_1972 : decode cL_law 1972 = .ok (.daload, 1) := by decide +kernel
theorem dL_law_1973 : decode cL_law 1973 = .ok (.dload 7, 2) := by decide +kernel
theorem dL_law_1975 : decode cL_law 1975 = .ok (.dcmp .l, 1) := by decide +kernel
theorem dL_law_1976 : decode cL_law 1976 = .ok (.ifCond .eq 25, 3) := by decide +kernel
theorem dL_law_1979 : decode cL_law 1979 = .ok (.aload 4, 2) := by decide +kernel
theorem dL_law_1981 : decode cL_law 1981 = .ok (.iconst 0, 1) := by decide +kernel
theorem dL_law_1982 : decode cL_law 1982 = .ok (.daload, 1) := by decide +kernel
theorem dL_law_1983 : decode cL_law 1983 = .ok (.aload 4, 2) := by decide +kernel
theorem dL_law_1985 : decode cL_law 1985 = .ok (.iconst 0, 1) := by decide +kernel
theorem dL_law_1986 : decode cL_law 1986 = .ok (.daload, 1) := by decide +kernel
theorem dL_law_1987 : decode cL_law 1987 = .ok (.dcmp .l, 1) := by decide +kernel
theorem dL_law_1988 : decode cL_law 1988 = .ok (.ifCond .eq 11, 3) := by decide +kernel
theorem dL_law_1991 : decode cL_law 1991 = .ok (.dload 7, 2) := by decide +kernel
theorem dL_law_1993 : decode cL_law 1993 = .ok (.dload 7, 2) := by decide +kernel
theorem dL_law_1995 : decode cL_law 1995 = .ok (.dcmp .l, 1) := by decide +kernel
theorem dL_law_1996 : decode cL_law 1996 = .ok (.ifCond .ne 5, 3) := by decide +kernel
theorem dL_law_1999 : decode cL_law 1999 = .ok (.iconst 0, 1) := by decide +kernel
theorem dL_law_2000 : decode cL_law 2000 = .ok (.ireturn, 1) := by decide +kernel
theorem dL_law_2001 : decode cL_law 2001 = .ok (.goto 249, 3) := by decide +kernel
theorem dL_law_2004 : decode cL_law 2004 = .ok (.aload_n 1, 1) := by decide +kernel
theorem dL_law_2005 : decode cL_law 2005 = .ok (.invokevirtual 217, 3) := by decide +kernel
theorem dL_law_2008 : decode cL_law 2008 = .ok (.aload_n 2, 1) := by decide +kernel
theorem dL_law_2009 : decode cL_law 2009 = .ok (.invokevirtual 221, 3) := by decide +kernel
theorem dL_law_2012 : decode cL_law 2012 = .ok (.if_icmp .eq 238, 3) := by decide +kernel
theorem dL_law_2015 : decode cL_law 2015 = .ok (.iconst 0, 1) := by decide +kernel
theorem dL_law_2016 : decode cL_law 2016 = .ok (.ireturn, 1) := by decide +kernel
theorem dL_law_2017 : decode cL_law 2017 = .ok (.aload_n 1, 1) := by decide +kernel
theorem dL_law_2018 : decode cL_law 2018 = .ok (.aload_n 3, 1) := by decide +kernel
theorem dL_law_2019 : decode cL_law 2019 = .ok (.invokestatic 222, 3) := by decide +kernel
theorem dL_law_2022 : decode cL_law 2022 = .ok (.istore 6, 2) := by decide +kernel
theorem dL_law_2024 : decode cL_law 2024 = .ok (.aload_n 2, 1) := by decide +kernel
theorem dL_law_2025 : decode cL_law 2025 = .ok (.invokevirtual 224, 3) := by decide +kernel
theorem dL_law_2028 : decode cL_law 2028 = .ok (.istore 7, 2) := by decide +kernel
theorem dL_law_2030 : decode cL_law 2030 = .ok (.aload_n 2, 1) := by decide +kernel
theorem dL_law_2031 : decode cL_law 2031 = .ok (.invokevirtual 135, 3) := by decide +kernel
theorem dL_law_2034 : decode cL_law 2034 = .ok (.iload 6, 2) := by decide +kernel
theorem dL_law_2036 : decode cL_law 2036 = .ok (.if_icmp .eq 5, 3) := by decide +kernel
theorem dL_law_2039 : decode cL_law 2039 = .ok (.iconst 0, 1) := by decide +kernel
theorem dL_law_2040 : decode cL_law 2040 = .ok (.ireturn, 1) := by decide +kernel
theorem dL_law_2041 : decode cL_law 2041 = .ok (.iload 6, 2) := by decide +kernel
theorem dL_law_2043 : decode cL_law 2043 = .ok (.ifCond .ne 15, 3) := by decide +kernel
theorem dL_law_2046 : decode cL_law 2046 = .ok (.aload_n 3, 1) := by decide +kernel
theorem dL_law_2047 : decode cL_law 2047 = .ok (.iconst 0, 1) := by decide +kernel
theorem dL_law_2048 : decode cL_law 2048 = .ok (.laload, 1) := by decide +kernel
theorem dL_law_2049 : decode cL_law 2049 = .ok (.iload 7, 2) := by decide +kernel
theorem dL_law_2051 : decode cL_law 2051 = .ok (.i2l, 1) := by decide +kernel
theorem dL_law_2052 : decode cL_law 2052 = .ok (.lcmp, 1) := by decide +kernel
theorem dL_law_2053 : decode cL_law 2053 = .ok (.ifCond .eq 5, 3) := by decide +kernel
theorem dL_law_2056 : decode cL_law 2056 = .ok (.iconst 0, 1) := by decide +kernel
theorem dL_law_2057 : decode cL_law 2057 = .ok (.ireturn, 1) := by decide +kernel
theorem dL_law_2058 : decode cL_law 2058 = .ok (.goto 192, 3) := by decide +kernel
theorem dL_law_2061 : decode cL_law 2061 = .ok (.aload_n 1, 1) := by decide +kernel
theorem dL_law_2062 : decode cL_law 2062 = .ok (.aload_n 3, 1) := by decide +kernel
theorem dL_law_2063 : decode cL_law 2063 = .ok (.invokestatic 225, 3) := by decide +kernel
theorem dL_law_2066 : decode cL_law 2066 = .ok (.istore 6, 2) := by decide +kernel
theorem dL_law_2068 : decode cL_law 2068 = .ok (.aload_n 2, 1) := by decide +kernel
theorem dL_law_2069 : decode cL_law 2069 = .ok (.invokevirtual 227, 3) := by decide +kernel
theorem dL_law_2072 : decode cL_law 2072 = .ok (.istore 7, 2) := by decide +kernel
theorem dL_law_2074 : decode cL_law 2074 = .ok (.aload_n 2, 1) := by decide +kernel
theorem dL_law_2075 : decode cL_law 2075 = .ok (.invokevirtual 135, 3) := by decide +kernel
theorem dL_law_2078 : decode cL_law 2078 = .ok (.iload 6, 2) := by decide +kernel
theorem dL_law_2080 : decode cL_law 2080 = .ok (.if_icmp .eq 5, 3) := by decide +kernel
theorem dL_law_2083 : decode cL_law 2083 = .ok (.iconst 0, 1) := by decide +kernel
theorem dL_law_2084 : decode cL_law 2084 = .ok (.ireturn, 1) := by decide +kernel
theorem dL_law_2085 : decode cL_law 2085 = .ok (.iload 6, 2) := by decide +kernel
theorem dL_law_2087 : decode cL_law 2087 = .ok (.ifCond .ne 15, 3) := by decide +kernel
theorem dL_law_2090 : decode cL_law 2090 = .ok (.aload_n 3, 1) := by decide +kernel
theorem dL_law_2091 : decode cL_law 2091 = .ok (.iconst 0, 1) := by decide +kernel
theorem dL_law_2092 : decode cL_law 2092 = .ok (.laload, 1) := by decide +kernel
theorem dL_law_2093 : decode cL_law 2093 = .ok (.iload 7, 2) := by decide +kernel
theorem dL_law_2095 : decode cL_law 2095 = .ok (.i2l, 1) := by decide +kernel
theorem dL_law_2096 : decode cL_law 2096 = .ok (.lcmp, 1) := by decide +kernel
theorem dL_law_2097 : decode cL_law 2097 = .ok (.ifCond .eq 5, 3) := by decide +kernel
theorem dL_law_2100 : decode cL_law 2100 = .ok (.iconst 0, 1) := by decide +kernel
theorem dL_law_2101 : decode cL_law 2101 = .ok (.ireturn, 1) := by decide +kernel
theorem dL_law_2102 : decode cL_law 2102 = .ok (.goto 148, 3) := by decide +kernel
theorem dL_law_2105 : decode cL_law 2105 = .ok (.aload_n 1, 1) := by decide +kernel
theorem dL_law_2106 : decode cL_law 2106 = .ok (.aload_n 3, 1) := by decide +kernel
theorem dL_law_2107 : decode cL_law 2107 = .ok (.invokestatic 228, 3) := by decide +kernel
theorem dL_law_2110 : decode cL_law 2110 = .ok (.istore 6, 2) := by decide +kernel
theorem dL_law_2112 : decode cL_law 2112 = .ok (.aload_n 2, 1) := by decide +kernel
theorem dL_law_2113 : decode cL_law 2113 = .ok (.invokevirtual 230, 3) := by decide +kernel
theorem dL_law_2116 : decode cL_law 2116 = .ok (.istore 7, 2) := by decide +kernel
theorem dL_law_2118 : decode cL_law 2118 = .ok (.aload_n 2, 1) := by decide +kernel
theorem dL_law_2119 : decode cL_law 2119 = .ok (.invokevirtual 135, 3) := by decide +kernel
theorem dL_law_2122 : decode cL_law 2122 = .ok (.iload 6, 2) := by decide +kernel
theorem dL_law_2124 : decode cL_law 2124 = .ok (.if_icmp .eq 5, 3) := by decide +kernel
theorem dL_law_2127 : decode cL_law 2127 = .ok (.iconst 0, 1) := by decide +kernel
theorem dL_law_2128 : decode cL_law 2128 = .ok (.ireturn, 1) := by decide +kernel
theorem dL_law_2129 : decode cL_law 2129 = .ok (.iload 6, 2) := by decide +kernel
theorem dL_law_2131 : decode cL_law 2131 = .ok (.ifCond .ne 15, 3) := by decide +kernel
theorem dL_law_2134 : decode cL_law 2134 = .ok (.aload_n 3, 1) := by decide +kernel
theorem dL_law_2135 : decode cL_law 2135 = .ok (.iconst 0, 1) := by decide +kernel
theorem dL_law_2136 : decode cL_law 2136 = .ok (.laload, 1) := by decide +kernel
theorem dL_law_2137 : decode cL_law 2137 = .ok (.iload 7, 2) := by decide +kernel
theorem dL_law_2139 : decode cL_law 2139 = .ok (.i2l, 1) := by decide +kernel
theorem dL_law_2140 : decode cL_law 2140 = .ok (.lcmp, 1) := by decide +kernel
theorem dL_law_2141 : decode cL_law 2141 = .ok (.ifCond .eq 5, 3) := by decide +kernel
theorem dL_law_2144 : decode cL_law 2144 = .ok (.iconst 0, 1) := by decide +kernel
theorem dL_law_2145 : decode cL_law 2145 = .ok (.ireturn, 1) := by decide +kernel
theorem dL_law_2146 : decode cL_law 2146 = .ok (.goto 104, 3) := by decide +kernel
theorem dL_law_2149 : decode cL_law 2149 = .ok (.aload_n 1, 1) := by decide +kernel
theorem dL_law_2150 : decode cL_law 2150 = .ok (.aload_n 3, 1) := by decide +kernel
theorem dL_law_2151 : decode cL_law 2151 = .ok (.invokestatic 231, 3) := by decide +kernel
theorem dL_law_2154 : decode cL_law 2154 = .ok (.istore 6, 2) := by decide +kernel
theorem dL_law_2156 : decode cL_law 2156 = .ok (.aload_n 2, 1) := by decide +kernel
theorem dL_law_2157 : decode cL_law 2157 = .ok (.invokevirtual 233, 3) := by decide +kernel
theorem dL_law_2160 : decode cL_law 2160 = .ok (.istore 7, 2) := by decide +kernel
theorem dL_law_2162 : decode cL_law 2162 = .ok (.aload_n 2, 1) := by decide +kernel
theorem dL_law_2163 : decode cL_law 2163 = .ok (.invokevirtual 135, 3) := by decide +kernel
theorem dL_law_2166 : decode cL_law 2166 = .ok (.iload 6, 2) := by decide +kernel
theorem dL_law_2168 : decode cL_law 2168 = .ok (.if_icmp .eq 5, 3) := by decide +kernel
theorem dL_law_2171 : decode cL_law 2171 = .ok (.iconst 0, 1) := by decide +kernel
theorem dL_law_2172 : decode cL_law 2172 = .ok (.ireturn, 1) := by decide +kernel
theorem dL_law_2173 : decode cL_law 2173 = .ok (.iload 6, 2) := by decide +kernel
theorem dL_law_2175 : decode cL_law 2175 = .ok (.ifCond .ne 15, 3) := by decide +kernel
theorem dL_law_2178 : decode cL_law 2178 = .ok (.aload_n 3, 1) := by decide +kernel
theorem dL_law_2179 : decode cL_law 2179 = .ok (.iconst 0, 1) := by decide +kernel
theorem dL_law_2180 : decode cL_law 2180 = .ok (.laload, 1) := by decide +kernel
theorem dL_law_2181 : decode cL_law 2181 = .ok (.iload 7, 2) := by decide +kernel
theorem dL_law_2183 : decode cL_law 2183 = .ok (.i2l, 1) := by decide +kernel
theorem dL_law_2184 : decode cL_law 2184 = .ok (.lcmp, 1) := by decide +kernel
theorem dL_law_2185 : decode cL_law 2185 = .ok (.ifCond .eq 5, 3) := by decide +kernel
theorem dL_law_2188 : decode cL_law 2188 = .ok (.iconst 0, 1) := by decide +kernel
theorem dL_law_2189 : decode cL_law 2189 = .ok (.ireturn, 1) := by decide +kernel
theorem dL_law_2190 : decode cL_law 2190 = .ok (.goto 60, 3) := by decide +kernel
theorem dL_law_2193 : decode cL_law 2193 = .ok (.aload_n 1, 1) := by decide +kernel
theorem dL_law_2194 : decode cL_law 2194 = .ok (.invokevirtual 234, 3) := by decide +kernel
theorem dL_law_2197 : decode cL_law 2197 = .ok (.aload_n 2, 1) := by decide +kernel
theorem dL_law_2198 : decode cL_law 2198 = .ok (.invokevirtual 237, 3) := by decide +kernel
theorem dL_law_2201 : decode cL_law 2201 = .ok (.if_icmp .eq 49, 3) := by decide +kernel
theorem dL_law_2204 : decode cL_law 2204 = .ok (.iconst 0, 1) := by decide +kernel
theorem dL_law_2205 : decode cL_law 2205 = .ok (.ireturn, 1) := by decide +kernel
theorem dL_law_2206 : decode cL_law 2206 = .ok (.aload_n 1, 1) := by decide +kernel
theorem dL_law_2207 : decode cL_law 2207 = .ok (.aload_n 3, 1) := by decide +kernel
theorem dL_law_2208 : decode cL_law 2208 = .ok (.invokestatic 238, 3) := by decide +kernel
theorem dL_law_2211 : decode cL_law 2211 = .ok (.istore 6, 2) := by decide +kernel
theorem dL_law_2213 : decode cL_law 2213 = .ok (.aload_n 2, 1) := by decide +kernel
theorem dL_law_2214 : decode cL_law 2214 = .ok (.invokevirtual 240, 3) := by decide +kernel
theorem dL_law_2217 : decode cL_law 2217 = .ok (.istore 7, 2) := by decide +kernel
theorem dL_law_2219 : decode cL_law 2219 = .ok (.aload_n 2, 1) := by decide +kernel
theorem dL_law_2220 : decode cL_law 2220 = .ok (.invokevirtual 135, 3) := by decide +kernel
theorem dL_law_2223 : decode cL_law 2223 = .ok (.iload 6, 2) := by decide +kernel
theorem dL_law_2225 : decode cL_law 2225 = .ok (.if_icmp .eq 5, 3) := by decide +kernel
theorem dL_law_2228 : decode cL_law 2228 = .ok (.iconst 0, 1) := by decide +kernel
theorem dL_law_2229 : decode cL_law 2229 = .ok (.ireturn, 1) := by decide +kernel
theorem dL_law_2230 : decode cL_law 2230 = .ok (.iload 6, 2) := by decide +kernel
theorem dL_law_2232 : decode cL_law 2232 = .ok (.ifCond .ne 15, 3) := by decide +kernel
theorem dL_law_2235 : decode cL_law 2235 = .ok (.aload_n 3, 1) := by decide +kernel
theorem dL_law_2236 : decode cL_law 2236 = .ok (.iconst 0, 1) := by decide +kernel
theorem dL_law_2237 : decode cL_law 2237 = .ok (.laload, 1) := by decide +kernel
theorem dL_law_2238 : decode cL_law 2238 = .ok (.iload 7, 2) := by decide +kernel
theorem dL_law_2240 : decode cL_law 2240 = .ok (.i2l, 1) := by decide +kernel
theorem dL_law_2241 : decode cL_law 2241 = .ok (.lcmp, 1) := by decide +kernel
theorem dL_law_2242 : decode cL_law 2242 = .ok (.ifCond .eq 5, 3) := by decide +kernel
theorem dL_law_2245 : decode cL_law 2245 = .ok (.iconst 0, 1) := by decide +kernel
theorem dL_law_2246 : decode cL_law 2246 = .ok (.ireturn, 1) := by decide +kernel
theorem dL_law_2247 : decode cL_law 2247 = .ok (.goto 3, 3) := by decide +kernel
theorem dL_law_2250 : decode cL_law 2250 = .ok (.iinc 5 5, 3) := by decide +kernel
theorem dL_law_2253 : decode cL_law 2253 = .ok (.goto (-2225), 3) := by decide +kernel
theorem dL_law_2256 : decode cL_law 2256 = .ok (.iconst 1, 1) := by decide +kernel
theorem dL_law_2257 : decode cL_law 2257 = .ok (.ireturn, 1) := by decide +kernel
