theorem dX5_init_0 : decode cX5_init 0 = .ok (.aload_n 0, 1) := by decide +kernel
theorem dX5_init_1 : decode cX5_init 1 = .ok (.invokespecial 5, 3) := by decide +kernel
theorem dX5_init_4 : decode cX5_init 4 = .ok (.aload_n 0, 1) := by decide +kernel
theorem dX5_init_5 : decode cX5_init 5 = .ok (.bipush 27, 2) := by decide +kernel
theorem dX5_init_7 : decode cX5_init 7 = .ok (.newarray .int, 2) := by decide +kernel
theorem dX5_init_9 : decode cX5_init 9 = .ok (.putfield 13, 3) := by decide +kernel
theorem dX5_init_12 : decode cX5_init 12 = .ok (.aload_n 0, 1) := by decide +kernel
theorem dX5_init_13 : decode cX5_init 13 = .ok (.sipush 729, 3) := by decide +kernel
theorem dX5_init_16 : decode cX5_init 16 = .ok (.newarray .int, 2) := by decide +kernel
theorem dX5_init_18 : decode cX5_init 18 = .ok (.putfield 17, 3) := by decide +kernel
theorem dX5_init_21 : decode cX5_init 21 = .ok (.aload_n 0, 1) := by decide +kernel
theorem dX5_init_22 : decode cX5_init 22 = .ok (.bipush 60, 2) := by decide +kernel
theorem dX5_init_24 : decode cX5_init 24 = .ok (.newarray .int, 2) := by decide +kernel
theorem dX5_init_26 : decode cX5_init 26 = .ok (.putfield 22, 3) := by decide +kernel
theorem dX5_init_29 : decode cX5_init 29 = .ok (.aload_n 0, 1) := by decide +kernel
theorem dX5_init_30 : decode cX5_init 30 = .ok (.aload_n 1, 1) := by decide +kernel
theorem dX5_init_31 : decode cX5_init 31 = .ok (.putfield 25, 3) := by decide +kernel
theorem dX5_init_34 : decode cX5_init 34 = .ok (.aload_n 0, 1) := by decide +kernel
theorem dX5_init_35 : decode cX5_init 35 = .ok (.aload_n 2, 1) := by decide +kernel
theorem dX5_init_36 : decode cX5_init 36 = .ok (.putfield 29, 3) := by decide +kernel
theorem dX5_init_39 : decode cX5_init 39 = .ok (.return_, 1) := by decide +kernel
theorem dX5_solve_0 : decode cX5_solve 0 = .ok (.aload_n 0, 1) := by decide +kernel
theorem dX5_solve_1 : decode cX5_solve 1 = .ok (.getfield 25, 3) := by decide +kernel
theorem dX5_solve_4 : decode cX5_solve 4 = .ok (.invokevirtual 33, 3) := by decide +kernel
theorem dX5_solve_7 : decode cX5_solve 7 = .ok (.istore_n 2, 1) := by decide +kernel
theorem dX5_solve_8 : decode cX5_solve 8 = .ok (.iconst 0, 1) := by decide +kernel
theorem dX5_solve_9 : decode cX5_solve 9 = .ok (.istore_n 3, 1) := by decide +kernel
theorem dX5_solve_10 : decode cX5_solve 10 = .ok (.iload_n 3, 1) := by decide +kernel
theorem dX5_solve_11 : decode cX5_solve 11 = .ok (.iload_n 2, 1) := by decide +kernel
theorem dX5_solve_12 : decode cX5_solve 12 = .ok (.if_icmp .ge 44, 3) := by decide +kernel
theorem dX5_solve_15 : decode cX5_solve 15 = .ok (.iload_n 3, 1) := by decide +kernel
theorem dX5_solve_16 : decode cX5_solve 16 = .ok (.bipush 26, 2) := by decide +kernel
theorem dX5_solve_18 : decode cX5_solve 18 = .ok (.if_icmp .ge 38, 3) := by decide +kernel
theorem dX5_solve_21 : decode cX5_solve 21 = .ok (.aload_n 0, 1) := by decide +kernel
theorem dX5_solve_22 : decode cX5_solve 22 = .ok (.getfield 13, 3) := by decide +kernel
theorem dX5_solve_25 : decode cX5_solve 25 = .ok (.iload_n 3, 1) := by decide +kernel
theorem dX5_solve_26 : decode cX5_solve 26 = .ok (.iconst 1, 1) := by decide +kernel
theorem dX5_solve_27 : decode cX5_solve 27 = .ok (.iadd, 1) := by decide +kernel
theorem dX5_solve_28 : decode cX5_solve 28 = .ok (.aload_n 0, 1) := by decide +kernel
theorem dX5_solve_29 : decode cX5_solve 29 = .ok (.getfield 13, 3) := by decide +kernel
theorem dX5_solve_32 : decode cX5_solve 32 = .ok (.iload_n 3, 1) := by decide +kernel
theorem dX5_solve_33 : decode cX5_solve 33 = .ok (.iaload, 1) := by decide +kernel
theorem dX5_solve_34 : decode cX5_solve 34 = .ok (.aload_n 1, 1) := by decide +kernel
theorem dX5_solve_35 : decode cX5_solve 35 = .ok (.aload_n 0, 1) := by decide +kernel
theorem dX5_solve_36 : decode cX5_solve 36 = .ok (.getfield 25, 3) := by decide +kernel
theorem dX5_solve_39 : decode cX5_solve 39 = .ok (.iload_n 3, 1) := by decide +kernel
theorem dX5_solve_40 : decode cX5_solve 40 = .ok (.invokevirtual 37, 3) := by decide +kernel
theorem dX5_solve_43 : decode cX5_solve 43 = .ok (.invokevirtual 41, 3) := by decide +kernel
theorem dX5_solve_46 : decode cX5_solve 46 = .ok (.iadd, 1) := by decide +kernel
theorem dX5_solve_47 : decode cX5_solve 47 = .ok (.iconst 1, 1) := by decide +kernel
theorem dX5_solve_48 : decode cX5_solve 48 = .ok (.iadd, 1) := by decide +kernel
theorem dX5_solve_49 : decode cX5_solve 49 = .ok (.iastore, 1) := by decide +kernel
theorem dX5_solve_50 : decode cX5_solve 50 = .ok (.iinc 3 1, 3) := by decide +kernel
theorem dX5_solve_53 : decode cX5_solve 53 = .ok (.goto (-43), 3) := by decide +kernel
theorem dX5_solve_56 : decode cX5_solve 56 = .ok (.iload_n 2, 1) := by decide +kernel
theorem dX5_solve_57 : decode cX5_solve 57 = .ok (.iconst 1, 1) := by decide +kernel
theorem dX5_solve_58 : decode cX5_solve 58 = .ok (.isub, 1) := by decide +kernel
theorem dX5_solve_59 : decode cX5_solve 59 = .ok (.istore_n 3, 1) := by decide +kernel
theorem dX5_solve_60 : decode cX5_solve 60 = .ok (.iload_n 3, 1) := by decide +kernel
theorem dX5_solve_61 : decode cX5_solve 61 = .ok (.ifCond .lt 63, 3) := by decide +kernel
theorem dX5_solve_64 : decode cX5_solve 64 = .ok (.iload_n 3, 1) := by decide +kernel
theorem dX5_solve_65 : decode cX5_solve 65 = .ok (.iconst 1, 1) := by decide +kernel
theorem dX5_solve_66 : decode cX5_solve 66 = .ok (.iadd, 1) := by decide +kernel
theorem dX5_solve_67 : decode cX5_solve 67 = .ok (.istore 4, 2) := by decide +kernel
theorem dX5_solve_69 : decode cX5_solve 69 = .ok (.iload 4, 2) := by decide +kernel
theorem dX5_solve_71 : decode cX5_solve 71 = .ok (.iload_n 2, 1) := by decide +kernel
theorem dX5_solve_72 : decode cX5_solve 72 = .ok (.if_icmp .gt 46, 3) := by decide +kernel
theorem dX5_solve_75 : decode cX5_solve 75 = .ok (.iload 4, 2) := by decide +kernel
theorem dX5_solve_77 : decode cX5_solve 77 = .ok (.bipush 27, 2) := by decide +kernel
theorem dX5_solve_79 : decode cX5_solve 79 = .ok (.if_icmp .ge 39, 3) := by decide +kernel
theorem dX5_solve_82 : decode cX5_solve 82 = .ok (.aload_n 0, 1) := by decide +kernel
theorem dX5_solve_83 : decode cX5_solve 83 = .ok (.iload_n 3, 1) := by decide +kernel
theorem dX5_solve_84 : decode cX5_solve 84 = .ok (.iload 4, 2) := by decide +kernel
theorem dX5_solve_86 : decode cX5_solve 86 = .ok (.invokevirtual 46, 3) := by decide +kernel
theorem dX5_solve_89 : decode cX5_solve 89 = .ok (.istore 5, 2) := by decide +kernel
theorem dX5_solve_91 : decode cX5_solve 91 = .ok (.aload_n 0, 1) := by decide +kernel
theorem dX5_solve_92 : decode cX5_solve 92 = .ok (.getfield 17, 3) := by decide +kernel
theorem dX5_solve_95 : decode cX5_solve 95 = .ok (.iload_n 3, 1) := by decide +kernel
theorem dX5_solve_96 : decode cX5_solve 96 = .ok (.bipush 27, 2) := by decide +kernel
theorem dX5_solve_98 : decode cX5_solve 98 = .ok (.imul, 1) := by decide +kernel
theorem dX5_solve_99 : decode cX5_solve 99 = .ok (.iload 4, 2) := by decide +kernel
theorem dX5_solve_101 : decode cX5_solve 101 = .ok (.iadd, 1) := by decide +kernel
theorem dX5_solve_102 : decode cX5_solve 102 = .ok (.aload_n 0, 1) := by decide +kernel
theorem dX5_solve_103 : decode cX5_solve 103 = .ok (.iload_n 3, 1) := by decide +kernel
theorem dX5_solve_104 : decode cX5_solve 104 = .ok (.iload 5, 2) := by decide +kernel
theorem dX5_solve_106 : decode cX5_solve 106 = .ok (.iload 4, 2) := by decide +kernel
theorem dX5_solve_108 : decode cX5_solve 108 = .ok (.invokevirtual 50, 3) := by decide +kernel
theorem dX5_solve_111 : decode cX5_solve 111 = .ok (.iastore, 1) := by decide +kernel
theorem dX5_solve_112 : decode cX5_solve 112 = .ok (.iinc 4 1, 3) := by decide +kernel
theorem dX5_solve_115 : decode cX5_solve 115 = .ok (.goto (-46), 3) := by decide +kernel
theorem dX5_solve_118 : decode cX5_solve 118 = .ok (.iinc 3 (-1), 3) := by decide +kernel
theorem dX5_solve_121 : decode cX5_solve 121 = .ok (.goto (-61), 3) := by decide +kernel
theorem dX5_solve_124 : decode cX5_solve 124 = .ok (.aload_n 0, 1) := by decide +kernel
theorem dX5_solve_125 : decode cX5_solve 125 = .ok (.iconst 0, 1) := by decide +kernel
theorem dX5_solve_126 : decode cX5_solve 126 = .ok (.iload_n 2, 1) := by decide +kernel
theorem dX5_solve_127 : decode cX5_solve 127 = .ok (.invokevirtual 54, 3) := by decide +kernel
theorem dX5_solve_130 : decode cX5_solve 130 = .ok (.ireturn, 1) := by decide +kernel
theorem dX5_firstEnd_0 : decode cX5_firstEnd 0 = .ok (.iload_n 1, 1) := by decide +kernel
theorem dX5_firstEnd_1 : decode cX5_firstEnd 1 = .ok (.iconst 1, 1) := by decide +kernel
theorem dX5_firstEnd_2 : decode cX5_firstEnd 2 = .ok (.iadd, 1) := by decide +kernel
theorem dX5_firstEnd_3 : decode cX5_firstEnd 3 = .ok (.istore_n 3, 1) := by decide +kernel
theorem dX5_firstEnd_4 : decode cX5_firstEnd 4 = .ok (.aload_n 0, 1) := by decide +kernel
theorem dX5_firstEnd_5 : decode cX5_firstEnd 5 = .ok (.iload_n 1, 1) := by decide +kernel
theorem dX5_firstEnd_6 : decode cX5_firstEnd 6 = .ok (.iload_n 3, 1) := by decide +kernel
theorem dX5_firstEnd_7 : decode cX5_firstEnd 7 = .ok (.iload_n 2, 1) := by decide +kernel
theorem dX5_firstEnd_8 : decode cX5_firstEnd 8 = .ok (.invokevirtual 50, 3) := by decide +kernel
theorem dX5_firstEnd_11 : decode cX5_firstEnd 11 = .ok (.istore 4, 2) := by decide +kernel
theorem dX5_firstEnd_13 : decode cX5_firstEnd 13 = .ok (.iload_n 1, 1) := by decide +kernel
theorem dX5_firstEnd_14 : decode cX5_firstEnd 14 = .ok (.iconst 2, 1) := by decide +kernel
theorem dX5_firstEnd_15 : decode cX5_firstEnd 15 = .ok (.iadd, 1) := by decide +kernel
theorem dX5_firstEnd_16 : decode cX5_firstEnd 16 = .ok (.istore 5, 2) := by decide +kernel
theorem dX5_firstEnd_18 : decode cX5_firstEnd 18 = .ok (.iload 5, 2) := by decide +kernel
theorem dX5_firstEnd_20 : decode cX5_firstEnd 20 = .ok (.iload_n 2, 1) := by decide +kernel
theorem dX5_firstEnd_21 : decode cX5_firstEnd 21 = .ok (.if_icmp .ge 33, 3) := by decide +kernel
theorem dX5_firstEnd_24 : decode cX5_firstEnd 24 = .ok (.aload_n 0, 1) := by decide +kernel
theorem dX5_firstEnd_25 : decode cX5_firstEnd 25 = .ok (.iload_n 1, 1) := by decide +kernel
theorem dX5_firstEnd_26 : decode cX5_firstEnd 26 = .ok (.iload 5, 2) := by decide +kernel
theorem dX5_firstEnd_28 : decode cX5_firstEnd 28 = .ok (.iload_n 2, 1) := by decide +kernel
theorem dX5_firstEnd_29 : decode cX5_firstEnd 29 = .ok (.invokevirtual 50, 3) := by decide +kernel
theorem dX5_firstEnd_32 : decode cX5_firstEnd 32 = .ok (.istore 6, 2) := by decide +kernel
theorem dX5_firstEnd_34 : decode cX5_firstEnd 34 = .ok (.iload 6, 2) := by decide +kernel
theorem dX5_firstEnd_36 : decode cX5_firstEnd 36 = .ok (.iload 4, 2) := by decide +kernel
theorem dX5_firstEnd_38 : decode cX5_firstEnd 38 = .ok (.if_icmp .ge 10, 3) := by decide +kernel
theorem dX5_firstEnd_41 : decode cX5_firstEnd 41 = .ok (.iload 5, 2) := by decide +kernel
theorem dX5_firstEnd_43 : decode cX5_firstEnd 43 = .ok (.istore_n 3, 1) := by decide +kernel
theorem dX5_firstEnd_44 : decode cX5_firstEnd 44 = .ok (.iload 6, 2) := by decide +kernel
theorem dX5_firstEnd_46 : decode cX5_firstEnd 46 = .ok (.istore 4, 2) := by decide +kernel
theorem dX5_firstEnd_48 : decode cX5_firstEnd 48 = .ok (.iinc 5 1, 3) := by decide +kernel
theorem dX5_firstEnd_51 : decode cX5_firstEnd 51 = .ok (.goto (-33), 3) := by decide +kernel
theorem dX5_firstEnd_54 : decode cX5_firstEnd 54 = .ok (.iload_n 3, 1) := by decide +kernel
theorem dX5_firstEnd_55 : decode cX5_firstEnd 55 = .ok (.ireturn, 1) := by decide +kernel
theorem dX5_costWith_0 : decode cX5_costWith 0 = .ok (.iload_n 2, 1) := by decide +kernel
theorem dX5_costWith_1 : decode cX5_costWith 1 = .ok (.iload_n 1, 1) := by decide +kernel
theorem dX5_costWith_2 : decode cX5_costWith 2 = .ok (.isub, 1) := by decide +kernel
theorem dX5_costWith_3 : decode cX5_costWith 3 = .ok (.iconst 1, 1) := by decide +kernel
theorem dX5_costWith_4 : decode cX5_costWith 4 = .ok (.if_icmp .le 12, 3) := by decide +kernel
theorem dX5_costWith_7 : decode cX5_costWith 7 = .ok (.aload_n 0, 1) := by decide +kernel
theorem dX5_costWith_8 : decode cX5_costWith 8 = .ok (.iload_n 1, 1) := by decide +kernel
theorem dX5_costWith_9 : decode cX5_costWith 9 = .ok (.iload_n 2, 1) := by decide +kernel
theorem dX5_costWith_10 : decode cX5_costWith 10 = .ok (.invokevirtual 54, 3) := by decide +kernel
theorem dX5_costWith_13 : decode cX5_costWith 13 = .ok (.goto 4, 3) := by decide +kernel
theorem dX5_costWith_16 : decode cX5_costWith 16 = .ok (.iconst 0, 1) := by decide +kernel
theorem dX5_costWith_17 : decode cX5_costWith 17 = .ok (.istore 4, 2) := by decide +kernel
theorem dX5_costWith_19 : decode cX5_costWith 19 = .ok (.aload_n 0, 1) := by decide +kernel
theorem dX5_costWith_20 : decode cX5_costWith 20 = .ok (.getfield 29, 3) := by decide +kernel
theorem dX5_costWith_23 : decode cX5_costWith 23 = .ok (.iconst 0, 1) := by decide +kernel
theorem dX5_costWith_24 : decode cX5_costWith 24 = .ok (.invokevirtual 57, 3) := by decide +kernel
theorem dX5_costWith_27 : decode cX5_costWith 27 = .ok (.aload_n 0, 1) := by decide +kernel
theorem dX5_costWith_28 : decode cX5_costWith 28 = .ok (.iload_n 1, 1) := by decide +kernel
theorem dX5_costWith_29 : decode cX5_costWith 29 = .ok (.iload_n 3, 1) := by decide +kernel
theorem dX5_costWith_30 : decode cX5_costWith 30 = .ok (.invokevirtual 62, 3) := by decide +kernel
theorem dX5_costWith_33 : decode cX5_costWith 33 = .ok (.imul, 1) := by decide +kernel
theorem dX5_costWith_34 : decode cX5_costWith 34 = .ok (.aload_n 0, 1) := by decide +kernel
theorem dX5_costWith_35 : decode cX5_costWith 35 = .ok (.getfield 29, 3) := by decide +kernel
theorem dX5_costWith_38 : decode cX5_costWith 38 = .ok (.iconst 4, 1) := by decide +kernel
theorem dX5_costWith_39 : decode cX5_costWith 39 = .ok (.invokevirtual 57, 3) := by decide +kernel
theorem dX5_costWith_42 : decode cX5_costWith 42 = .ok (.aload_n 0, 1) := by decide +kernel
theorem dX5_costWith_43 : decode cX5_costWith 43 = .ok (.iload_n 1, 1) := by decide +kernel
theorem dX5_costWith_44 : decode cX5_costWith 44 = .ok (.iload_n 2, 1) := by decide +kernel
theorem dX5_costWith_45 : decode cX5_costWith 45 = .ok (.invokevirtual 62, 3) := by decide +kernel
theorem dX5_costWith_48 : decode cX5_costWith 48 = .ok (.imul, 1) := by decide +kernel
theorem dX5_costWith_49 : decode cX5_costWith 49 = .ok (.iadd, 1) := by decide +kernel
theorem dX5_costWith_50 : decode cX5_costWith 50 = .ok (.iload 4, 2) := by decide +kernel
theorem dX5_costWith_52 : decode cX5_costWith 52 = .ok (.iadd, 1) := by decide +kernel
theorem dX5_costWith_53 : decode cX5_costWith 53 = .ok (.aload_n 0, 1) := by decide +kernel
theorem dX5_costWith_54 : decode cX5_costWith 54 = .ok (.iload_n 2, 1) := by decide +kernel
theorem dX5_costWith_55 : decode cX5_costWith 55 = .ok (.iload_n 3, 1) := by decide +kernel
theorem dX5_costWith_56 : decode cX5_costWith 56 = .ok (.invokevirtual 54, 3) := by decide +kernel
theorem dX5_costWith_59 : decode cX5_costWith 59 = .ok (.iadd, 1) := by decide +kernel
theorem dX5_costWith_60 : decode cX5_costWith 60 = .ok (.ireturn, 1) := by decide +kernel
theorem dX5_sumOf_0 : decode cX5_sumOf 0 = .ok (.iload_n 1, 1) := by decide +kernel
theorem dX5_sumOf_1 : decode cX5_sumOf 1 = .ok (.iload_n 2, 1) := by decide +kernel
theorem dX5_sumOf_2 : decode cX5_sumOf 2 = .ok (.invokestatic 65, 3) := by decide +kernel
theorem dX5_sumOf_5 : decode cX5_sumOf 5 = .ok (.ifCond .eq 19, 3) := by decide +kernel
theorem dX5_sumOf_8 : decode cX5_sumOf 8 = .ok (.aload_n 0, 1) := by decide +kernel
theorem dX5_sumOf_9 : decode cX5_sumOf 9 = .ok (.getfield 13, 3) := by decide +kernel
theorem dX5_sumOf_12 : decode cX5_sumOf 12 = .ok (.iload_n 2, 1) := by decide +kernel
theorem dX5_sumOf_13 : decode cX5_sumOf 13 = .ok (.iaload, 1) := by decide +kernel
theorem dX5_sumOf_14 : decode cX5_sumOf 14 = .ok (.aload_n 0, 1) := by decide +kernel
theorem dX5_sumOf_15 : decode cX5_sumOf 15 = .ok (.getfield 13, 3) := by decide +kernel
theorem dX5_sumOf_18 : decode cX5_sumOf 18 = .ok (.iload_n 1, 1) := by decide +kernel
theorem dX5_sumOf_19 : decode cX5_sumOf 19 = .ok (.iaload, 1) := by decide +kernel
theorem dX5_sumOf_20 : decode cX5_sumOf 20 = .ok (.isub, 1) := by decide +kernel
theorem dX5_sumOf_21 : decode cX5_sumOf 21 = .ok (.goto 4, 3) := by decide +kernel
theorem dX5_sumOf_24 : decode cX5_sumOf 24 = .ok (.iconst 0, 1) := by decide +kernel
theorem dX5_sumOf_25 : decode cX5_sumOf 25 = .ok (.ireturn, 1) := by decide +kernel
theorem dX5_leastOf_0 : decode cX5_leastOf 0 = .ok (.iload_n 1, 1) := by decide +kernel
theorem dX5_leastOf_1 : decode cX5_leastOf 1 = .ok (.iload_n 2, 1) := by decide +kernel
theorem dX5_leastOf_2 : decode cX5_leastOf 2 = .ok (.invokestatic 65, 3) := by decide +kernel
theorem dX5_leastOf_5 : decode cX5_leastOf 5 = .ok (.ifCond .eq 17, 3) := by decide +kernel
theorem dX5_leastOf_8 : decode cX5_leastOf 8 = .ok (.aload_n 0, 1) := by decide +kernel
theorem dX5_leastOf_9 : decode cX5_leastOf 9 = .ok (.getfield 17, 3) := by decide +kernel
theorem dX5_leastOf_12 : decode cX5_leastOf 12 = .ok (.iload_n 1, 1) := by decide +kernel
theorem dX5_leastOf_13 : decode cX5_leastOf 13 = .ok (.bipush 27, 2) := by decide +kernel
theorem dX5_leastOf_15 : decode cX5_leastOf 15 = .ok (.imul, 1) := by decide +kernel
theorem dX5_leastOf_16 : decode cX5_leastOf 16 = .ok (.iload_n 2, 1) := by decide +kernel
theorem dX5_leastOf_17 : decode cX5_leastOf 17 = .ok (.iadd, 1) := by decide +kernel
theorem dX5_leastOf_18 : decode cX5_leastOf 18 = .ok (.iaload, 1) := by decide +kernel
theorem dX5_leastOf_19 : decode cX5_leastOf 19 = .ok (.goto 4, 3) := by decide +kernel
theorem dX5_leastOf_22 : decode cX5_leastOf 22 = .ok (.iconst 0, 1) := by decide +kernel
theorem dX5_leastOf_23 : decode cX5_leastOf 23 = .ok (.ireturn, 1) := by decide +kernel
theorem dX5_isPart_0 : decode cX5_isPart 0 = .ok (.iload_n 0, 1) := by decide +kernel
theorem dX5_isPart_1 : decode cX5_isPart 1 = .ok (.ifCond .lt 18, 3) := by decide +kernel
theorem dX5_isPart_4 : decode cX5_isPart 4 = .ok (.iload_n 0, 1) := by decide +kernel
theorem dX5_isPart_5 : decode cX5_isPart 5 = .ok (.iload_n 1, 1) := by decide +kernel
theorem dX5_isPart_6 : decode cX5_isPart 6 = .ok (.if_icmp .ge 13, 3) := by decide +kernel
theorem dX5_isPart_9 : decode cX5_isPart 9 = .ok (.iload_n 1, 1) := by decide +kernel
theorem dX5_isPart_10 : decode cX5_isPart 10 = .ok (.bipush 27, 2) := by decide +kernel
theorem dX5_isPart_12 : decode cX5_isPart 12 = .ok (.if_icmp .ge 7, 3) := by decide +kernel
theorem dX5_isPart_15 : decode cX5_isPart 15 = .ok (.iconst 1, 1) := by decide +kernel
theorem dX5_isPart_16 : decode cX5_isPart 16 = .ok (.goto 4, 3) := by decide +kernel
theorem dX5_isPart_19 : decode cX5_isPart 19 = .ok (.iconst 0, 1) := by decide +kernel
theorem dX5_isPart_20 : decode cX5_isPart 20 = .ok (.ireturn, 1) := by decide +kernel
theorem dX5_build_0 : decode cX5_build 0 = .ok (.aload_n 0, 1) := by decide +kernel
theorem dX5_build_1 : decode cX5_build 1 = .ok (.getfield 25, 3) := by decide +kernel
theorem dX5_build_4 : decode cX5_build 4 = .ok (.invokevirtual 33, 3) := by decide +kernel
theorem dX5_build_7 : decode cX5_build 7 = .ok (.istore_n 2, 1) := by decide +kernel
theorem dX5_build_8 : decode cX5_build 8 = .ok (.iconst 0, 1) := by decide +kernel
theorem dX5_build_9 : decode cX5_build 9 = .ok (.istore_n 3, 1) := by decide +kernel
theorem dX5_build_10 : decode cX5_build 10 = .ok (.iconst 0, 1) := by decide +kernel
theorem dX5_build_11 : decode cX5_build 11 = .ok (.istore 4, 2) := by decide +kernel
theorem dX5_build_13 : decode cX5_build 13 = .ok (.aload_n 0, 1) := by decide +kernel
theorem dX5_build_14 : decode cX5_build 14 = .ok (.getfield 22, 3) := by decide +kernel
theorem dX5_build_17 : decode cX5_build 17 = .ok (.iconst 0, 1) := by decide +kernel
theorem dX5_build_18 : decode cX5_build 18 = .ok (.iload_n 2, 1) := by decide +kernel
theorem dX5_build_19 : decode cX5_build 19 = .ok (.iastore, 1) := by decide +kernel
theorem dX5_build_20 : decode cX5_build 20 = .ok (.iconst 0, 1) := by decide +kernel
theorem dX5_build_21 : decode cX5_build 21 = .ok (.istore 5, 2) := by decide +kernel
theorem dX5_build_23 : decode cX5_build 23 = .ok (.iload 5, 2) := by decide +kernel
theorem dX5_build_25 : decode cX5_build 25 = .ok (.bipush 60, 2) := by decide +kernel
theorem dX5_build_27 : decode cX5_build 27 = .ok (.if_icmp .ge 94, 3) := by decide +kernel
theorem dX5_build_30 : decode cX5_build 30 = .ok (.iload_n 3, 1) := by decide +kernel
theorem dX5_build_31 : decode cX5_build 31 = .ok (.iload_n 2, 1) := by decide +kernel
theorem dX5_build_32 : decode cX5_build 32 = .ok (.if_icmp .ge 89, 3) := by decide +kernel
theorem dX5_build_35 : decode cX5_build 35 = .ok (.aload_n 0, 1) := by decide +kernel
theorem dX5_build_36 : decode cX5_build 36 = .ok (.iload_n 3, 1) := by decide +kernel
theorem dX5_build_37 : decode cX5_build 37 = .ok (.iload 4, 2) := by decide +kernel
theorem dX5_build_39 : decode cX5_build 39 = .ok (.aload_n 1, 1) := by decide +kernel
theorem dX5_build_40 : decode cX5_build 40 = .ok (.invokevirtual 69, 3) := by decide +kernel
theorem dX5_build_43 : decode cX5_build 43 = .ok (.istore 4, 2) := by decide +kernel
theorem dX5_build_45 : decode cX5_build 45 = .ok (.aload_n 0, 1) := by decide +kernel
theorem dX5_build_46 : decode cX5_build 46 = .ok (.iload_n 3, 1) := by decide +kernel
theorem dX5_build_47 : decode cX5_build 47 = .ok (.aload_n 0, 1) := by decide +kernel
theorem dX5_build_48 : decode cX5_build 48 = .ok (.getfield 22, 3) := by decide +kernel
theorem dX5_build_51 : decode cX5_build 51 = .ok (.iload 4, 2) := by decide +kernel
theorem dX5_build_53 : decode cX5_build 53 = .ok (.iaload, 1) := by decide +kernel
theorem dX5_build_54 : decode cX5_build 54 = .ok (.invokevirtual 46, 3) := by decide +kernel
theorem dX5_build_57 : decode cX5_build 57 = .ok (.istore 6, 2) := by decide +kernel
theorem dX5_build_59 : decode cX5_build 59 = .ok (.iload 6, 2) := by decide +kernel
theorem dX5_build_61 : decode cX5_build 61 = .ok (.iload_n 3, 1) := by decide +kernel
theorem dX5_build_62 : decode cX5_build 62 = .ok (.isub, 1) := by decide +kernel
theorem dX5_build_63 : decode cX5_build 63 = .ok (.iconst 1, 1) := by decide +kernel
theorem dX5_build_64 : decode cX5_build 64 = .ok (.if_icmp .ne 25, 3) := by decide +kernel
theorem dX5_build_67 : decode cX5_build 67 = .ok (.aload_n 1, 1) := by decide +kernel
theorem dX5_build_68 : decode cX5_build 68 = .ok (.iload 4, 2) := by decide +kernel
theorem dX5_build_70 : decode cX5_build 70 = .ok (.iconst 1, 1) := by decide +kernel
theorem dX5_build_71 : decode cX5_build 71 = .ok (.aload_n 0, 1) := by decide +kernel
theorem dX5_build_72 : decode cX5_build 72 = .ok (.getfield 25, 3) := by decide +kernel
theorem dX5_build_75 : decode cX5_build 75 = .ok (.iload_n 3, 1) := by decide +kernel
theorem dX5_build_76 : decode cX5_build 76 = .ok (.invokevirtual 37, 3) := by decide +kernel
theorem dX5_build_79 : decode cX5_build 79 = .ok (.invokevirtual 73, 3) := by decide +kernel
theorem dX5_build_82 : decode cX5_build 82 = .ok (.pop, 1) := by decide +kernel
theorem dX5_build_83 : decode cX5_build 83 = .ok (.iload 6, 2) := by decide +kernel
theorem dX5_build_85 : decode cX5_build 85 = .ok (.istore_n 3, 1) := by decide +kernel
theorem dX5_build_86 : decode cX5_build 86 = .ok (.goto 29, 3) := by decide +kernel
theorem dX5_build_89 : decode cX5_build 89 = .ok (.aload_n 1, 1) := by decide +kernel
theorem dX5_build_90 : decode cX5_build 90 = .ok (.iload 4, 2) := by decide +kernel
theorem dX5_build_92 : decode cX5_build 92 = .ok (.iconst 0, 1) := by decide +kernel
theorem dX5_build_93 : decode cX5_build 93 = .ok (.iconst (-1), 1) := by decide +kernel
theorem dX5_build_94 : decode cX5_build 94 = .ok (.invokevirtual 73, 3) := by decide +kernel
theorem dX5_build_97 : decode cX5_build 97 = .ok (.istore 4, 2) := by decide +kernel
theorem dX5_build_99 : decode cX5_build 99 = .ok (.iload 4, 2) := by decide +kernel
theorem dX5_build_101 : decode cX5_build 101 = .ok (.iconst (-1), 1) := by decide +kernel
theorem dX5_build_102 : decode cX5_build 102 = .ok (.if_icmp .ne 4, 3) := by decide +kernel
theorem dX5_build_105 : decode cX5_build 105 = .ok (.return_, 1) := by decide +kernel
theorem dX5_build_106 : decode cX5_build 106 = .ok (.aload_n 0, 1) := by decide +kernel
theorem dX5_build_107 : decode cX5_build 107 = .ok (.getfield 22, 3) := by decide +kernel
theorem dX5_build_110 : decode cX5_build 110 = .ok (.iload 4, 2) := by decide +kernel
theorem dX5_build_112 : decode cX5_build 112 = .ok (.iload 6, 2) := by decide +kernel
theorem dX5_build_114 : decode cX5_build 114 = .ok (.iastore, 1) := by decide +kernel
theorem dX5_build_115 : decode cX5_build 115 = .ok (.iinc 5 1, 3) := by decide +kernel
theorem dX5_build_118 : decode cX5_build 118 = .ok (.goto (-95), 3) := by decide +kernel
theorem dX5_build_121 : decode cX5_build 121 = .ok (.return_, 1) := by decide +kernel
theorem dX5_openAt_0 : decode cX5_openAt 0 = .ok (.iload_n 2, 1) := by decide +kernel
theorem dX5_openAt_1 : decode cX5_openAt 1 = .ok (.istore 4, 2) := by decide +kernel
theorem dX5_openAt_3 : decode cX5_openAt 3 = .ok (.iconst 0, 1) := by decide +kernel
theorem dX5_openAt_4 : decode cX5_openAt 4 = .ok (.istore 5, 2) := by decide +kernel
theorem dX5_openAt_6 : decode cX5_openAt 6 = .ok (.iload 5, 2) := by decide +kernel
theorem dX5_openAt_8 : decode cX5_openAt 8 = .ok (.bipush 60, 2) := by decide +kernel
theorem dX5_openAt_10 : decode cX5_openAt 10 = .ok (.if_icmp .ge 33, 3) := by decide +kernel
theorem dX5_openAt_13 : decode cX5_openAt 13 = .ok (.iload 4, 2) := by decide +kernel
theorem dX5_openAt_15 : decode cX5_openAt 15 = .ok (.ifCond .le 28, 3) := by decide +kernel
theorem dX5_openAt_18 : decode cX5_openAt 18 = .ok (.aload_n 0, 1) := by decide +kernel
theorem dX5_openAt_19 : decode cX5_openAt 19 = .ok (.getfield 22, 3) := by decide +kernel
theorem dX5_openAt_22 : decode cX5_openAt 22 = .ok (.iload 4, 2) := by decide +kernel
theorem dX5_openAt_24 : decode cX5_openAt 24 = .ok (.iaload, 1) := by decide +kernel
theorem dX5_openAt_25 : decode cX5_openAt 25 = .ok (.iload_n 1, 1) := by decide +kernel
theorem dX5_openAt_26 : decode cX5_openAt 26 = .ok (.if_icmp .gt 17, 3) := by decide +kernel
theorem dX5_openAt_29 : decode cX5_openAt 29 = .ok (.aload_n 3, 1) := by decide +kernel
theorem dX5_openAt_30 : decode cX5_openAt 30 = .ok (.iload 4, 2) := by decide +kernel
theorem dX5_openAt_32 : decode cX5_openAt 32 = .ok (.invokevirtual 76, 3) := by decide +kernel
theorem dX5_openAt_35 : decode cX5_openAt 35 = .ok (.istore 4, 2) := by decide +kernel
theorem dX5_openAt_37 : decode cX5_openAt 37 = .ok (.iinc 5 1, 3) := by decide +kernel
theorem dX5_openAt_40 : decode cX5_openAt 40 = .ok (.goto (-34), 3) := by decide +kernel
theorem dX5_openAt_43 : decode cX5_openAt 43 = .ok (.iload 4, 2) := by decide +kernel
theorem dX5_openAt_45 : decode cX5_openAt 45 = .ok (.iconst 0, 1) := by decide +kernel
theorem dX5_openAt_46 : decode cX5_openAt 46 = .ok (.invokestatic 79, 3) := by decide +kernel
theorem dX5_openAt_49 : decode cX5_openAt 49 = .ok (.ireturn, 1) := by decide +kernel
theorem dX6_init_0 : decode cX6_init 0 = .ok (.aload_n 0, 1) := by decide +kernel
theorem dX6_init_1 : decode cX6_init 1 = .ok (.invokespecial 3, 3) := by decide +kernel
theorem dX6_init_4 : decode cX6_init 4 = .ok (.aload_n 0, 1) := by decide +kernel
theorem dX6_init_5 : decode cX6_init 5 = .ok (.bipush 26, 2) := by decide +kernel
theorem dX6_init_7 : decode cX6_init 7 = .ok (.newarray .int, 2) := by decide +kernel
theorem dX6_init_9 : decode cX6_init 9 = .ok (.putfield 9, 3) := by decide +kernel
theorem dX6_init_12 : decode cX6_init 12 = .ok (.aload_n 0, 1) := by decide +kernel
theorem dX6_init_13 : decode cX6_init 13 = .ok (.bipush 26, 2) := by decide +kernel
theorem dX6_init_15 : decode cX6_init 15 = .ok (.newarray .int, 2) := by decide +kernel
theorem dX6_init_17 : decode cX6_init 17 = .ok (.putfield 15, 3) := by decide +kernel
theorem dX6_init_20 : decode cX6_init 20 = .ok (.aload_n 0, 1) := by decide +kernel
theorem dX6_init_21 : decode cX6_init 21 = .ok (.aload_n 1, 1) := by decide +kernel
theorem dX6_init_22 : decode cX6_init 22 = .ok (.putfield 18, 3) := by decide +kernel
theorem dX6_init_25 : decode cX6_init 25 = .ok (.aload_n 0, 1) := by decide +kernel
theorem dX6_init_26 : decode cX6_init 26 = .ok (.aload_n 2, 1) := by decide +kernel
theorem dX6_init_27 : decode cX6_init 27 = .ok (.putfield 22, 3) := by decide +kernel
theorem dX6_init_30 : decode cX6_init 30 = .ok (.return_, 1) := by decide +kernel
theorem dX6_change_0 : decode cX6_change 0 = .ok (.iload_n 1, 1) := by decide +kernel
theorem dX6_change_1 : decode cX6_change 1 = .ok (.invokestatic 26, 3) := by decide +kernel
theorem dX6_change_4 : decode cX6_change 4 = .ok (.ifCond .eq 14, 3) := by decide +kernel
theorem dX6_change_7 : decode cX6_change 7 = .ok (.iload_n 2, 1) := by decide +kernel
theorem dX6_change_8 : decode cX6_change 8 = .ok (.iconst 0, 1) := by decide +kernel
theorem dX6_change_9 : decode cX6_change 9 = .ok (.sipush 1000, 3) := by decide +kernel
theorem dX6_change_12 : decode cX6_change 12 = .ok (.invokestatic 30, 3) := by decide +kernel
theorem dX6_change_15 : decode cX6_change 15 = .ok (.ifCond .ne 5, 3) := by decide +kernel
theorem dX6_change_18 : decode cX6_change 18 = .ok (.iconst 0, 1) := by decide +kernel
theorem dX6_change_19 : decode cX6_change 19 = .ok (.ireturn, 1) := by decide +kernel
theorem dX6_change_20 : decode cX6_change 20 = .ok (.aload_n 0, 1) := by decide +kernel
theorem dX6_change_21 : decode cX6_change 21 = .ok (.getfield 9, 3) := by decide +kernel
theorem dX6_change_24 : decode cX6_change 24 = .ok (.iload_n 1, 1) := by decide +kernel
theorem dX6_change_25 : decode cX6_change 25 = .ok (.bipush 97, 2) := by decide +kernel
theorem dX6_change_27 : decode cX6_change 27 = .ok (.isub, 1) := by decide +kernel
theorem dX6_change_28 : decode cX6_change 28 = .ok (.iload_n 2, 1) := by decide +kernel
theorem dX6_change_29 : decode cX6_change 29 = .ok (.iastore, 1) := by decide +kernel
theorem dX6_change_30 : decode cX6_change 30 = .ok (.iconst 1, 1) := by decide +kernel
theorem dX6_change_31 : decode cX6_change 31 = .ok (.ireturn, 1) := by decide +kernel
theorem dX6_shareOf_0 : decode cX6_shareOf 0 = .ok (.iload_n 1, 1) := by decide +kernel
theorem dX6_shareOf_1 : decode cX6_shareOf 1 = .ok (.invokestatic 26, 3) := by decide +kernel
theorem dX6_shareOf_4 : decode cX6_shareOf 4 = .ok (.ifCond .eq 15, 3) := by decide +kernel
theorem dX6_shareOf_7 : decode cX6_shareOf 7 = .ok (.aload_n 0, 1) := by decide +kernel
theorem dX6_shareOf_8 : decode cX6_shareOf 8 = .ok (.getfield 9, 3) := by decide +kernel
theorem dX6_shareOf_11 : decode cX6_shareOf 11 = .ok (.iload_n 1, 1) := by decide +kernel
theorem dX6_shareOf_12 : decode cX6_shareOf 12 = .ok (.bipush 97, 2) := by decide +kernel
theorem dX6_shareOf_14 : decode cX6_shareOf 14 = .ok (.isub, 1) := by decide +kernel
theorem dX6_shareOf_15 : decode cX6_shareOf 15 = .ok (.iaload, 1) := by decide +kernel
theorem dX6_shareOf_16 : decode cX6_shareOf 16 = .ok (.goto 4, 3) := by decide +kernel
theorem dX6_shareOf_19 : decode cX6_shareOf 19 = .ok (.iconst 0, 1) := by decide +kernel
theorem dX6_shareOf_20 : decode cX6_shareOf 20 = .ok (.ireturn, 1) := by decide +kernel
theorem dX6_costOf_0 : decode cX6_costOf 0 = .ok (.aload_n 0, 1) := by decide +kernel
theorem dX6_costOf_1 : decode cX6_costOf 1 = .ok (.getfield 18, 3) := by decide +kernel
theorem dX6_costOf_4 : decode cX6_costOf 4 = .ok (.iload_n 1, 1) := by decide +kernel
theorem dX6_costOf_5 : decode cX6_costOf 5 = .ok (.invokevirtual 34, 3) := by decide +kernel
theorem dX6_costOf_8 : decode cX6_costOf 8 = .ok (.iconst (-1), 1) := by decide +kernel
theorem dX6_costOf_9 : decode cX6_costOf 9 = .ok (.if_icmp .ne 5, 3) := by decide +kernel
theorem dX6_costOf_12 : decode cX6_costOf 12 = .ok (.iconst (-1), 1) := by decide +kernel
theorem dX6_costOf_13 : decode cX6_costOf 13 = .ok (.ireturn, 1) := by decide +kernel
theorem dX6_costOf_14 : decode cX6_costOf 14 = .ok (.iconst 0, 1) := by decide +kernel
theorem dX6_costOf_15 : decode cX6_costOf 15 = .ok (.istore_n 2, 1) := by decide +kernel
theorem dX6_costOf_16 : decode cX6_costOf 16 = .ok (.iload_n 1, 1) := by decide +kernel
theorem dX6_costOf_17 : decode cX6_costOf 17 = .ok (.istore_n 3, 1) := by decide +kernel
theorem dX6_costOf_18 : decode cX6_costOf 18 = .ok (.iconst 0, 1) := by decide +kernel
theorem dX6_costOf_19 : decode cX6_costOf 19 = .ok (.istore 4, 2) := by decide +kernel
theorem dX6_costOf_21 : decode cX6_costOf 21 = .ok (.iload 4, 2) := by decide +kernel
theorem dX6_costOf_23 : decode cX6_costOf 23 = .ok (.bipush 60, 2) := by decide +kernel
theorem dX6_costOf_25 : decode cX6_costOf 25 = .ok (.if_icmp .ge 51, 3) := by decide +kernel
theorem dX6_costOf_28 : decode cX6_costOf 28 = .ok (.iload_n 3, 1) := by decide +kernel
theorem dX6_costOf_29 : decode cX6_costOf 29 = .ok (.ifCond .le 47, 3) := by decide +kernel
theorem dX6_costOf_32 : decode cX6_costOf 32 = .ok (.iload_n 2, 1) := by decide +kernel
theorem dX6_costOf_33 : decode cX6_costOf 33 = .ok (.aload_n 0, 1) := by decide +kernel
theorem dX6_costOf_34 : decode cX6_costOf 34 = .ok (.getfield 22, 3) := by decide +kernel
theorem dX6_costOf_37 : decode cX6_costOf 37 = .ok (.iconst 0, 1) := by decide +kernel
theorem dX6_costOf_38 : decode cX6_costOf 38 = .ok (.invokevirtual 40, 3) := by decide +kernel
theorem dX6_costOf_41 : decode cX6_costOf 41 = .ok (.aload_n 0, 1) := by decide +kernel
theorem dX6_costOf_42 : decode cX6_costOf 42 = .ok (.getfield 18, 3) := by decide +kernel
theorem dX6_costOf_45 : decode cX6_costOf 45 = .ok (.iload_n 3, 1) := by decide +kernel
theorem dX6_costOf_46 : decode cX6_costOf 46 = .ok (.invokevirtual 34, 3) := by decide +kernel
theorem dX6_costOf_49 : decode cX6_costOf 49 = .ok (.imul, 1) := by decide +kernel
theorem dX6_costOf_50 : decode cX6_costOf 50 = .ok (.aload_n 0, 1) := by decide +kernel
theorem dX6_costOf_51 : decode cX6_costOf 51 = .ok (.getfield 22, 3) := by decide +kernel
theorem dX6_costOf_54 : decode cX6_costOf 54 = .ok (.iconst 4, 1) := by decide +kernel
theorem dX6_costOf_55 : decode cX6_costOf 55 = .ok (.invokevirtual 40, 3) := by decide +kernel
theorem dX6_costOf_58 : decode cX6_costOf 58 = .ok (.iadd, 1) := by decide +kernel
theorem dX6_costOf_59 : decode cX6_costOf 59 = .ok (.iadd, 1) := by decide +kernel
theorem dX6_costOf_60 : decode cX6_costOf 60 = .ok (.istore_n 2, 1) := by decide +kernel
theorem dX6_costOf_61 : decode cX6_costOf 61 = .ok (.aload_n 0, 1) := by decide +kernel
theorem dX6_costOf_62 : decode cX6_costOf 62 = .ok (.getfield 18, 3) := by decide +kernel
theorem dX6_costOf_65 : decode cX6_costOf 65 = .ok (.iload_n 3, 1) := by decide +kernel
theorem dX6_costOf_66 : decode cX6_costOf 66 = .ok (.invokevirtual 45, 3) := by decide +kernel
theorem dX6_costOf_69 : decode cX6_costOf 69 = .ok (.istore_n 3, 1) := by decide +kernel
theorem dX6_costOf_70 : decode cX6_costOf 70 = .ok (.iinc 4 1, 3) := by decide +kernel
theorem dX6_costOf_73 : decode cX6_costOf 73 = .ok (.goto (-52), 3) := by decide +kernel
theorem dX6_costOf_76 : decode cX6_costOf 76 = .ok (.iload_n 2, 1) := by decide +kernel
theorem dX6_costOf_77 : decode cX6_costOf 77 = .ok (.ireturn, 1) := by decide +kernel
theorem dX6_meanPart_0 : decode cX6_meanPart 0 = .ok (.iload_n 1, 1) := by decide +kernel
theorem dX6_meanPart_1 : decode cX6_meanPart 1 = .ok (.iconst 0, 1) := by decide +kernel
theorem dX6_meanPart_2 : decode cX6_meanPart 2 = .ok (.iconst 1, 1) := by decide +kernel
theorem dX6_meanPart_3 : decode cX6_meanPart 3 = .ok (.invokestatic 30, 3) := by decide +kernel
theorem dX6_meanPart_6 : decode cX6_meanPart 6 = .ok (.ifCond .ne 7, 3) := by decide +kernel
theorem dX6_meanPart_9 : decode cX6_meanPart 9 = .ok (.ldc2_w 48, 3) := by decide +kernel
theorem dX6_meanPart_12 : decode cX6_meanPart 12 = .ok (.lreturn, 1) := by decide +kernel
theorem dX6_meanPart_13 : decode cX6_meanPart 13 = .ok (.aload_n 0, 1) := by decide +kernel
theorem dX6_meanPart_14 : decode cX6_meanPart 14 = .ok (.invokevirtual 50, 3) := by decide +kernel
theorem dX6_meanPart_17 : decode cX6_meanPart 17 = .ok (.lconst 0, 1) := by decide +kernel
theorem dX6_meanPart_18 : decode cX6_meanPart 18 = .ok (.lstore_n 2, 1) := by decide +kernel
theorem dX6_meanPart_19 : decode cX6_meanPart 19 = .ok (.lconst 0, 1) := by decide +kernel
theorem dX6_meanPart_20 : decode cX6_meanPart 20 = .ok (.lstore 4, 2) := by decide +kernel
theorem dX6_meanPart_22 : decode cX6_meanPart 22 = .ok (.iconst 0, 1) := by decide +kernel
theorem dX6_meanPart_23 : decode cX6_meanPart 23 = .ok (.istore 6, 2) := by decide +kernel
theorem dX6_meanPart_25 : decode cX6_meanPart 25 = .ok (.iload 6, 2) := by decide +kernel
theorem dX6_meanPart_27 : decode cX6_meanPart 27 = .ok (.bipush 26, 2) := by decide +kernel
theorem dX6_meanPart_29 : decode cX6_meanPart 29 = .ok (.if_icmp .ge 67, 3) := by decide +kernel
theorem dX6_meanPart_32 : decode cX6_meanPart 32 = .ok (.aload_n 0, 1) := by decide +kernel
theorem dX6_meanPart_33 : decode cX6_meanPart 33 = .ok (.getfield 9, 3) := by decide +kernel
theorem dX6_meanPart_36 : decode cX6_meanPart 36 = .ok (.iload 6, 2) := by decide +kernel
theorem dX6_meanPart_38 : decode cX6_meanPart 38 = .ok (.iaload, 1) := by decide +kernel
theorem dX6_meanPart_39 : decode cX6_meanPart 39 = .ok (.ifCond .le 18, 3) := by decide +kernel
theorem dX6_meanPart_42 : decode cX6_meanPart 42 = .ok (.aload_n 0, 1) := by decide +kernel
theorem dX6_meanPart_43 : decode cX6_meanPart 43 = .ok (.getfield 15, 3) := by decide +kernel
theorem dX6_meanPart_46 : decode cX6_meanPart 46 = .ok (.iload 6, 2) := by decide +kernel
theorem dX6_meanPart_48 : decode cX6_meanPart 48 = .ok (.iaload, 1) := by decide +kernel
theorem dX6_meanPart_49 : decode cX6_meanPart 49 = .ok (.iconst (-1), 1) := by decide +kernel
theorem dX6_meanPart_50 : decode cX6_meanPart 50 = .ok (.if_icmp .ne 7, 3) := by decide +kernel
theorem dX6_meanPart_53 : decode cX6_meanPart 53 = .ok (.ldc2_w 48, 3) := by decide +kernel
theorem dX6_meanPart_56 : decode cX6_meanPart 56 = .ok (.lreturn, 1) := by decide +kernel
theorem dX6_meanPart_57 : decode cX6_meanPart 57 = .ok (.lload_n 2, 1) := by decide +kernel
theorem dX6_meanPart_58 : decode cX6_meanPart 58 = .ok (.aload_n 0, 1) := by decide +kernel
theorem dX6_meanPart_59 : decode cX6_meanPart 59 = .ok (.getfield 9, 3) := by decide +kernel
theorem dX6_meanPart_62 : decode cX6_meanPart 62 = .ok (.iload 6, 2) := by decide +kernel
theorem dX6_meanPart_64 : decode cX6_meanPart 64 = .ok (.iaload, 1) := by decide +kernel
theorem dX6_meanPart_65 : decode cX6_meanPart 65 = .ok (.i2l, 1) := by decide +kernel
theorem dX6_meanPart_66 : decode cX6_meanPart 66 = .ok (.aload_n 0, 1) := by decide +kernel
theorem dX6_meanPart_67 : decode cX6_meanPart 67 = .ok (.getfield 15, 3) := by decide +kernel
theorem dX6_meanPart_70 : decode cX6_meanPart 70 = .ok (.iload 6, 2) := by decide +kernel
theorem dX6_meanPart_72 : decode cX6_meanPart 72 = .ok (.iaload, 1) := by decide +kernel
theorem dX6_meanPart_73 : decode cX6_meanPart 73 = .ok (.i2l, 1) := by decide +kernel
theorem dX6_meanPart_74 : decode cX6_meanPart 74 = .ok (.lmul, 1) := by decide +kernel
theorem dX6_meanPart_75 : decode cX6_meanPart 75 = .ok (.ladd, 1) := by decide +kernel
theorem dX6_meanPart_76 : decode cX6_meanPart 76 = .ok (.lstore_n 2, 1) := by decide +kernel
theorem dX6_meanPart_77 : decode cX6_meanPart 77 = .ok (.lload 4, 2) := by decide +kernel
theorem dX6_meanPart_79 : decode cX6_meanPart 79 = .ok (.aload_n 0, 1) := by decide +kernel
theorem dX6_meanPart_80 : decode cX6_meanPart 80 = .ok (.getfield 9, 3) := by decide +kernel
theorem dX6_meanPart_83 : decode cX6_meanPart 83 = .ok (.iload 6, 2) := by decide +kernel
theorem dX6_meanPart_85 : decode cX6_meanPart 85 = .ok (.iaload, 1) := by decide +kernel
theorem dX6_meanPart_86 : decode cX6_meanPart 86 = .ok (.i2l, 1) := by decide +kernel
theorem dX6_meanPart_87 : decode cX6_meanPart 87 = .ok (.ladd, 1) := by decide +kernel
theorem dX6_meanPart_88 : decode cX6_meanPart 88 = .ok (.lstore 4, 2) := by decide +kernel
theorem dX6_meanPart_90 : decode cX6_meanPart 90 = .ok (.iinc 6 1, 3) := by decide +kernel
theorem dX6_meanPart_93 : decode cX6_meanPart 93 = .ok (.goto (-68), 3) := by decide +kernel
theorem dX6_meanPart_96 : decode cX6_meanPart 96 = .ok (.lload_n 2, 1) := by decide +kernel
theorem dX6_meanPart_97 : decode cX6_meanPart 97 = .ok (.lload 4, 2) := by decide +kernel
theorem dX6_meanPart_99 : decode cX6_meanPart 99 = .ok (.invokestatic 53, 3) := by decide +kernel
theorem dX6_meanPart_102 : decode cX6_meanPart 102 = .ok (.lstore 6, 2) := by decide +kernel
theorem dX6_meanPart_104 : decode cX6_meanPart 104 = .ok (.lload 4, 2) := by decide +kernel
theorem dX6_meanPart_106 : decode cX6_meanPart 106 = .ok (.lconst 0, 1) := by decide +kernel
theorem dX6_meanPart_107 : decode cX6_meanPart 107 = .ok (.lcmp, 1) := by decide +kernel
theorem dX6_meanPart_108 : decode cX6_meanPart 108 = .ok (.ifCond .eq 10, 3) := by decide +kernel
theorem dX6_meanPart_111 : decode cX6_meanPart 111 = .ok (.lload 6, 2) := by decide +kernel
theorem dX6_meanPart_113 : decode cX6_meanPart 113 = .ok (.lconst 0, 1) := by decide +kernel
theorem dX6_meanPart_114 : decode cX6_meanPart 114 = .ok (.lcmp, 1) := by decide +kernel
theorem dX6_meanPart_115 : decode cX6_meanPart 115 = .ok (.ifCond .ne 7, 3) := by decide +kernel
theorem dX6_meanPart_118 : decode cX6_meanPart 118 = .ok (.ldc2_w 48, 3) := by decide +kernel
theorem dX6_meanPart_121 : decode cX6_meanPart 121 = .ok (.lreturn, 1) := by decide +kernel
theorem dX6_meanPart_122 : decode cX6_meanPart 122 = .ok (.iload_n 1, 1) := by decide +kernel
theorem dX6_meanPart_123 : decode cX6_meanPart 123 = .ok (.ifCond .ne 7, 3) := by decide +kernel
theorem dX6_meanPart_126 : decode cX6_meanPart 126 = .ok (.lload_n 2, 1) := by decide +kernel
theorem dX6_meanPart_127 : decode cX6_meanPart 127 = .ok (.goto 5, 3) := by decide +kernel
theorem dX6_meanPart_130 : decode cX6_meanPart 130 = .ok (.lload 4, 2) := by decide +kernel
theorem dX6_meanPart_132 : decode cX6_meanPart 132 = .ok (.lload 6, 2) := by decide +kernel
theorem dX6_meanPart_134 : decode cX6_meanPart 134 = .ok (.ldiv, 1) := by decide +kernel
theorem dX6_meanPart_135 : decode cX6_meanPart 135 = .ok (.lreturn, 1) := by decide +kernel
theorem dX6_findLeasts_0 : decode cX6_findLeasts 0 = .ok (.aload_n 0, 1) := by decide +kernel
theorem dX6_findLeasts_1 : decode cX6_findLeasts 1 = .ok (.getfield 15, 3) := by decide +kernel
theorem dX6_findLeasts_4 : decode cX6_findLeasts 4 = .ok (.iconst (-1), 1) := by decide +kernel
theorem dX6_findLeasts_5 : decode cX6_findLeasts 5 = .ok (.invokestatic 57, 3) := by decide +kernel
theorem dX6_findLeasts_8 : decode cX6_findLeasts 8 = .ok (.iconst 1, 1) := by decide +kernel
theorem dX6_findLeasts_9 : decode cX6_findLeasts 9 = .ok (.istore_n 1, 1) := by decide +kernel
theorem dX6_findLeasts_10 : decode cX6_findLeasts 10 = .ok (.iload_n 1, 1) := by decide +kernel
theorem dX6_findLeasts_11 : decode cX6_findLeasts 11 = .ok (.aload_n 0, 1) := by decide +kernel
theorem dX6_findLeasts_12 : decode cX6_findLeasts 12 = .ok (.getfield 18, 3) := by decide +kernel
theorem dX6_findLeasts_15 : decode cX6_findLeasts 15 = .ok (.invokevirtual 63, 3) := by decide +kernel
theorem dX6_findLeasts_18 : decode cX6_findLeasts 18 = .ok (.if_icmp .ge 79, 3) := by decide +kernel
theorem dX6_findLeasts_21 : decode cX6_findLeasts 21 = .ok (.aload_n 0, 1) := by decide +kernel
theorem dX6_findLeasts_22 : decode cX6_findLeasts 22 = .ok (.getfield 18, 3) := by decide +kernel
theorem dX6_findLeasts_25 : decode cX6_findLeasts 25 = .ok (.iload_n 1, 1) := by decide +kernel
theorem dX6_findLeasts_26 : decode cX6_findLeasts 26 = .ok (.invokevirtual 67, 3) := by decide +kernel
theorem dX6_findLeasts_29 : decode cX6_findLeasts 29 = .ok (.istore_n 2, 1) := by decide +kernel
theorem dX6_findLeasts_30 : decode cX6_findLeasts 30 = .ok (.aload_n 0, 1) := by decide +kernel
theorem dX6_findLeasts_31 : decode cX6_findLeasts 31 = .ok (.getfield 18, 3) := by decide +kernel
theorem dX6_findLeasts_34 : decode cX6_findLeasts 34 = .ok (.iload_n 1, 1) := by decide +kernel
theorem dX6_findLeasts_35 : decode cX6_findLeasts 35 = .ok (.invokevirtual 70, 3) := by decide +kernel
theorem dX6_findLeasts_38 : decode cX6_findLeasts 38 = .ok (.iconst 1, 1) := by decide +kernel
theorem dX6_findLeasts_39 : decode cX6_findLeasts 39 = .ok (.if_icmp .ne 52, 3) := by decide +kernel
theorem dX6_findLeasts_42 : decode cX6_findLeasts 42 = .ok (.iload_n 2, 1) := by decide +kernel
theorem dX6_findLeasts_43 : decode cX6_findLeasts 43 = .ok (.invokestatic 26, 3) := by decide +kernel
theorem dX6_findLeasts_46 : decode cX6_findLeasts 46 = .ok (.ifCond .eq 45, 3) := by decide +kernel
theorem dX6_findLeasts_49 : decode cX6_findLeasts 49 = .ok (.aload_n 0, 1) := by decide +kernel
theorem dX6_findLeasts_50 : decode cX6_findLeasts 50 = .ok (.iload_n 1, 1) := by decide +kernel
theorem dX6_findLeasts_51 : decode cX6_findLeasts 51 = .ok (.invokevirtual 73, 3) := by decide +kernel
theorem dX6_findLeasts_54 : decode cX6_findLeasts 54 = .ok (.istore_n 3, 1) := by decide +kernel
theorem dX6_findLeasts_55 : decode cX6_findLeasts 55 = .ok (.aload_n 0, 1) := by decide +kernel
theorem dX6_findLeasts_56 : decode cX6_findLeasts 56 = .ok (.getfield 15, 3) := by decide +kernel
theorem dX6_findLeasts_59 : decode cX6_findLeasts 59 = .ok (.iload_n 2, 1) := by decide +kernel
theorem dX6_findLeasts_60 : decode cX6_findLeasts 60 = .ok (.bipush 97, 2) := by decide +kernel
theorem dX6_findLeasts_62 : decode cX6_findLeasts 62 = .ok (.isub, 1) := by decide +kernel
theorem dX6_findLeasts_63 : decode cX6_findLeasts 63 = .ok (.iaload, 1) := by decide +kernel
theorem dX6_findLeasts_64 : decode cX6_findLeasts 64 = .ok (.istore 4, 2) := by decide +kernel
theorem dX6_findLeasts_66 : decode cX6_findLeasts 66 = .ok (.aload_n 0, 1) := by decide +kernel
theorem dX6_findLeasts_67 : decode cX6_findLeasts 67 = .ok (.getfield 15, 3) := by decide +kernel
theorem dX6_findLeasts_70 : decode cX6_findLeasts 70 = .ok (.iload_n 2, 1) := by decide +kernel
theorem dX6_findLeasts_71 : decode cX6_findLeasts 71 = .ok (.bipush 97, 2) := by decide +kernel
theorem dX6_findLeasts_73 : decode cX6_findLeasts 73 = .ok (.isub, 1) := by decide +kernel
theorem dX6_findLeasts_74 : decode cX6_findLeasts 74 = .ok (.iload 4, 2) := by decide +kernel
theorem dX6_findLeasts_76 : decode cX6_findLeasts 76 = .ok (.iconst (-1), 1) := by decide +kernel
theorem dX6_findLeasts_77 : decode cX6_findLeasts 77 = .ok (.if_icmp .ne 7, 3) := by decide +kernel
theorem dX6_findLeasts_80 : decode cX6_findLeasts 80 = .ok (.iload_n 3, 1) := by decide +kernel
theorem dX6_findLeasts_81 : decode cX6_findLeasts 81 = .ok (.goto 9, 3) := by decide +kernel
theorem dX6_findLeasts_84 : decode cX6_findLeasts 84 = .ok (.iload 4, 2) := by decide +kernel
theorem dX6_findLeasts_86 : decode cX6_findLeasts 86 = .ok (.iload_n 3, 1) := by decide +kernel
theorem dX6_findLeasts_87 : decode cX6_findLeasts 87 = .ok (.invokestatic 76, 3) := by decide +kernel
theorem dX6_findLeasts_90 : decode cX6_findLeasts 90 = .ok (.iastore, 1) := by decide +kernel
theorem dX6_findLeasts_91 : decode cX6_findLeasts 91 = .ok (.iinc 1 1, 3) := by decide +kernel
theorem dX6_findLeasts_94 : decode cX6_findLeasts 94 = .ok (.goto (-84), 3) := by decide +kernel
theorem dX6_findLeasts_97 : decode cX6_findLeasts 97 = .ok (.return_, 1) := by decide +kernel
theorem dX6_commonDivisor_0 : decode cX6_commonDivisor 0 = .ok (.lload_n 0, 1) := by decide +kernel
theorem dX6_commonDivisor_1 : decode cX6_commonDivisor 1 = .ok (.lstore 4, 2) := by decide +kernel
theorem dX6_commonDivisor_3 : decode cX6_commonDivisor 3 = .ok (.lload_n 2, 1) := by decide +kernel
theorem dX6_commonDivisor_4 : decode cX6_commonDivisor 4 = .ok (.lstore 6, 2) := by decide +kernel
theorem dX6_commonDivisor_6 : decode cX6_commonDivisor 6 = .ok (.iconst 0, 1) := by decide +kernel
theorem dX6_commonDivisor_7 : decode cX6_commonDivisor 7 = .ok (.istore 8, 2) := by decide +kernel
theorem dX6_commonDivisor_9 : decode cX6_commonDivisor 9 = .ok (.iload 8, 2) := by decide +kernel
theorem dX6_commonDivisor_11 : decode cX6_commonDivisor 11 = .ok (.bipush 100, 2) := by decide +kernel
theorem dX6_commonDivisor_13 : decode cX6_commonDivisor 13 = .ok (.if_icmp .ge 31, 3) := by decide +kernel
theorem dX6_commonDivisor_16 : decode cX6_commonDivisor 16 = .ok (.lload 6, 2) := by decide +kernel
theorem dX6_commonDivisor_18 : decode cX6_commonDivisor 18 = .ok (.lconst 0, 1) := by decide +kernel
theorem dX6_commonDivisor_19 : decode cX6_commonDivisor 19 = .ok (.lcmp, 1) := by decide +kernel
theorem dX6_commonDivisor_20 : decode cX6_commonDivisor 20 = .ok (.ifCond .eq 24, 3) := by decide +kernel
theorem dX6_commonDivisor_23 : decode cX6_commonDivisor 23 = .ok (.lload 4, 2) := by decide +kernel
theorem dX6_commonDivisor_25 : decode cX6_commonDivisor 25 = .ok (.lload 6, 2) := by decide +kernel
theorem dX6_commonDivisor_27 : decode cX6_commonDivisor 27 = .ok (.lrem, 1) := by decide +kernel
theorem dX6_commonDivisor_28 : decode cX6_commonDivisor 28 = .ok (.lstore 9, 2) := by decide +kernel
theorem dX6_commonDivisor_30 : decode cX6_commonDivisor 30 = .ok (.lload 6, 2) := by decide +kernel
theorem dX6_commonDivisor_32 : decode cX6_commonDivisor 32 = .ok (.lstore 4, 2) := by decide +kernel
theorem dX6_commonDivisor_34 : decode cX6_commonDivisor 34 = .ok (.lload 9, 2) := by decide +kernel
theorem dX6_commonDivisor_36 : decode cX6_commonDivisor 36 = .ok (.lstore 6, 2) := by decide +kernel
theorem dX6_commonDivisor_38 : decode cX6_commonDivisor 38 = .ok (.iinc 8 1, 3) := by decide +kernel
theorem dX6_commonDivisor_41 : decode cX6_commonDivisor 41 = .ok (.goto (-32), 3) := by decide +kernel
theorem dX6_commonDivisor_44 : decode cX6_commonDivisor 44 = .ok (.lload 4, 2) := by decide +kernel
theorem dX6_commonDivisor_46 : decode cX6_commonDivisor 46 = .ok (.lreturn, 1) := by decide +kernel
theorem dX7_init_0 : decode cX7_init 0 = .ok (.aload_n 0, 1) := by decide +kernel
theorem dX7_init_1 : decode cX7_init 1 = .ok (.invokespecial 3, 3) := by decide +kernel
theorem dX7_init_4 : decode cX7_init 4 = .ok (.aload_n 0, 1) := by decide +kernel
theorem dX7_init_5 : decode cX7_init 5 = .ok (.new 9, 3) := by decide +kernel
theorem dX7_init_8 : decode cX7_init 8 = .ok (.dup, 1) := by decide +kernel
theorem dX7_init_9 : decode cX7_init 9 = .ok (.aconst_null, 1) := by decide +kernel
theorem dX7_init_10 : decode cX7_init 10 = .ok (.iconst 0, 1) := by decide +kernel
theorem dX7_init_11 : decode cX7_init 11 = .ok (.invokespecial 11, 3) := by decide +kernel
theorem dX7_init_14 : decode cX7_init 14 = .ok (.putfield 14, 3) := by decide +kernel
theorem dX7_init_17 : decode cX7_init 17 = .ok (.aload_n 0, 1) := by decide +kernel
theorem dX7_init_18 : decode cX7_init 18 = .ok (.bipush 100, 2) := by decide +kernel
theorem dX7_init_20 : decode cX7_init 20 = .ok (.anewarray 9, 3) := by decide +kernel
theorem dX7_init_23 : decode cX7_init 23 = .ok (.putfield 20, 3) := by decide +kernel
theorem dX7_init_26 : decode cX7_init 26 = .ok (.aload_n 0, 1) := by decide +kernel
theorem dX7_init_27 : decode cX7_init 27 = .ok (.bipush 100, 2) := by decide +kernel
theorem dX7_init_29 : decode cX7_init 29 = .ok (.anewarray 9, 3) := by decide +kernel
theorem dX7_init_32 : decode cX7_init 32 = .ok (.putfield 24, 3) := by decide +kernel
theorem dX7_init_35 : decode cX7_init 35 = .ok (.aload_n 0, 1) := by decide +kernel
theorem dX7_init_36 : decode cX7_init 36 = .ok (.aload_n 0, 1) := by decide +kernel
theorem dX7_init_37 : decode cX7_init 37 = .ok (.getfield 14, 3) := by decide +kernel
theorem dX7_init_40 : decode cX7_init 40 = .ok (.putfield 27, 3) := by decide +kernel
theorem dX7_init_43 : decode cX7_init 43 = .ok (.return_, 1) := by decide +kernel
theorem dX7_part_0 : decode cX7_part 0 = .ok (.iload_n 1, 1) := by decide +kernel
theorem dX7_part_1 : decode cX7_part 1 = .ok (.ifCond .ne 8, 3) := by decide +kernel
theorem dX7_part_4 : decode cX7_part 4 = .ok (.aload_n 0, 1) := by decide +kernel
theorem dX7_part_5 : decode cX7_part 5 = .ok (.getfield 27, 3) := by decide +kernel
theorem dX7_part_8 : decode cX7_part 8 = .ok (.areturn, 1) := by decide +kernel
theorem dX7_part_9 : decode cX7_part 9 = .ok (.iload_n 1, 1) := by decide +kernel
theorem dX7_part_10 : decode cX7_part 10 = .ok (.iconst 1, 1) := by decide +kernel
theorem dX7_part_11 : decode cX7_part 11 = .ok (.if_icmp .ne 10, 3) := by decide +kernel
theorem dX7_part_14 : decode cX7_part 14 = .ok (.aload_n 0, 1) := by decide +kernel
theorem dX7_part_15 : decode cX7_part 15 = .ok (.getfield 30, 3) := by decide +kernel
theorem dX7_part_18 : decode cX7_part 18 = .ok (.goto 4, 3) := by decide +kernel
theorem dX7_part_21 : decode cX7_part 21 = .ok (.aconst_null, 1) := by decide +kernel
theorem dX7_part_22 : decode cX7_part 22 = .ok (.areturn, 1) := by decide +kernel
theorem dX7_undoable_0 : decode cX7_undoable 0 = .ok (.aload_n 0, 1) := by decide +kernel
theorem dX7_undoable_1 : decode cX7_undoable 1 = .ok (.getfield 33, 3) := by decide +kernel
theorem dX7_undoable_4 : decode cX7_undoable 4 = .ok (.ireturn, 1) := by decide +kernel
theorem dX7_written_0 : decode cX7_written 0 = .ok (.aload_n 0, 1) := by decide +kernel
theorem dX7_written_1 : decode cX7_written 1 = .ok (.getfield 27, 3) := by decide +kernel
theorem dX7_written_4 : decode cX7_written 4 = .ok (.astore_n 1, 1) := by decide +kernel
theorem dX7_written_5 : decode cX7_written 5 = .ok (.iconst 0, 1) := by decide +kernel
theorem dX7_written_6 : decode cX7_written 6 = .ok (.istore_n 2, 1) := by decide +kernel
theorem dX7_written_7 : decode cX7_written 7 = .ok (.iload_n 2, 1) := by decide +kernel
theorem dX7_written_8 : decode cX7_written 8 = .ok (.sipush 200, 3) := by decide +kernel
theorem dX7_written_11 : decode cX7_written 11 = .ok (.if_icmp .ge 31, 3) := by decide +kernel
theorem dX7_written_14 : decode cX7_written 14 = .ok (.aload_n 1, 1) := by decide +kernel
theorem dX7_written_15 : decode cX7_written 15 = .ok (.getfield 37, 3) := by decide +kernel
theorem dX7_written_18 : decode cX7_written 18 = .ok (.ifnull 24, 3) := by decide +kernel
theorem dX7_written_21 : decode cX7_written 21 = .ok (.aload_n 1, 1) := by decide +kernel
theorem dX7_written_22 : decode cX7_written 22 = .ok (.getfield 40, 3) := by decide +kernel
theorem dX7_written_25 : decode cX7_written 25 = .ok (.invokestatic 43, 3) := by decide +kernel
theorem dX7_written_28 : decode cX7_written 28 = .ok (.ifCond .eq 14, 3) := by decide +kernel
theorem dX7_written_31 : decode cX7_written 31 = .ok (.aload_n 1, 1) := by decide +kernel
theorem dX7_written_32 : decode cX7_written 32 = .ok (.getfield 37, 3) := by decide +kernel
theorem dX7_written_35 : decode cX7_written 35 = .ok (.astore_n 1, 1) := by decide +kernel
theorem dX7_written_36 : decode cX7_written 36 = .ok (.iinc 2 1, 3) := by decide +kernel
theorem dX7_written_39 : decode cX7_written 39 = .ok (.goto (-32), 3) := by decide +kernel
theorem dX7_written_42 : decode cX7_written 42 = .ok (.iload_n 2, 1) := by decide +kernel
theorem dX7_written_43 : decode cX7_written 43 = .ok (.ireturn, 1) := by decide +kernel
theorem dX7_copyLast_0 : decode cX7_copyLast 0 = .ok (.aload_n 0, 1) := by decide +kernel
theorem dX7_copyLast_1 : decode cX7_copyLast 1 = .ok (.getfield 27, 3) := by decide +kernel
theorem dX7_copyLast_4 : decode cX7_copyLast 4 = .ok (.astore_n 3, 1) := by decide +kernel
theorem dX7_copyLast_5 : decode cX7_copyLast 5 = .ok (.iload_n 1, 1) := by decide +kernel
theorem dX7_copyLast_6 : decode cX7_copyLast 6 = .ok (.iconst 1, 1) := by decide +kernel
theorem dX7_copyLast_7 : decode cX7_copyLast 7 = .ok (.isub, 1) := by decide +kernel
theorem dX7_copyLast_8 : decode cX7_copyLast 8 = .ok (.istore 4, 2) := by decide +kernel
theorem dX7_copyLast_10 : decode cX7_copyLast 10 = .ok (.iload 4, 2) := by decide +kernel
theorem dX7_copyLast_12 : decode cX7_copyLast 12 = .ok (.ifCond .lt 36, 3) := by decide +kernel
theorem dX7_copyLast_15 : decode cX7_copyLast 15 = .ok (.iload 4, 2) := by decide +kernel
theorem dX7_copyLast_17 : decode cX7_copyLast 17 = .ok (.aload_n 2, 1) := by decide +kernel
theorem dX7_copyLast_18 : decode cX7_copyLast 18 = .ok (.arraylength, 1) := by decide +kernel
theorem dX7_copyLast_19 : decode cX7_copyLast 19 = .ok (.if_icmp .ge 29, 3) := by decide +kernel
theorem dX7_copyLast_22 : decode cX7_copyLast 22 = .ok (.aload_n 3, 1) := by decide +kernel
theorem dX7_copyLast_23 : decode cX7_copyLast 23 = .ok (.getfield 37, 3) := by decide +kernel
theorem dX7_copyLast_26 : decode cX7_copyLast 26 = .ok (.ifnull 22, 3) := by decide +kernel
theorem dX7_copyLast_29 : decode cX7_copyLast 29 = .ok (.aload_n 2, 1) := by decide +kernel
theorem dX7_copyLast_30 : decode cX7_copyLast 30 = .ok (.iload 4, 2) := by decide +kernel
theorem dX7_copyLast_32 : decode cX7_copyLast 32 = .ok (.aload_n 3, 1) := by decide +kernel
theorem dX7_copyLast_33 : decode cX7_copyLast 33 = .ok (.getfield 40, 3) := by decide +kernel
theorem dX7_copyLast_36 : decode cX7_copyLast 36 = .ok (.iastore, 1) := by decide +kernel
theorem dX7_copyLast_37 : decode cX7_copyLast 37 = .ok (.aload_n 3, 1) := by decide +kernel
theorem dX7_copyLast_38 : decode cX7_copyLast 38 = .ok (.getfield 37, 3) := by decide +kernel
theorem dX7_copyLast_41 : decode cX7_copyLast 41 = .ok (.astore_n 3, 1) := by decide +kernel
theorem dX7_copyLast_42 : decode cX7_copyLast 42 = .ok (.iinc 4 (-1), 3) := by decide +kernel
theorem dX7_copyLast_45 : decode cX7_copyLast 45 = .ok (.goto (-35), 3) := by decide +kernel
theorem dX7_copyLast_48 : decode cX7_copyLast 48 = .ok (.return_, 1) := by decide +kernel
theorem dX7_write_0 : decode cX7_write 0 = .ok (.aload_n 0, 1) := by decide +kernel
theorem dX7_write_1 : decode cX7_write 1 = .ok (.getfield 27, 3) := by decide +kernel
theorem dX7_write_4 : decode cX7_write 4 = .ok (.getfield 47, 3) := by decide +kernel
theorem dX7_write_7 : decode cX7_write 7 = .ok (.sipush 200, 3) := by decide +kernel
theorem dX7_write_10 : decode cX7_write 10 = .ok (.if_icmp .ge 23, 3) := by decide +kernel
theorem dX7_write_13 : decode cX7_write 13 = .ok (.aload_n 0, 1) := by decide +kernel
theorem dX7_write_14 : decode cX7_write 14 = .ok (.invokevirtual 50, 3) := by decide +kernel
theorem dX7_write_17 : decode cX7_write 17 = .ok (.aload_n 0, 1) := by decide +kernel
theorem dX7_write_18 : decode cX7_write 18 = .ok (.new 9, 3) := by decide +kernel
theorem dX7_write_21 : decode cX7_write 21 = .ok (.dup, 1) := by decide +kernel
theorem dX7_write_22 : decode cX7_write 22 = .ok (.aload_n 0, 1) := by decide +kernel
theorem dX7_write_23 : decode cX7_write 23 = .ok (.getfield 27, 3) := by decide +kernel
theorem dX7_write_26 : decode cX7_write 26 = .ok (.iload_n 1, 1) := by decide +kernel
theorem dX7_write_27 : decode cX7_write 27 = .ok (.invokespecial 11, 3) := by decide +kernel
theorem dX7_write_30 : decode cX7_write 30 = .ok (.putfield 27, 3) := by decide +kernel
theorem dX7_write_33 : decode cX7_write 33 = .ok (.return_, 1) := by decide +kernel
theorem dX7_dropLast_0 : decode cX7_dropLast 0 = .ok (.aload_n 0, 1) := by decide +kernel
theorem dX7_dropLast_1 : decode cX7_dropLast 1 = .ok (.getfield 27, 3) := by decide +kernel
theorem dX7_dropLast_4 : decode cX7_dropLast 4 = .ok (.getfield 47, 3) := by decide +kernel
theorem dX7_dropLast_7 : decode cX7_dropLast 7 = .ok (.ifCond .le 19, 3) := by decide +kernel
theorem dX7_dropLast_10 : decode cX7_dropLast 10 = .ok (.aload_n 0, 1) := by decide +kernel
theorem dX7_dropLast_11 : decode cX7_dropLast 11 = .ok (.invokevirtual 50, 3) := by decide +kernel
theorem dX7_dropLast_14 : decode cX7_dropLast 14 = .ok (.aload_n 0, 1) := by decide +kernel
theorem dX7_dropLast_15 : decode cX7_dropLast 15 = .ok (.aload_n 0, 1) := by decide +kernel
theorem dX7_dropLast_16 : decode cX7_dropLast 16 = .ok (.getfield 27, 3) := by decide +kernel
theorem dX7_dropLast_19 : decode cX7_dropLast 19 = .ok (.iconst 1, 1) := by decide +kernel
theorem dX7_dropLast_20 : decode cX7_dropLast 20 = .ok (.invokevirtual 53, 3) := by decide +kernel
theorem dX7_dropLast_23 : decode cX7_dropLast 23 = .ok (.putfield 27, 3) := by decide +kernel
theorem dX7_dropLast_26 : decode cX7_dropLast 26 = .ok (.return_, 1) := by decide +kernel
theorem dX7_speak_0 : decode cX7_speak 0 = .ok (.aload_n 0, 1) := by decide +kernel
theorem dX7_speak_1 : decode cX7_speak 1 = .ok (.getfield 27, 3) := by decide +kernel
theorem dX7_speak_4 : decode cX7_speak 4 = .ok (.getfield 47, 3) := by decide +kernel
theorem dX7_speak_7 : decode cX7_speak 7 = .ok (.ifCond .gt 20, 3) := by decide +kernel
theorem dX7_speak_10 : decode cX7_speak 10 = .ok (.aload_n 0, 1) := by decide +kernel
theorem dX7_speak_11 : decode cX7_speak 11 = .ok (.getfield 30, 3) := by decide +kernel
theorem dX7_speak_14 : decode cX7_speak 14 = .ok (.ifnull 13, 3) := by decide +kernel
theorem dX7_speak_17 : decode cX7_speak 17 = .ok (.aload_n 0, 1) := by decide +kernel
theorem dX7_speak_18 : decode cX7_speak 18 = .ok (.getfield 30, 3) := by decide +kernel
theorem dX7_speak_21 : decode cX7_speak 21 = .ok (.getfield 47, 3) := by decide +kernel
theorem dX7_speak_24 : decode cX7_speak 24 = .ok (.ifCond .le 23, 3) := by decide +kernel
theorem dX7_speak_27 : decode cX7_speak 27 = .ok (.aload_n 0, 1) := by decide +kernel
theorem dX7_speak_28 : decode cX7_speak 28 = .ok (.invokevirtual 50, 3) := by decide +kernel
theorem dX7_speak_31 : decode cX7_speak 31 = .ok (.aload_n 0, 1) := by decide +kernel
theorem dX7_speak_32 : decode cX7_speak 32 = .ok (.aload_n 0, 1) := by decide +kernel
theorem dX7_speak_33 : decode cX7_speak 33 = .ok (.getfield 27, 3) := by decide +kernel
theorem dX7_speak_36 : decode cX7_speak 36 = .ok (.putfield 30, 3) := by decide +kernel
theorem dX7_speak_39 : decode cX7_speak 39 = .ok (.aload_n 0, 1) := by decide +kernel
theorem dX7_speak_40 : decode cX7_speak 40 = .ok (.aload_n 0, 1) := by decide +kernel
theorem dX7_speak_41 : decode cX7_speak 41 = .ok (.getfield 14, 3) := by decide +kernel
theorem dX7_speak_44 : decode cX7_speak 44 = .ok (.putfield 27, 3) := by decide +kernel
theorem dX7_speak_47 : decode cX7_speak 47 = .ok (.return_, 1) := by decide +kernel
theorem dX7_complete_0 : decode cX7_complete 0 = .ok (.aload_n 1, 1) := by decide +kernel
theorem dX7_complete_1 : decode cX7_complete 1 = .ok (.iload_n 2, 1) := by decide +kernel
theorem dX7_complete_2 : decode cX7_complete 2 = .ok (.invokevirtual 57, 3) := by decide +kernel
theorem dX7_complete_5 : decode cX7_complete 5 = .ok (.istore 4, 2) := by decide +kernel
theorem dX7_complete_7 : decode cX7_complete 7 = .ok (.aload_n 0, 1) := by decide +kernel
theorem dX7_complete_8 : decode cX7_complete 8 = .ok (.invokevirtual 63, 3) := by decide +kernel
theorem dX7_complete_11 : decode cX7_complete 11 = .ok (.istore 5, 2) := by decide +kernel
theorem dX7_complete_13 : decode cX7_complete 13 = .ok (.iload 4, 2) := by decide +kernel
theorem dX7_complete_15 : decode cX7_complete 15 = .ok (.ifCond .eq 32, 3) := by decide +kernel
theorem dX7_complete_18 : decode cX7_complete 18 = .ok (.aload_n 0, 1) := by decide +kernel
theorem dX7_complete_19 : decode cX7_complete 19 = .ok (.getfield 27, 3) := by decide +kernel
theorem dX7_complete_22 : decode cX7_complete 22 = .ok (.getfield 47, 3) := by decide +kernel
theorem dX7_complete_25 : decode cX7_complete 25 = .ok (.iload 5, 2) := by decide +kernel
theorem dX7_complete_27 : decode cX7_complete 27 = .ok (.isub, 1) := by decide +kernel
theorem dX7_complete_28 : decode cX7_complete 28 = .ok (.iload 4, 2) := by decide +kernel
theorem dX7_complete_30 : decode cX7_complete 30 = .ok (.iadd, 1) := by decide +kernel
theorem dX7_complete_31 : decode cX7_complete 31 = .ok (.iload_n 3, 1) := by decide +kernel
theorem dX7_complete_32 : decode cX7_complete 32 = .ok (.ifCond .eq 7, 3) := by decide +kernel
theorem dX7_complete_35 : decode cX7_complete 35 = .ok (.iconst 1, 1) := by decide +kernel
theorem dX7_complete_36 : decode cX7_complete 36 = .ok (.goto 4, 3) := by decide +kernel
theorem dX7_complete_39 : decode cX7_complete 39 = .ok (.iconst 0, 1) := by decide +kernel
theorem dX7_complete_40 : decode cX7_complete 40 = .ok (.iadd, 1) := by decide +kernel
theorem dX7_complete_41 : decode cX7_complete 41 = .ok (.sipush 200, 3) := by decide +kernel
theorem dX7_complete_44 : decode cX7_complete 44 = .ok (.if_icmp .le 4, 3) := by decide +kernel
theorem dX7_complete_47 : decode cX7_complete 47 = .ok (.return_, 1) := by decide +kernel
theorem dX7_complete_48 : decode cX7_complete 48 = .ok (.aload_n 0, 1) := by decide +kernel
theorem dX7_complete_49 : decode cX7_complete 49 = .ok (.invokevirtual 50, 3) := by decide +kernel
theorem dX7_complete_52 : decode cX7_complete 52 = .ok (.aload_n 0, 1) := by decide +kernel
theorem dX7_complete_53 : decode cX7_complete 53 = .ok (.aload_n 0, 1) := by decide +kernel
theorem dX7_complete_54 : decode cX7_complete 54 = .ok (.getfield 27, 3) := by decide +kernel
theorem dX7_complete_57 : decode cX7_complete 57 = .ok (.iload 5, 2) := by decide +kernel
theorem dX7_complete_59 : decode cX7_complete 59 = .ok (.invokevirtual 53, 3) := by decide +kernel
theorem dX7_complete_62 : decode cX7_complete 62 = .ok (.putfield 27, 3) := by decide +kernel
theorem dX7_complete_65 : decode cX7_complete 65 = .ok (.iconst 0, 1) := by decide +kernel
theorem dX7_complete_66 : decode cX7_complete 66 = .ok (.istore 6, 2) := by decide +kernel
theorem dX7_complete_68 : decode cX7_complete 68 = .ok (.iload 6, 2) := by decide +kernel
theorem dX7_complete_70 : decode cX7_complete 70 = .ok (.iload 4, 2) := by decide +kernel
theorem dX7_complete_72 : decode cX7_complete 72 = .ok (.if_icmp .ge 31, 3) := by decide +kernel
theorem dX7_complete_75 : decode cX7_complete 75 = .ok (.aload_n 0, 1) := by decide +kernel
theorem dX7_complete_76 : decode cX7_complete 76 = .ok (.new 9, 3) := by decide +kernel
theorem dX7_complete_79 : decode cX7_complete 79 = .ok (.dup, 1) := by decide +kernel
theorem dX7_complete_80 : decode cX7_complete 80 = .ok (.aload_n 0, 1) := by decide +kernel
theorem dX7_complete_81 : decode cX7_complete 81 = .ok (.getfield 27, 3) := by decide +kernel
theorem dX7_complete_84 : decode cX7_complete 84 = .ok (.aload_n 1, 1) := by decide +kernel
theorem dX7_complete_85 : decode cX7_complete 85 = .ok (.iload_n 2, 1) := by decide +kernel
theorem dX7_complete_86 : decode cX7_complete 86 = .ok (.iload 6, 2) := by decide +kernel
theorem dX7_complete_88 : decode cX7_complete 88 = .ok (.invokevirtual 67, 3) := by decide +kernel
theorem dX7_complete_91 : decode cX7_complete 91 = .ok (.invokespecial 11, 3) := by decide +kernel
theorem dX7_complete_94 : decode cX7_complete 94 = .ok (.putfield 27, 3) := by decide +kernel
theorem dX7_complete_97 : decode cX7_complete 97 = .ok (.iinc 6 1, 3) := by decide +kernel
theorem dX7_complete_100 : decode cX7_complete 100 = .ok (.goto (-32), 3) := by decide +kernel
theorem dX7_complete_103 : decode cX7_complete 103 = .ok (.iload_n 3, 1) := by decide +kernel
theorem dX7_complete_104 : decode cX7_complete 104 = .ok (.ifCond .eq 20, 3) := by decide +kernel
theorem dX7_complete_107 : decode cX7_complete 107 = .ok (.aload_n 0, 1) := by decide +kernel
theorem dX7_complete_108 : decode cX7_complete 108 = .ok (.new 9, 3) := by decide +kernel
theorem dX7_complete_111 : decode cX7_complete 111 = .ok (.dup, 1) := by decide +kernel
theorem dX7_complete_112 : decode cX7_complete 112 = .ok (.aload_n 0, 1) := by decide +kernel
theorem dX7_complete_113 : decode cX7_complete 113 = .ok (.getfield 27, 3) := by decide +kernel
theorem dX7_complete_116 : decode cX7_complete 116 = .ok (.bipush 32, 2) := by decide +kernel
theorem dX7_complete_118 : decode cX7_complete 118 = .ok (.invokespecial 11, 3) := by decide +kernel
theorem dX7_complete_121 : decode cX7_complete 121 = .ok (.putfield 27, 3) := by decide +kernel
theorem dX7_complete_124 : decode cX7_complete 124 = .ok (.return_, 1) := by decide +kernel
theorem dX7_takeBack_0 : decode cX7_takeBack 0 = .ok (.aload_n 0, 1) := by decide +kernel
theorem dX7_takeBack_1 : decode cX7_takeBack 1 = .ok (.getfield 33, 3) := by decide +kernel
theorem dX7_takeBack_4 : decode cX7_takeBack 4 = .ok (.ifCond .le 62, 3) := by decide +kernel
theorem dX7_takeBack_7 : decode cX7_takeBack 7 = .ok (.aload_n 0, 1) := by decide +kernel
theorem dX7_takeBack_8 : decode cX7_takeBack 8 = .ok (.dup, 1) := by decide +kernel
theorem dX7_takeBack_9 : decode cX7_takeBack 9 = .ok (.getfield 33, 3) := by decide +kernel
theorem dX7_takeBack_12 : decode cX7_takeBack 12 = .ok (.iconst 1, 1) := by decide +kernel
theorem dX7_takeBack_13 : decode cX7_takeBack 13 = .ok (.isub, 1) := by decide +kernel
theorem dX7_takeBack_14 : decode cX7_takeBack 14 = .ok (.putfield 33, 3) := by decide +kernel
theorem dX7_takeBack_17 : decode cX7_takeBack 17 = .ok (.aload_n 0, 1) := by decide +kernel
theorem dX7_takeBack_18 : decode cX7_takeBack 18 = .ok (.getfield 71, 3) := by decide +kernel
theorem dX7_takeBack_21 : decode cX7_takeBack 21 = .ok (.aload_n 0, 1) := by decide +kernel
theorem dX7_takeBack_22 : decode cX7_takeBack 22 = .ok (.getfield 33, 3) := by decide +kernel
theorem dX7_takeBack_25 : decode cX7_takeBack 25 = .ok (.iadd, 1) := by decide +kernel
theorem dX7_takeBack_26 : decode cX7_takeBack 26 = .ok (.bipush 100, 2) := by decide +kernel
theorem dX7_takeBack_28 : decode cX7_takeBack 28 = .ok (.irem, 1) := by decide +kernel
theorem dX7_takeBack_29 : decode cX7_takeBack 29 = .ok (.istore_n 1, 1) := by decide +kernel
theorem dX7_takeBack_30 : decode cX7_takeBack 30 = .ok (.aload_n 0, 1) := by decide +kernel
theorem dX7_takeBack_31 : decode cX7_takeBack 31 = .ok (.aload_n 0, 1) := by decide +kernel
theorem dX7_takeBack_32 : decode cX7_takeBack 32 = .ok (.getfield 20, 3) := by decide +kernel
theorem dX7_takeBack_35 : decode cX7_takeBack 35 = .ok (.iload_n 1, 1) := by decide +kernel
theorem dX7_takeBack_36 : decode cX7_takeBack 36 = .ok (.aaload, 1) := by decide +kernel
theorem dX7_takeBack_37 : decode cX7_takeBack 37 = .ok (.ifnonnull 10, 3) := by decide +kernel
theorem dX7_takeBack_40 : decode cX7_takeBack 40 = .ok (.aload_n 0, 1) := by decide +kernel
theorem dX7_takeBack_41 : decode cX7_takeBack 41 = .ok (.getfield 14, 3) := by decide +kernel
theorem dX7_takeBack_44 : decode cX7_takeBack 44 = .ok (.goto 9, 3) := by decide +kernel
theorem dX7_takeBack_47 : decode cX7_takeBack 47 = .ok (.aload_n 0, 1) := by decide +kernel
theorem dX7_takeBack_48 : decode cX7_takeBack 48 = .ok (.getfield 20, 3) := by decide +kernel
theorem dX7_takeBack_51 : decode cX7_takeBack 51 = .ok (.iload_n 1, 1) := by decide +kernel
theorem dX7_takeBack_52 : decode cX7_takeBack 52 = .ok (.aaload, 1) := by decide +kernel
theorem dX7_takeBack_53 : decode cX7_takeBack 53 = .ok (.putfield 27, 3) := by decide +kernel
theorem dX7_takeBack_56 : decode cX7_takeBack 56 = .ok (.aload_n 0, 1) := by decide +kernel
theorem dX7_takeBack_57 : decode cX7_takeBack 57 = .ok (.aload_n 0, 1) := by decide +kernel
theorem dX7_takeBack_58 : decode cX7_takeBack 58 = .ok (.getfield 24, 3) := by decide +kernel
theorem dX7_takeBack_61 : decode cX7_takeBack 61 = .ok (.iload_n 1, 1) := by decide +kernel
theorem dX7_takeBack_62 : decode cX7_takeBack 62 = .ok (.aaload, 1) := by decide +kernel
theorem dX7_takeBack_63 : decode cX7_takeBack 63 = .ok (.putfield 30, 3) := by decide +kernel
theorem dX7_takeBack_66 : decode cX7_takeBack 66 = .ok (.return_, 1) := by decide +kernel
theorem dX7_keep_0 : decode cX7_keep 0 = .ok (.aload_n 0, 1) := by decide +kernel
theorem dX7_keep_1 : decode cX7_keep 1 = .ok (.getfield 71, 3) := by decide +kernel
theorem dX7_keep_4 : decode cX7_keep 4 = .ok (.aload_n 0, 1) := by decide +kernel
theorem dX7_keep_5 : decode cX7_keep 5 = .ok (.getfield 33, 3) := by decide +kernel
theorem dX7_keep_8 : decode cX7_keep 8 = .ok (.iadd, 1) := by decide +kernel
theorem dX7_keep_9 : decode cX7_keep 9 = .ok (.bipush 100, 2) := by decide +kernel
theorem dX7_keep_11 : decode cX7_keep 11 = .ok (.irem, 1) := by decide +kernel
theorem dX7_keep_12 : decode cX7_keep 12 = .ok (.istore_n 1, 1) := by decide +kernel
theorem dX7_keep_13 : decode cX7_keep 13 = .ok (.aload_n 0, 1) := by decide +kernel
theorem dX7_keep_14 : decode cX7_keep 14 = .ok (.getfield 20, 3) := by decide +kernel
theorem dX7_keep_17 : decode cX7_keep 17 = .ok (.iload_n 1, 1) := by decide +kernel
theorem dX7_keep_18 : decode cX7_keep 18 = .ok (.aload_n 0, 1) := by decide +kernel
theorem dX7_keep_19 : decode cX7_keep 19 = .ok (.getfield 27, 3) := by decide +kernel
theorem dX7_keep_22 : decode cX7_keep 22 = .ok (.aastore, 1) := by decide +kernel
theorem dX7_keep_23 : decode cX7_keep 23 = .ok (.aload_n 0, 1) := by decide +kernel
theorem dX7_keep_24 : decode cX7_keep 24 = .ok (.getfield 24, 3) := by decide +kernel
theorem dX7_keep_27 : decode cX7_keep 27 = .ok (.iload_n 1, 1) := by decide +kernel
theorem dX7_keep_28 : decode cX7_keep 28 = .ok (.aload_n 0, 1) := by decide +kernel
theorem dX7_keep_29 : decode cX7_keep 29 = .ok (.getfield 30, 3) := by decide +kernel
theorem dX7_keep_32 : decode cX7_keep 32 = .ok (.aastore, 1) := by decide +kernel
theorem dX7_keep_33 : decode cX7_keep 33 = .ok (.aload_n 0, 1) := by decide +kernel
theorem dX7_keep_34 : decode cX7_keep 34 = .ok (.getfield 33, 3) := by decide +kernel
theorem dX7_keep_37 : decode cX7_keep 37 = .ok (.bipush 100, 2) := by decide +kernel
theorem dX7_keep_39 : decode cX7_keep 39 = .ok (.if_icmp .ge 16, 3) := by decide +kernel
theorem dX7_keep_42 : decode cX7_keep 42 = .ok (.aload_n 0, 1) := by decide +kernel
theorem dX7_keep_43 : decode cX7_keep 43 = .ok (.dup, 1) := by decide +kernel
theorem dX7_keep_44 : decode cX7_keep 44 = .ok (.getfield 33, 3) := by decide +kernel
theorem dX7_keep_47 : decode cX7_keep 47 = .ok (.iconst 1, 1) := by decide +kernel
theorem dX7_keep_48 : decode cX7_keep 48 = .ok (.iadd, 1) := by decide +kernel
theorem dX7_keep_49 : decode cX7_keep 49 = .ok (.putfield 33, 3) := by decide +kernel
theorem dX7_keep_52 : decode cX7_keep 52 = .ok (.goto 16, 3) := by decide +kernel
theorem dX7_keep_55 : decode cX7_keep 55 = .ok (.aload_n 0, 1) := by decide +kernel
theorem dX7_keep_56 : decode cX7_keep 56 = .ok (.aload_n 0, 1) := by decide +kernel
theorem dX7_keep_57 : decode cX7_keep 57 = .ok (.getfield 71, 3) := by decide +kernel
theorem dX7_keep_60 : decode cX7_keep 60 = .ok (.iconst 1, 1) := by decide +kernel
theorem dX7_keep_61 : decode cX7_keep 61 = .ok (.iadd, 1) := by decide +kernel
theorem dX7_keep_62 : decode cX7_keep 62 = .ok (.bipush 100, 2) := by decide +kernel
theorem dX7_keep_64 : decode cX7_keep 64 = .ok (.irem, 1) := by decide +kernel
theorem dX7_keep_65 : decode cX7_keep 65 = .ok (.putfield 71, 3) := by decide +kernel
theorem dX7_keep_68 : decode cX7_keep 68 = .ok (.return_, 1) := by decide +kernel
theorem dX8_init_0 : decode cX8_init 0 = .ok (.aload_n 0, 1) := by decide +kernel
theorem dX8_init_1 : decode cX8_init 1 = .ok (.invokespecial 3, 3) := by decide +kernel
theorem dX8_init_4 : decode cX8_init 4 = .ok (.aload_n 0, 1) := by decide +kernel
theorem dX8_init_5 : decode cX8_init 5 = .ok (.bipush 26, 2) := by decide +kernel
theorem dX8_init_7 : decode cX8_init 7 = .ok (.newarray .int, 2) := by decide +kernel
theorem dX8_init_9 : decode cX8_init 9 = .ok (.putfield 11, 3) := by decide +kernel
theorem dX8_init_12 : decode cX8_init 12 = .ok (.return_, 1) := by decide +kernel
theorem dX8_take_0 : decode cX8_take 0 = .ok (.iconst 0, 1) := by decide +kernel
theorem dX8_take_1 : decode cX8_take 1 = .ok (.istore_n 3, 1) := by decide +kernel
theorem dX8_take_2 : decode cX8_take 2 = .ok (.iconst 0, 1) := by decide +kernel
theorem dX8_take_3 : decode cX8_take 3 = .ok (.istore 4, 2) := by decide +kernel
theorem dX8_take_5 : decode cX8_take 5 = .ok (.iload 4, 2) := by decide +kernel
theorem dX8_take_7 : decode cX8_take 7 = .ok (.bipush 8, 2) := by decide +kernel
theorem dX8_take_9 : decode cX8_take 9 = .ok (.if_icmp .ge 22, 3) := by decide +kernel
theorem dX8_take_12 : decode cX8_take 12 = .ok (.iload_n 1, 1) := by decide +kernel
theorem dX8_take_13 : decode cX8_take 13 = .ok (.iload_n 2, 1) := by decide +kernel
theorem dX8_take_14 : decode cX8_take 14 = .ok (.iload 4, 2) := by decide +kernel
theorem dX8_take_16 : decode cX8_take 16 = .ok (.invokestatic 15, 3) := by decide +kernel
theorem dX8_take_19 : decode cX8_take 19 = .ok (.ifCond .eq 6, 3) := by decide +kernel
theorem dX8_take_22 : decode cX8_take 22 = .ok (.iinc 3 1, 3) := by decide +kernel
theorem dX8_take_25 : decode cX8_take 25 = .ok (.iinc 4 1, 3) := by decide +kernel
theorem dX8_take_28 : decode cX8_take 28 = .ok (.goto (-23), 3) := by decide +kernel
theorem dX8_take_31 : decode cX8_take 31 = .ok (.aload_n 0, 1) := by decide +kernel
theorem dX8_take_32 : decode cX8_take 32 = .ok (.getfield 19, 3) := by decide +kernel
theorem dX8_take_35 : decode cX8_take 35 = .ok (.iload_n 3, 1) := by decide +kernel
theorem dX8_take_36 : decode cX8_take 36 = .ok (.iadd, 1) := by decide +kernel
theorem dX8_take_37 : decode cX8_take 37 = .ok (.bipush 26, 2) := by decide +kernel
theorem dX8_take_39 : decode cX8_take 39 = .ok (.if_icmp .le 5, 3) := by decide +kernel
theorem dX8_take_42 : decode cX8_take 42 = .ok (.iconst (-1), 1) := by decide +kernel
theorem dX8_take_43 : decode cX8_take 43 = .ok (.ireturn, 1) := by decide +kernel
theorem dX8_take_44 : decode cX8_take 44 = .ok (.iconst 0, 1) := by decide +kernel
theorem dX8_take_45 : decode cX8_take 45 = .ok (.istore 4, 2) := by decide +kernel
theorem dX8_take_47 : decode cX8_take 47 = .ok (.iload 4, 2) := by decide +kernel
theorem dX8_take_49 : decode cX8_take 49 = .ok (.bipush 8, 2) := by decide +kernel
theorem dX8_take_51 : decode cX8_take 51 = .ok (.if_icmp .ge 53, 3) := by decide +kernel
theorem dX8_take_54 : decode cX8_take 54 = .ok (.aload_n 0, 1) := by decide +kernel
theorem dX8_take_55 : decode cX8_take 55 = .ok (.getfield 19, 3) := by decide +kernel
theorem dX8_take_58 : decode cX8_take 58 = .ok (.bipush 26, 2) := by decide +kernel
theorem dX8_take_60 : decode cX8_take 60 = .ok (.if_icmp .ge 44, 3) := by decide +kernel
theorem dX8_take_63 : decode cX8_take 63 = .ok (.iload_n 1, 1) := by decide +kernel
theorem dX8_take_64 : decode cX8_take 64 = .ok (.iload_n 2, 1) := by decide +kernel
theorem dX8_take_65 : decode cX8_take 65 = .ok (.iload 4, 2) := by decide +kernel
theorem dX8_take_67 : decode cX8_take 67 = .ok (.invokestatic 15, 3) := by decide +kernel
theorem dX8_take_70 : decode cX8_take 70 = .ok (.istore 5, 2) := by decide +kernel
theorem dX8_take_72 : decode cX8_take 72 = .ok (.iload 5, 2) := by decide +kernel
theorem dX8_take_74 : decode cX8_take 74 = .ok (.ifCond .eq 24, 3) := by decide +kernel
theorem dX8_take_77 : decode cX8_take 77 = .ok (.aload_n 0, 1) := by decide +kernel
theorem dX8_take_78 : decode cX8_take 78 = .ok (.getfield 11, 3) := by decide +kernel
theorem dX8_take_81 : decode cX8_take 81 = .ok (.aload_n 0, 1) := by decide +kernel
theorem dX8_take_82 : decode cX8_take 82 = .ok (.getfield 19, 3) := by decide +kernel
theorem dX8_take_85 : decode cX8_take 85 = .ok (.iload 5, 2) := by decide +kernel
theorem dX8_take_87 : decode cX8_take 87 = .ok (.iastore, 1) := by decide +kernel
theorem dX8_take_88 : decode cX8_take 88 = .ok (.aload_n 0, 1) := by decide +kernel
theorem dX8_take_89 : decode cX8_take 89 = .ok (.dup, 1) := by decide +kernel
theorem dX8_take_90 : decode cX8_take 90 = .ok (.getfield 19, 3) := by decide +kernel
theorem dX8_take_93 : decode cX8_take 93 = .ok (.iconst 1, 1) := by decide +kernel
theorem dX8_take_94 : decode cX8_take 94 = .ok (.iadd, 1) := by decide +kernel
theorem dX8_take_95 : decode cX8_take 95 = .ok (.putfield 19, 3) := by decide +kernel
theorem dX8_take_98 : decode cX8_take 98 = .ok (.iinc 4 1, 3) := by decide +kernel
theorem dX8_take_101 : decode cX8_take 101 = .ok (.goto (-54), 3) := by decide +kernel
theorem dX8_take_104 : decode cX8_take 104 = .ok (.aload_n 0, 1) := by decide +kernel
theorem dX8_take_105 : decode cX8_take 105 = .ok (.getfield 19, 3) := by decide +kernel
theorem dX8_take_108 : decode cX8_take 108 = .ok (.ireturn, 1) := by decide +kernel
theorem dX8_fedByte_0 : decode cX8_fedByte 0 = .ok (.iload_n 2, 1) := by decide +kernel
theorem dX8_fedByte_1 : decode cX8_fedByte 1 = .ok (.iconst 4, 1) := by decide +kernel
theorem dX8_fedByte_2 : decode cX8_fedByte 2 = .ok (.if_icmp .ge 7, 3) := by decide +kernel
theorem dX8_fedByte_5 : decode cX8_fedByte 5 = .ok (.iload_n 0, 1) := by decide +kernel
theorem dX8_fedByte_6 : decode cX8_fedByte 6 = .ok (.goto 4, 3) := by decide +kernel
theorem dX8_fedByte_9 : decode cX8_fedByte 9 = .ok (.iload_n 1, 1) := by decide +kernel
theorem dX8_fedByte_10 : decode cX8_fedByte 10 = .ok (.istore_n 3, 1) := by decide +kernel
theorem dX8_fedByte_11 : decode cX8_fedByte 11 = .ok (.iload_n 3, 1) := by decide +kernel
theorem dX8_fedByte_12 : decode cX8_fedByte 12 = .ok (.bipush 24, 2) := by decide +kernel
theorem dX8_fedByte_14 : decode cX8_fedByte 14 = .ok (.bipush 8, 2) := by decide +kernel
theorem dX8_fedByte_16 : decode cX8_fedByte 16 = .ok (.iload_n 2, 1) := by decide +kernel
theorem dX8_fedByte_17 : decode cX8_fedByte 17 = .ok (.iconst 3, 1) := by decide +kernel
theorem dX8_fedByte_18 : decode cX8_fedByte 18 = .ok (.iand, 1) := by decide +kernel
theorem dX8_fedByte_19 : decode cX8_fedByte 19 = .ok (.imul, 1) := by decide +kernel
theorem dX8_fedByte_20 : decode cX8_fedByte 20 = .ok (.isub, 1) := by decide +kernel
theorem dX8_fedByte_21 : decode cX8_fedByte 21 = .ok (.iushr, 1) := by decide +kernel
theorem dX8_fedByte_22 : decode cX8_fedByte 22 = .ok (.sipush 255, 3) := by decide +kernel
theorem dX8_fedByte_25 : decode cX8_fedByte 25 = .ok (.iand, 1) := by decide +kernel
theorem dX8_fedByte_26 : decode cX8_fedByte 26 = .ok (.ireturn, 1) := by decide +kernel
theorem dX8_cut_0 : decode cX8_cut 0 = .ok (.iload_n 1, 1) := by decide +kernel
theorem dX8_cut_1 : decode cX8_cut 1 = .ok (.iconst 0, 1) := by decide +kernel
theorem dX8_cut_2 : decode cX8_cut 2 = .ok (.aload_n 0, 1) := by decide +kernel
theorem dX8_cut_3 : decode cX8_cut 3 = .ok (.getfield 19, 3) := by decide +kernel
theorem dX8_cut_6 : decode cX8_cut 6 = .ok (.invokestatic 23, 3) := by decide +kernel
theorem dX8_cut_9 : decode cX8_cut 9 = .ok (.ifCond .ne 5, 3) := by decide +kernel
theorem dX8_cut_12 : decode cX8_cut 12 = .ok (.iconst 0, 1) := by decide +kernel
theorem dX8_cut_13 : decode cX8_cut 13 = .ok (.ireturn, 1) := by decide +kernel
theorem dX8_cut_14 : decode cX8_cut 14 = .ok (.aload_n 0, 1) := by decide +kernel
theorem dX8_cut_15 : decode cX8_cut 15 = .ok (.iload_n 1, 1) := by decide +kernel
theorem dX8_cut_16 : decode cX8_cut 16 = .ok (.putfield 19, 3) := by decide +kernel
theorem dX8_cut_19 : decode cX8_cut 19 = .ok (.iconst 1, 1) := by decide +kernel
theorem dX8_cut_20 : decode cX8_cut 20 = .ok (.ireturn, 1) := by decide +kernel
theorem dX8_size_0 : decode cX8_size 0 = .ok (.aload_n 0, 1) := by decide +kernel
theorem dX8_size_1 : decode cX8_size 1 = .ok (.getfield 19, 3) := by decide +kernel
theorem dX8_size_4 : decode cX8_size 4 = .ok (.ireturn, 1) := by decide +kernel
theorem dX8_signAt_0 : decode cX8_signAt 0 = .ok (.iload_n 1, 1) := by decide +kernel
theorem dX8_signAt_1 : decode cX8_signAt 1 = .ok (.ifCond .lt 20, 3) := by decide +kernel
theorem dX8_signAt_4 : decode cX8_signAt 4 = .ok (.iload_n 1, 1) := by decide +kernel
theorem dX8_signAt_5 : decode cX8_signAt 5 = .ok (.aload_n 0, 1) := by decide +kernel
theorem dX8_signAt_6 : decode cX8_signAt 6 = .ok (.getfield 19, 3) := by decide +kernel
theorem dX8_signAt_9 : decode cX8_signAt 9 = .ok (.if_icmp .ge 12, 3) := by decide +kernel
theorem dX8_signAt_12 : decode cX8_signAt 12 = .ok (.aload_n 0, 1) := by decide +kernel
theorem dX8_signAt_13 : decode cX8_signAt 13 = .ok (.getfield 11, 3) := by decide +kernel
theorem dX8_signAt_16 : decode cX8_signAt 16 = .ok (.iload_n 1, 1) := by decide +kernel
theorem dX8_signAt_17 : decode cX8_signAt 17 = .ok (.iaload, 1) := by decide +kernel
theorem dX8_signAt_18 : decode cX8_signAt 18 = .ok (.goto 4, 3) := by decide +kernel
theorem dX8_signAt_21 : decode cX8_signAt 21 = .ok (.iconst 0, 1) := by decide +kernel
theorem dX8_signAt_22 : decode cX8_signAt 22 = .ok (.ireturn, 1) := by decide +kernel
theorem dX8_isWord_0 : decode cX8_isWord 0 = .ok (.aload_n 0, 1) := by decide +kernel
theorem dX8_isWord_1 : decode cX8_isWord 1 = .ok (.getfield 19, 3) := by decide +kernel
theorem dX8_isWord_4 : decode cX8_isWord 4 = .ok (.bipush 12, 2) := by decide +kernel
theorem dX8_isWord_6 : decode cX8_isWord 6 = .ok (.if_icmp .gt 14, 3) := by decide +kernel
theorem dX8_isWord_9 : decode cX8_isWord 9 = .ok (.aload_n 0, 1) := by decide +kernel
theorem dX8_isWord_10 : decode cX8_isWord 10 = .ok (.invokevirtual 27, 3) := by decide +kernel
theorem dX8_isWord_13 : decode cX8_isWord 13 = .ok (.ifCond .eq 7, 3) := by decide +kernel
theorem dX8_isWord_16 : decode cX8_isWord 16 = .ok (.iconst 1, 1) := by decide +kernel
theorem dX8_isWord_17 : decode cX8_isWord 17 = .ok (.goto 4, 3) := by decide +kernel
theorem dX8_isWord_20 : decode cX8_isWord 20 = .ok (.iconst 0, 1) := by decide +kernel
theorem dX8_isWord_21 : decode cX8_isWord 21 = .ok (.ireturn, 1) := by decide +kernel
theorem dX8_isRow_0 : decode cX8_isRow 0 = .ok (.aload_n 0, 1) := by decide +kernel
theorem dX8_isRow_1 : decode cX8_isRow 1 = .ok (.invokevirtual 27, 3) := by decide +kernel
theorem dX8_isRow_4 : decode cX8_isRow 4 = .ok (.ifCond .ne 5, 3) := by decide +kernel
theorem dX8_isRow_7 : decode cX8_isRow 7 = .ok (.iconst 0, 1) := by decide +kernel
theorem dX8_isRow_8 : decode cX8_isRow 8 = .ok (.ireturn, 1) := by decide +kernel
theorem dX8_isRow_9 : decode cX8_isRow 9 = .ok (.iconst 0, 1) := by decide +kernel
theorem dX8_isRow_10 : decode cX8_isRow 10 = .ok (.istore_n 1, 1) := by decide +kernel
theorem dX8_isRow_11 : decode cX8_isRow 11 = .ok (.iconst 0, 1) := by decide +kernel
theorem dX8_isRow_12 : decode cX8_isRow 12 = .ok (.istore_n 2, 1) := by decide +kernel
theorem dX8_isRow_13 : decode cX8_isRow 13 = .ok (.iload_n 2, 1) := by decide +kernel
theorem dX8_isRow_14 : decode cX8_isRow 14 = .ok (.aload_n 0, 1) := by decide +kernel
theorem dX8_isRow_15 : decode cX8_isRow 15 = .ok (.getfield 19, 3) := by decide +kernel
theorem dX8_isRow_18 : decode cX8_isRow 18 = .ok (.if_icmp .ge 33, 3) := by decide +kernel
theorem dX8_isRow_21 : decode cX8_isRow 21 = .ok (.iconst 1, 1) := by decide +kernel
theorem dX8_isRow_22 : decode cX8_isRow 22 = .ok (.aload_n 0, 1) := by decide +kernel
theorem dX8_isRow_23 : decode cX8_isRow 23 = .ok (.getfield 11, 3) := by decide +kernel
theorem dX8_isRow_26 : decode cX8_isRow 26 = .ok (.iload_n 2, 1) := by decide +kernel
theorem dX8_isRow_27 : decode cX8_isRow 27 = .ok (.iaload, 1) := by decide +kernel
theorem dX8_isRow_28 : decode cX8_isRow 28 = .ok (.bipush 97, 2) := by decide +kernel
theorem dX8_isRow_30 : decode cX8_isRow 30 = .ok (.isub, 1) := by decide +kernel
theorem dX8_isRow_31 : decode cX8_isRow 31 = .ok (.ishl, 1) := by decide +kernel
theorem dX8_isRow_32 : decode cX8_isRow 32 = .ok (.istore_n 3, 1) := by decide +kernel
theorem dX8_isRow_33 : decode cX8_isRow 33 = .ok (.iload_n 1, 1) := by decide +kernel
theorem dX8_isRow_34 : decode cX8_isRow 34 = .ok (.iload_n 3, 1) := by decide +kernel
theorem dX8_isRow_35 : decode cX8_isRow 35 = .ok (.iand, 1) := by decide +kernel
theorem dX8_isRow_36 : decode cX8_isRow 36 = .ok (.ifCond .eq 5, 3) := by decide +kernel
theorem dX8_isRow_39 : decode cX8_isRow 39 = .ok (.iconst 0, 1) := by decide +kernel
theorem dX8_isRow_40 : decode cX8_isRow 40 = .ok (.ireturn, 1) := by decide +kernel
theorem dX8_isRow_41 : decode cX8_isRow 41 = .ok (.iload_n 1, 1) := by decide +kernel
theorem dX8_isRow_42 : decode cX8_isRow 42 = .ok (.iload_n 3, 1) := by decide +kernel
theorem dX8_isRow_43 : decode cX8_isRow 43 = .ok (.ior, 1) := by decide +kernel
theorem dX8_isRow_44 : decode cX8_isRow 44 = .ok (.istore_n 1, 1) := by decide +kernel
theorem dX8_isRow_45 : decode cX8_isRow 45 = .ok (.iinc 2 1, 3) := by decide +kernel
theorem dX8_isRow_48 : decode cX8_isRow 48 = .ok (.goto (-35), 3) := by decide +kernel
theorem dX8_isRow_51 : decode cX8_isRow 51 = .ok (.iconst 1, 1) := by decide +kernel
theorem dX8_isRow_52 : decode cX8_isRow 52 = .ok (.ireturn, 1) := by decide +kernel
theorem dX8_lettersAlone_0 : decode cX8_lettersAlone 0 = .ok (.iconst 0, 1) := by decide +kernel
theorem dX8_lettersAlone_1 : decode cX8_lettersAlone 1 = .ok (.istore_n 1, 1) := by decide +kernel
theorem dX8_lettersAlone_2 : decode cX8_lettersAlone 2 = .ok (.iload_n 1, 1) := by decide +kernel
theorem dX8_lettersAlone_3 : decode cX8_lettersAlone 3 = .ok (.aload_n 0, 1) := by decide +kernel
theorem dX8_lettersAlone_4 : decode cX8_lettersAlone 4 = .ok (.getfield 19, 3) := by decide +kernel
theorem dX8_lettersAlone_7 : decode cX8_lettersAlone 7 = .ok (.if_icmp .ge 23, 3) := by decide +kernel
theorem dX8_lettersAlone_10 : decode cX8_lettersAlone 10 = .ok (.aload_n 0, 1) := by decide +kernel
theorem dX8_lettersAlone_11 : decode cX8_lettersAlone 11 = .ok (.getfield 11, 3) := by decide +kernel
theorem dX8_lettersAlone_14 : decode cX8_lettersAlone 14 = .ok (.iload_n 1, 1) := by decide +kernel
theorem dX8_lettersAlone_15 : decode cX8_lettersAlone 15 = .ok (.iaload, 1) := by decide +kernel
theorem dX8_lettersAlone_16 : decode cX8_lettersAlone 16 = .ok (.invokestatic 31, 3) := by decide +kernel
theorem dX8_lettersAlone_19 : decode cX8_lettersAlone 19 = .ok (.ifCond .ne 5, 3) := by decide +kernel
theorem dX8_lettersAlone_22 : decode cX8_lettersAlone 22 = .ok (.iconst 0, 1) := by decide +kernel
theorem dX8_lettersAlone_23 : decode cX8_lettersAlone 23 = .ok (.ireturn, 1) := by decide +kernel
theorem dX8_lettersAlone_24 : decode cX8_lettersAlone 24 = .ok (.iinc 1 1, 3) := by decide +kernel
theorem dX8_lettersAlone_27 : decode cX8_lettersAlone 27 = .ok (.goto (-25), 3) := by decide +kernel
theorem dX8_lettersAlone_30 : decode cX8_lettersAlone 30 = .ok (.aload_n 0, 1) := by decide +kernel
theorem dX8_lettersAlone_31 : decode cX8_lettersAlone 31 = .ok (.getfield 19, 3) := by decide +kernel
theorem dX8_lettersAlone_34 : decode cX8_lettersAlone 34 = .ok (.ifCond .le 7, 3) := by decide +kernel
theorem dX8_lettersAlone_37 : decode cX8_lettersAlone 37 = .ok (.iconst 1, 1) := by decide +kernel
theorem dX8_lettersAlone_38 : decode cX8_lettersAlone 38 = .ok (.goto 4, 3) := by decide +kernel
theorem dX8_lettersAlone_41 : decode cX8_lettersAlone 41 = .ok (.iconst 0, 1) := by decide +kernel
theorem dX8_lettersAlone_42 : decode cX8_lettersAlone 42 = .ok (.ireturn, 1) := by decide +kernel
theorem dJ7_fill_53178_0 : decode cJ7_fill_53178 0 = .ok (.iconst 0, 1) := by decide +kernel
theorem dJ7_fill_53178_1 : decode cJ7_fill_53178 1 = .ok (.istore_n 2, 1) := by decide +kernel
theorem dJ7_fill_53178_2 : decode cJ7_fill_53178 2 = .ok (.aload_n 0, 1) := by decide +kernel
theorem dJ7_fill_53178_3 : decode cJ7_fill_53178 3 = .ok (.arraylength, 1) := by decide +kernel
theorem dJ7_fill_53178_4 : decode cJ7_fill_53178 4 = .ok (.istore_n 3, 1) := by decide +kernel
theorem dJ7_fill_53178_5 : decode cJ7_fill_53178 5 = .ok (.iload_n 2, 1) := by decide +kernel
theorem dJ7_fill_53178_6 : decode cJ7_fill_53178 6 = .ok (.iload_n 3, 1) := by decide +kernel
theorem dJ7_fill_53178_7 : decode cJ7_fill_53178 7 = .ok (.if_icmp .ge 13, 3) := by decide +kernel
theorem dJ7_fill_53178_10 : decode cJ7_fill_53178 10 = .ok (.aload_n 0, 1) := by decide +kernel
theorem dJ7_fill_53178_11 : decode cJ7_fill_53178 11 = .ok (.iload_n 2, 1) := by decide +kernel
theorem dJ7_fill_53178_12 : decode cJ7_fill_53178 12 = .ok (.iload_n 1, 1) := by decide +kernel
theorem dJ7_fill_53178_13 : decode cJ7_fill_53178 13 = .ok (.iastore, 1) := by decide +kernel
theorem dJ7_fill_53178_14 : decode cJ7_fill_53178 14 = .ok (.iinc 2 1, 3) := by decide +kernel
theorem dJ7_fill_53178_17 : decode cJ7_fill_53178 17 = .ok (.goto (-12), 3) := by decide +kernel
theorem dJ7_fill_53178_20 : decode cJ7_fill_53178 20 = .ok (.return_, 1) := by decide +kernel
