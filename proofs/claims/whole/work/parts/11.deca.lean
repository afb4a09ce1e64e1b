theorem dX0_init_0 : decode cX0_init 0 = .ok (.aload_n 0, 1) := by decide +kernel
theorem dX0_init_1 : decode cX0_init 1 = .ok (.invokespecial 3, 3) := by decide +kernel
theorem dX0_init_4 : decode cX0_init 4 = .ok (.aload_n 0, 1) := by decide +kernel
theorem dX0_init_5 : decode cX0_init 5 = .ok (.sipush 480, 3) := by decide +kernel
theorem dX0_init_8 : decode cX0_init 8 = .ok (.newarray .int, 2) := by decide +kernel
theorem dX0_init_10 : decode cX0_init 10 = .ok (.putfield 11, 3) := by decide +kernel
theorem dX0_init_13 : decode cX0_init 13 = .ok (.aload_n 0, 1) := by decide +kernel
theorem dX0_init_14 : decode cX0_init 14 = .ok (.bipush 40, 2) := by decide +kernel
theorem dX0_init_16 : decode cX0_init 16 = .ok (.newarray .int, 2) := by decide +kernel
theorem dX0_init_18 : decode cX0_init 18 = .ok (.putfield 15, 3) := by decide +kernel
theorem dX0_init_21 : decode cX0_init 21 = .ok (.aload_n 0, 1) := by decide +kernel
theorem dX0_init_22 : decode cX0_init 22 = .ok (.bipush 40, 2) := by decide +kernel
theorem dX0_init_24 : decode cX0_init 24 = .ok (.newarray .int, 2) := by decide +kernel
theorem dX0_init_26 : decode cX0_init 26 = .ok (.putfield 18, 3) := by decide +kernel
theorem dX0_init_29 : decode cX0_init 29 = .ok (.return_, 1) := by decide +kernel
theorem dX0_take_0 : decode cX0_take 0 = .ok (.iload_n 2, 1) := by decide +kernel
theorem dX0_take_1 : decode cX0_take 1 = .ok (.iconst 0, 1) := by decide +kernel
theorem dX0_take_2 : decode cX0_take 2 = .ok (.sipush 10000, 3) := by decide +kernel
theorem dX0_take_5 : decode cX0_take 5 = .ok (.invokestatic 21, 3) := by decide +kernel
theorem dX0_take_8 : decode cX0_take 8 = .ok (.ifCond .eq 10, 3) := by decide +kernel
theorem dX0_take_11 : decode cX0_take 11 = .ok (.aload_n 1, 1) := by decide +kernel
theorem dX0_take_12 : decode cX0_take 12 = .ok (.invokevirtual 25, 3) := by decide +kernel
theorem dX0_take_15 : decode cX0_take 15 = .ok (.ifCond .ne 5, 3) := by decide +kernel
theorem dX0_take_18 : decode cX0_take 18 = .ok (.iconst (-1), 1) := by decide +kernel
theorem dX0_take_19 : decode cX0_take 19 = .ok (.ireturn, 1) := by decide +kernel
theorem dX0_take_20 : decode cX0_take 20 = .ok (.aload_n 0, 1) := by decide +kernel
theorem dX0_take_21 : decode cX0_take 21 = .ok (.aload_n 1, 1) := by decide +kernel
theorem dX0_take_22 : decode cX0_take 22 = .ok (.getfield 31, 3) := by decide +kernel
theorem dX0_take_25 : decode cX0_take 25 = .ok (.aload_n 1, 1) := by decide +kernel
theorem dX0_take_26 : decode cX0_take 26 = .ok (.invokevirtual 32, 3) := by decide +kernel
theorem dX0_take_29 : decode cX0_take 29 = .ok (.invokevirtual 36, 3) := by decide +kernel
theorem dX0_take_32 : decode cX0_take 32 = .ok (.istore_n 3, 1) := by decide +kernel
theorem dX0_take_33 : decode cX0_take 33 = .ok (.iload_n 3, 1) := by decide +kernel
theorem dX0_take_34 : decode cX0_take 34 = .ok (.iconst (-1), 1) := by decide +kernel
theorem dX0_take_35 : decode cX0_take 35 = .ok (.if_icmp .ne 9, 3) := by decide +kernel
theorem dX0_take_38 : decode cX0_take 38 = .ok (.aload_n 0, 1) := by decide +kernel
theorem dX0_take_39 : decode cX0_take 39 = .ok (.aload_n 1, 1) := by decide +kernel
theorem dX0_take_40 : decode cX0_take 40 = .ok (.invokevirtual 40, 3) := by decide +kernel
theorem dX0_take_43 : decode cX0_take 43 = .ok (.istore_n 3, 1) := by decide +kernel
theorem dX0_take_44 : decode cX0_take 44 = .ok (.aload_n 0, 1) := by decide +kernel
theorem dX0_take_45 : decode cX0_take 45 = .ok (.iload_n 3, 1) := by decide +kernel
theorem dX0_take_46 : decode cX0_take 46 = .ok (.invokevirtual 44, 3) := by decide +kernel
theorem dX0_take_49 : decode cX0_take 49 = .ok (.ifCond .eq 10, 3) := by decide +kernel
theorem dX0_take_52 : decode cX0_take 52 = .ok (.aload_n 0, 1) := by decide +kernel
theorem dX0_take_53 : decode cX0_take 53 = .ok (.getfield 18, 3) := by decide +kernel
theorem dX0_take_56 : decode cX0_take 56 = .ok (.iload_n 3, 1) := by decide +kernel
theorem dX0_take_57 : decode cX0_take 57 = .ok (.iload_n 2, 1) := by decide +kernel
theorem dX0_take_58 : decode cX0_take 58 = .ok (.iastore, 1) := by decide +kernel
theorem dX0_take_59 : decode cX0_take 59 = .ok (.iload_n 3, 1) := by decide +kernel
theorem dX0_take_60 : decode cX0_take 60 = .ok (.ireturn, 1) := by decide +kernel
theorem dX0_add_0 : decode cX0_add 0 = .ok (.aload_n 0, 1) := by decide +kernel
theorem dX0_add_1 : decode cX0_add 1 = .ok (.getfield 48, 3) := by decide +kernel
theorem dX0_add_4 : decode cX0_add 4 = .ok (.bipush 40, 2) := by decide +kernel
theorem dX0_add_6 : decode cX0_add 6 = .ok (.if_icmp .lt 5, 3) := by decide +kernel
theorem dX0_add_9 : decode cX0_add 9 = .ok (.iconst (-1), 1) := by decide +kernel
theorem dX0_add_10 : decode cX0_add 10 = .ok (.ireturn, 1) := by decide +kernel
theorem dX0_add_11 : decode cX0_add 11 = .ok (.aload_n 1, 1) := by decide +kernel
theorem dX0_add_12 : decode cX0_add 12 = .ok (.invokevirtual 32, 3) := by decide +kernel
theorem dX0_add_15 : decode cX0_add 15 = .ok (.bipush 12, 2) := by decide +kernel
theorem dX0_add_17 : decode cX0_add 17 = .ok (.invokestatic 51, 3) := by decide +kernel
theorem dX0_add_20 : decode cX0_add 20 = .ok (.istore_n 2, 1) := by decide +kernel
theorem dX0_add_21 : decode cX0_add 21 = .ok (.iconst 0, 1) := by decide +kernel
theorem dX0_add_22 : decode cX0_add 22 = .ok (.istore_n 3, 1) := by decide +kernel
theorem dX0_add_23 : decode cX0_add 23 = .ok (.iload_n 3, 1) := by decide +kernel
theorem dX0_add_24 : decode cX0_add 24 = .ok (.iload_n 2, 1) := by decide +kernel
theorem dX0_add_25 : decode cX0_add 25 = .ok (.if_icmp .ge 28, 3) := by decide +kernel
theorem dX0_add_28 : decode cX0_add 28 = .ok (.aload_n 0, 1) := by decide +kernel
theorem dX0_add_29 : decode cX0_add 29 = .ok (.getfield 11, 3) := by decide +kernel
theorem dX0_add_32 : decode cX0_add 32 = .ok (.aload_n 0, 1) := by decide +kernel
theorem dX0_add_33 : decode cX0_add 33 = .ok (.getfield 48, 3) := by decide +kernel
theorem dX0_add_36 : decode cX0_add 36 = .ok (.bipush 12, 2) := by decide +kernel
theorem dX0_add_38 : decode cX0_add 38 = .ok (.imul, 1) := by decide +kernel
theorem dX0_add_39 : decode cX0_add 39 = .ok (.iload_n 3, 1) := by decide +kernel
theorem dX0_add_40 : decode cX0_add 40 = .ok (.iadd, 1) := by decide +kernel
theorem dX0_add_41 : decode cX0_add 41 = .ok (.aload_n 1, 1) := by decide +kernel
theorem dX0_add_42 : decode cX0_add 42 = .ok (.iload_n 3, 1) := by decide +kernel
theorem dX0_add_43 : decode cX0_add 43 = .ok (.invokevirtual 57, 3) := by decide +kernel
theorem dX0_add_46 : decode cX0_add 46 = .ok (.iastore, 1) := by decide +kernel
theorem dX0_add_47 : decode cX0_add 47 = .ok (.iinc 3 1, 3) := by decide +kernel
theorem dX0_add_50 : decode cX0_add 50 = .ok (.goto (-27), 3) := by decide +kernel
theorem dX0_add_53 : decode cX0_add 53 = .ok (.aload_n 0, 1) := by decide +kernel
theorem dX0_add_54 : decode cX0_add 54 = .ok (.getfield 15, 3) := by decide +kernel
theorem dX0_add_57 : decode cX0_add 57 = .ok (.aload_n 0, 1) := by decide +kernel
theorem dX0_add_58 : decode cX0_add 58 = .ok (.getfield 48, 3) := by decide +kernel
theorem dX0_add_61 : decode cX0_add 61 = .ok (.iload_n 2, 1) := by decide +kernel
theorem dX0_add_62 : decode cX0_add 62 = .ok (.iastore, 1) := by decide +kernel
theorem dX0_add_63 : decode cX0_add 63 = .ok (.aload_n 0, 1) := by decide +kernel
theorem dX0_add_64 : decode cX0_add 64 = .ok (.dup, 1) := by decide +kernel
theorem dX0_add_65 : decode cX0_add 65 = .ok (.getfield 48, 3) := by decide +kernel
theorem dX0_add_68 : decode cX0_add 68 = .ok (.iconst 1, 1) := by decide +kernel
theorem dX0_add_69 : decode cX0_add 69 = .ok (.iadd, 1) := by decide +kernel
theorem dX0_add_70 : decode cX0_add 70 = .ok (.putfield 48, 3) := by decide +kernel
theorem dX0_add_73 : decode cX0_add 73 = .ok (.aload_n 0, 1) := by decide +kernel
theorem dX0_add_74 : decode cX0_add 74 = .ok (.getfield 48, 3) := by decide +kernel
theorem dX0_add_77 : decode cX0_add 77 = .ok (.iconst 1, 1) := by decide +kernel
theorem dX0_add_78 : decode cX0_add 78 = .ok (.isub, 1) := by decide +kernel
theorem dX0_add_79 : decode cX0_add 79 = .ok (.ireturn, 1) := by decide +kernel
theorem dX0_find_0 : decode cX0_find 0 = .ok (.iconst 0, 1) := by decide +kernel
theorem dX0_find_1 : decode cX0_find 1 = .ok (.istore_n 3, 1) := by decide +kernel
theorem dX0_find_2 : decode cX0_find 2 = .ok (.iload_n 3, 1) := by decide +kernel
theorem dX0_find_3 : decode cX0_find 3 = .ok (.aload_n 0, 1) := by decide +kernel
theorem dX0_find_4 : decode cX0_find 4 = .ok (.getfield 48, 3) := by decide +kernel
theorem dX0_find_7 : decode cX0_find 7 = .ok (.if_icmp .ge 31, 3) := by decide +kernel
theorem dX0_find_10 : decode cX0_find 10 = .ok (.aload_n 0, 1) := by decide +kernel
theorem dX0_find_11 : decode cX0_find 11 = .ok (.getfield 15, 3) := by decide +kernel
theorem dX0_find_14 : decode cX0_find 14 = .ok (.iload_n 3, 1) := by decide +kernel
theorem dX0_find_15 : decode cX0_find 15 = .ok (.iaload, 1) := by decide +kernel
theorem dX0_find_16 : decode cX0_find 16 = .ok (.iload_n 2, 1) := by decide +kernel
theorem dX0_find_17 : decode cX0_find 17 = .ok (.if_icmp .ne 15, 3) := by decide +kernel
theorem dX0_find_20 : decode cX0_find 20 = .ok (.aload_n 0, 1) := by decide +kernel
theorem dX0_find_21 : decode cX0_find 21 = .ok (.iload_n 3, 1) := by decide +kernel
theorem dX0_find_22 : decode cX0_find 22 = .ok (.aload_n 1, 1) := by decide +kernel
theorem dX0_find_23 : decode cX0_find 23 = .ok (.iload_n 2, 1) := by decide +kernel
theorem dX0_find_24 : decode cX0_find 24 = .ok (.invokevirtual 61, 3) := by decide +kernel
theorem dX0_find_27 : decode cX0_find 27 = .ok (.ifCond .eq 5, 3) := by decide +kernel
theorem dX0_find_30 : decode cX0_find 30 = .ok (.iload_n 3, 1) := by decide +kernel
theorem dX0_find_31 : decode cX0_find 31 = .ok (.ireturn, 1) := by decide +kernel
theorem dX0_find_32 : decode cX0_find 32 = .ok (.iinc 3 1, 3) := by decide +kernel
theorem dX0_find_35 : decode cX0_find 35 = .ok (.goto (-33), 3) := by decide +kernel
theorem dX0_find_38 : decode cX0_find 38 = .ok (.iconst (-1), 1) := by decide +kernel
theorem dX0_find_39 : decode cX0_find 39 = .ok (.ireturn, 1) := by decide +kernel
theorem dX0_beginsWith_0 : decode cX0_beginsWith 0 = .ok (.iload_n 3, 1) := by decide +kernel
theorem dX0_beginsWith_1 : decode cX0_beginsWith 1 = .ok (.aload_n 0, 1) := by decide +kernel
theorem dX0_beginsWith_2 : decode cX0_beginsWith 2 = .ok (.iload_n 1, 1) := by decide +kernel
theorem dX0_beginsWith_3 : decode cX0_beginsWith 3 = .ok (.invokevirtual 65, 3) := by decide +kernel
theorem dX0_beginsWith_6 : decode cX0_beginsWith 6 = .ok (.if_icmp .gt 9, 3) := by decide +kernel
theorem dX0_beginsWith_9 : decode cX0_beginsWith 9 = .ok (.iload_n 3, 1) := by decide +kernel
theorem dX0_beginsWith_10 : decode cX0_beginsWith 10 = .ok (.aload_n 2, 1) := by decide +kernel
theorem dX0_beginsWith_11 : decode cX0_beginsWith 11 = .ok (.arraylength, 1) := by decide +kernel
theorem dX0_beginsWith_12 : decode cX0_beginsWith 12 = .ok (.if_icmp .le 5, 3) := by decide +kernel
theorem dX0_beginsWith_15 : decode cX0_beginsWith 15 = .ok (.iconst 0, 1) := by decide +kernel
theorem dX0_beginsWith_16 : decode cX0_beginsWith 16 = .ok (.ireturn, 1) := by decide +kernel
theorem dX0_beginsWith_17 : decode cX0_beginsWith 17 = .ok (.iconst 0, 1) := by decide +kernel
theorem dX0_beginsWith_18 : decode cX0_beginsWith 18 = .ok (.istore 4, 2) := by decide +kernel
theorem dX0_beginsWith_20 : decode cX0_beginsWith 20 = .ok (.iload 4, 2) := by decide +kernel
theorem dX0_beginsWith_22 : decode cX0_beginsWith 22 = .ok (.iload_n 3, 1) := by decide +kernel
theorem dX0_beginsWith_23 : decode cX0_beginsWith 23 = .ok (.if_icmp .ge 25, 3) := by decide +kernel
theorem dX0_beginsWith_26 : decode cX0_beginsWith 26 = .ok (.aload_n 0, 1) := by decide +kernel
theorem dX0_beginsWith_27 : decode cX0_beginsWith 27 = .ok (.iload_n 1, 1) := by decide +kernel
theorem dX0_beginsWith_28 : decode cX0_beginsWith 28 = .ok (.iload 4, 2) := by decide +kernel
theorem dX0_beginsWith_30 : decode cX0_beginsWith 30 = .ok (.invokevirtual 68, 3) := by decide +kernel
theorem dX0_beginsWith_33 : decode cX0_beginsWith 33 = .ok (.aload_n 2, 1) := by decide +kernel
theorem dX0_beginsWith_34 : decode cX0_beginsWith 34 = .ok (.iload 4, 2) := by decide +kernel
theorem dX0_beginsWith_36 : decode cX0_beginsWith 36 = .ok (.iaload, 1) := by decide +kernel
theorem dX0_beginsWith_37 : decode cX0_beginsWith 37 = .ok (.if_icmp .eq 5, 3) := by decide +kernel
theorem dX0_beginsWith_40 : decode cX0_beginsWith 40 = .ok (.iconst 0, 1) := by decide +kernel
theorem dX0_beginsWith_41 : decode cX0_beginsWith 41 = .ok (.ireturn, 1) := by decide +kernel
theorem dX0_beginsWith_42 : decode cX0_beginsWith 42 = .ok (.iinc 4 1, 3) := by decide +kernel
theorem dX0_beginsWith_45 : decode cX0_beginsWith 45 = .ok (.goto (-25), 3) := by decide +kernel
theorem dX0_beginsWith_48 : decode cX0_beginsWith 48 = .ok (.iconst 1, 1) := by decide +kernel
theorem dX0_beginsWith_49 : decode cX0_beginsWith 49 = .ok (.ireturn, 1) := by decide +kernel
theorem dX0_has_0 : decode cX0_has 0 = .ok (.iload_n 1, 1) := by decide +kernel
theorem dX0_has_1 : decode cX0_has 1 = .ok (.ifCond .lt 15, 3) := by decide +kernel
theorem dX0_has_4 : decode cX0_has 4 = .ok (.iload_n 1, 1) := by decide +kernel
theorem dX0_has_5 : decode cX0_has 5 = .ok (.aload_n 0, 1) := by decide +kernel
theorem dX0_has_6 : decode cX0_has 6 = .ok (.getfield 48, 3) := by decide +kernel
theorem dX0_has_9 : decode cX0_has 9 = .ok (.if_icmp .ge 7, 3) := by decide +kernel
theorem dX0_has_12 : decode cX0_has 12 = .ok (.iconst 1, 1) := by decide +kernel
theorem dX0_has_13 : decode cX0_has 13 = .ok (.goto 4, 3) := by decide +kernel
theorem dX0_has_16 : decode cX0_has 16 = .ok (.iconst 0, 1) := by decide +kernel
theorem dX0_has_17 : decode cX0_has 17 = .ok (.ireturn, 1) := by decide +kernel
theorem dX0_size_0 : decode cX0_size 0 = .ok (.aload_n 0, 1) := by decide +kernel
theorem dX0_size_1 : decode cX0_size 1 = .ok (.getfield 48, 3) := by decide +kernel
theorem dX0_size_4 : decode cX0_size 4 = .ok (.ireturn, 1) := by decide +kernel
theorem dX0_sizeOf_0 : decode cX0_sizeOf 0 = .ok (.aload_n 0, 1) := by decide +kernel
theorem dX0_sizeOf_1 : decode cX0_sizeOf 1 = .ok (.iload_n 1, 1) := by decide +kernel
theorem dX0_sizeOf_2 : decode cX0_sizeOf 2 = .ok (.invokevirtual 44, 3) := by decide +kernel
theorem dX0_sizeOf_5 : decode cX0_sizeOf 5 = .ok (.ifCond .eq 12, 3) := by decide +kernel
theorem dX0_sizeOf_8 : decode cX0_sizeOf 8 = .ok (.aload_n 0, 1) := by decide +kernel
theorem dX0_sizeOf_9 : decode cX0_sizeOf 9 = .ok (.getfield 15, 3) := by decide +kernel
theorem dX0_sizeOf_12 : decode cX0_sizeOf 12 = .ok (.iload_n 1, 1) := by decide +kernel
theorem dX0_sizeOf_13 : decode cX0_sizeOf 13 = .ok (.iaload, 1) := by decide +kernel
theorem dX0_sizeOf_14 : decode cX0_sizeOf 14 = .ok (.goto 4, 3) := by decide +kernel
theorem dX0_sizeOf_17 : decode cX0_sizeOf 17 = .ok (.iconst 0, 1) := by decide +kernel
theorem dX0_sizeOf_18 : decode cX0_sizeOf 18 = .ok (.ireturn, 1) := by decide +kernel
theorem dX0_timesOf_0 : decode cX0_timesOf 0 = .ok (.aload_n 0, 1) := by decide +kernel
theorem dX0_timesOf_1 : decode cX0_timesOf 1 = .ok (.iload_n 1, 1) := by decide +kernel
theorem dX0_timesOf_2 : decode cX0_timesOf 2 = .ok (.invokevirtual 44, 3) := by decide +kernel
theorem dX0_timesOf_5 : decode cX0_timesOf 5 = .ok (.ifCond .eq 12, 3) := by decide +kernel
theorem dX0_timesOf_8 : decode cX0_timesOf 8 = .ok (.aload_n 0, 1) := by decide +kernel
theorem dX0_timesOf_9 : decode cX0_timesOf 9 = .ok (.getfield 18, 3) := by decide +kernel
theorem dX0_timesOf_12 : decode cX0_timesOf 12 = .ok (.iload_n 1, 1) := by decide +kernel
theorem dX0_timesOf_13 : decode cX0_timesOf 13 = .ok (.iaload, 1) := by decide +kernel
theorem dX0_timesOf_14 : decode cX0_timesOf 14 = .ok (.goto 4, 3) := by decide +kernel
theorem dX0_timesOf_17 : decode cX0_timesOf 17 = .ok (.iconst 0, 1) := by decide +kernel
theorem dX0_timesOf_18 : decode cX0_timesOf 18 = .ok (.ireturn, 1) := by decide +kernel
theorem dX0_signOf_0 : decode cX0_signOf 0 = .ok (.iload_n 2, 1) := by decide +kernel
theorem dX0_signOf_1 : decode cX0_signOf 1 = .ok (.ifCond .lt 26, 3) := by decide +kernel
theorem dX0_signOf_4 : decode cX0_signOf 4 = .ok (.iload_n 2, 1) := by decide +kernel
theorem dX0_signOf_5 : decode cX0_signOf 5 = .ok (.aload_n 0, 1) := by decide +kernel
theorem dX0_signOf_6 : decode cX0_signOf 6 = .ok (.iload_n 1, 1) := by decide +kernel
theorem dX0_signOf_7 : decode cX0_signOf 7 = .ok (.invokevirtual 65, 3) := by decide +kernel
theorem dX0_signOf_10 : decode cX0_signOf 10 = .ok (.if_icmp .ge 17, 3) := by decide +kernel
theorem dX0_signOf_13 : decode cX0_signOf 13 = .ok (.aload_n 0, 1) := by decide +kernel
theorem dX0_signOf_14 : decode cX0_signOf 14 = .ok (.getfield 11, 3) := by decide +kernel
theorem dX0_signOf_17 : decode cX0_signOf 17 = .ok (.iload_n 1, 1) := by decide +kernel
theorem dX0_signOf_18 : decode cX0_signOf 18 = .ok (.bipush 12, 2) := by decide +kernel
theorem dX0_signOf_20 : decode cX0_signOf 20 = .ok (.imul, 1) := by decide +kernel
theorem dX0_signOf_21 : decode cX0_signOf 21 = .ok (.iload_n 2, 1) := by decide +kernel
theorem dX0_signOf_22 : decode cX0_signOf 22 = .ok (.iadd, 1) := by decide +kernel
theorem dX0_signOf_23 : decode cX0_signOf 23 = .ok (.iaload, 1) := by decide +kernel
theorem dX0_signOf_24 : decode cX0_signOf 24 = .ok (.goto 4, 3) := by decide +kernel
theorem dX0_signOf_27 : decode cX0_signOf 27 = .ok (.iconst 0, 1) := by decide +kernel
theorem dX0_signOf_28 : decode cX0_signOf 28 = .ok (.ireturn, 1) := by decide +kernel
theorem dX1_init_0 : decode cX1_init 0 = .ok (.aload_n 0, 1) := by decide +kernel
theorem dX1_init_1 : decode cX1_init 1 = .ok (.invokespecial 1, 3) := by decide +kernel
theorem dX1_init_4 : decode cX1_init 4 = .ok (.aload_n 0, 1) := by decide +kernel
theorem dX1_init_5 : decode cX1_init 5 = .ok (.aload_n 1, 1) := by decide +kernel
theorem dX1_init_6 : decode cX1_init 6 = .ok (.putfield 7, 3) := by decide +kernel
theorem dX1_init_9 : decode cX1_init 9 = .ok (.aload_n 0, 1) := by decide +kernel
theorem dX1_init_10 : decode cX1_init 10 = .ok (.iload_n 2, 1) := by decide +kernel
theorem dX1_init_11 : decode cX1_init 11 = .ok (.putfield 13, 3) := by decide +kernel
theorem dX1_init_14 : decode cX1_init 14 = .ok (.aload_n 0, 1) := by decide +kernel
theorem dX1_init_15 : decode cX1_init 15 = .ok (.aload_n 1, 1) := by decide +kernel
theorem dX1_init_16 : decode cX1_init 16 = .ok (.ifnonnull 7, 3) := by decide +kernel
theorem dX1_init_19 : decode cX1_init 19 = .ok (.iconst 0, 1) := by decide +kernel
theorem dX1_init_20 : decode cX1_init 20 = .ok (.goto 9, 3) := by decide +kernel
theorem dX1_init_23 : decode cX1_init 23 = .ok (.aload_n 1, 1) := by decide +kernel
theorem dX1_init_24 : decode cX1_init 24 = .ok (.getfield 17, 3) := by decide +kernel
theorem dX1_init_27 : decode cX1_init 27 = .ok (.iconst 1, 1) := by decide +kernel
theorem dX1_init_28 : decode cX1_init 28 = .ok (.iadd, 1) := by decide +kernel
theorem dX1_init_29 : decode cX1_init 29 = .ok (.putfield 17, 3) := by decide +kernel
theorem dX1_init_32 : decode cX1_init 32 = .ok (.return_, 1) := by decide +kernel
theorem dX1_without_0 : decode cX1_without 0 = .ok (.aload_n 0, 1) := by decide +kernel
theorem dX1_without_1 : decode cX1_without 1 = .ok (.astore_n 2, 1) := by decide +kernel
theorem dX1_without_2 : decode cX1_without 2 = .ok (.iconst 0, 1) := by decide +kernel
theorem dX1_without_3 : decode cX1_without 3 = .ok (.istore_n 3, 1) := by decide +kernel
theorem dX1_without_4 : decode cX1_without 4 = .ok (.iload_n 3, 1) := by decide +kernel
theorem dX1_without_5 : decode cX1_without 5 = .ok (.iload_n 1, 1) := by decide +kernel
theorem dX1_without_6 : decode cX1_without 6 = .ok (.if_icmp .ge 21, 3) := by decide +kernel
theorem dX1_without_9 : decode cX1_without 9 = .ok (.aload_n 2, 1) := by decide +kernel
theorem dX1_without_10 : decode cX1_without 10 = .ok (.getfield 7, 3) := by decide +kernel
theorem dX1_without_13 : decode cX1_without 13 = .ok (.ifnull 14, 3) := by decide +kernel
theorem dX1_without_16 : decode cX1_without 16 = .ok (.aload_n 2, 1) := by decide +kernel
theorem dX1_without_17 : decode cX1_without 17 = .ok (.getfield 7, 3) := by decide +kernel
theorem dX1_without_20 : decode cX1_without 20 = .ok (.astore_n 2, 1) := by decide +kernel
theorem dX1_without_21 : decode cX1_without 21 = .ok (.iinc 3 1, 3) := by decide +kernel
theorem dX1_without_24 : decode cX1_without 24 = .ok (.goto (-20), 3) := by decide +kernel
theorem dX1_without_27 : decode cX1_without 27 = .ok (.aload_n 2, 1) := by decide +kernel
theorem dX1_without_28 : decode cX1_without 28 = .ok (.areturn, 1) := by decide +kernel
theorem dX1_signAt_0 : decode cX1_signAt 0 = .ok (.aload_n 0, 1) := by decide +kernel
theorem dX1_signAt_1 : decode cX1_signAt 1 = .ok (.aload_n 0, 1) := by decide +kernel
theorem dX1_signAt_2 : decode cX1_signAt 2 = .ok (.getfield 17, 3) := by decide +kernel
theorem dX1_signAt_5 : decode cX1_signAt 5 = .ok (.iconst 1, 1) := by decide +kernel
theorem dX1_signAt_6 : decode cX1_signAt 6 = .ok (.isub, 1) := by decide +kernel
theorem dX1_signAt_7 : decode cX1_signAt 7 = .ok (.iload_n 1, 1) := by decide +kernel
theorem dX1_signAt_8 : decode cX1_signAt 8 = .ok (.isub, 1) := by decide +kernel
theorem dX1_signAt_9 : decode cX1_signAt 9 = .ok (.invokevirtual 20, 3) := by decide +kernel
theorem dX1_signAt_12 : decode cX1_signAt 12 = .ok (.getfield 13, 3) := by decide +kernel
theorem dX1_signAt_15 : decode cX1_signAt 15 = .ok (.ireturn, 1) := by decide +kernel
theorem dX2_init_0 : decode cX2_init 0 = .ok (.aload_n 0, 1) := by decide +kernel
theorem dX2_init_1 : decode cX2_init 1 = .ok (.invokespecial 3, 3) := by decide +kernel
theorem dX2_init_4 : decode cX2_init 4 = .ok (.aload_n 0, 1) := by decide +kernel
theorem dX2_init_5 : decode cX2_init 5 = .ok (.bipush 12, 2) := by decide +kernel
theorem dX2_init_7 : decode cX2_init 7 = .ok (.newarray .int, 2) := by decide +kernel
theorem dX2_init_9 : decode cX2_init 9 = .ok (.putfield 9, 3) := by decide +kernel
theorem dX2_init_12 : decode cX2_init 12 = .ok (.aload_n 0, 1) := by decide +kernel
theorem dX2_init_13 : decode cX2_init 13 = .ok (.bipush 40, 2) := by decide +kernel
theorem dX2_init_15 : decode cX2_init 15 = .ok (.newarray .int, 2) := by decide +kernel
theorem dX2_init_17 : decode cX2_init 17 = .ok (.putfield 17, 3) := by decide +kernel
theorem dX2_init_20 : decode cX2_init 20 = .ok (.aload_n 0, 1) := by decide +kernel
theorem dX2_init_21 : decode cX2_init 21 = .ok (.bipush 40, 2) := by decide +kernel
theorem dX2_init_23 : decode cX2_init 23 = .ok (.newarray .int, 2) := by decide +kernel
theorem dX2_init_25 : decode cX2_init 25 = .ok (.putfield 20, 3) := by decide +kernel
theorem dX2_init_28 : decode cX2_init 28 = .ok (.aload_n 0, 1) := by decide +kernel
theorem dX2_init_29 : decode cX2_init 29 = .ok (.aload_n 1, 1) := by decide +kernel
theorem dX2_init_30 : decode cX2_init 30 = .ok (.putfield 23, 3) := by decide +kernel
theorem dX2_init_33 : decode cX2_init 33 = .ok (.aload_n 0, 1) := by decide +kernel
theorem dX2_init_34 : decode cX2_init 34 = .ok (.aload_n 2, 1) := by decide +kernel
theorem dX2_init_35 : decode cX2_init 35 = .ok (.putfield 27, 3) := by decide +kernel
theorem dX2_init_38 : decode cX2_init 38 = .ok (.aload_n 0, 1) := by decide +kernel
theorem dX2_init_39 : decode cX2_init 39 = .ok (.aload_n 3, 1) := by decide +kernel
theorem dX2_init_40 : decode cX2_init 40 = .ok (.putfield 31, 3) := by decide +kernel
theorem dX2_init_43 : decode cX2_init 43 = .ok (.return_, 1) := by decide +kernel
theorem dX2_seekForeseen_0 : decode cX2_seekForeseen 0 = .ok (.aload_n 0, 1) := by decide +kernel
theorem dX2_seekForeseen_1 : decode cX2_seekForeseen 1 = .ok (.iconst 0, 1) := by decide +kernel
theorem dX2_seekForeseen_2 : decode cX2_seekForeseen 2 = .ok (.putfield 35, 3) := by decide +kernel
theorem dX2_seekForeseen_5 : decode cX2_seekForeseen 5 = .ok (.aload_n 0, 1) := by decide +kernel
theorem dX2_seekForeseen_6 : decode cX2_seekForeseen 6 = .ok (.invokevirtual 39, 3) := by decide +kernel
theorem dX2_seekForeseen_9 : decode cX2_seekForeseen 9 = .ok (.istore_n 1, 1) := by decide +kernel
theorem dX2_seekForeseen_10 : decode cX2_seekForeseen 10 = .ok (.iconst 0, 1) := by decide +kernel
theorem dX2_seekForeseen_11 : decode cX2_seekForeseen 11 = .ok (.istore_n 2, 1) := by decide +kernel
theorem dX2_seekForeseen_12 : decode cX2_seekForeseen 12 = .ok (.iload_n 2, 1) := by decide +kernel
theorem dX2_seekForeseen_13 : decode cX2_seekForeseen 13 = .ok (.aload_n 0, 1) := by decide +kernel
theorem dX2_seekForeseen_14 : decode cX2_seekForeseen 14 = .ok (.getfield 23, 3) := by decide +kernel
theorem dX2_seekForeseen_17 : decode cX2_seekForeseen 17 = .ok (.invokevirtual 43, 3) := by decide +kernel
theorem dX2_seekForeseen_20 : decode cX2_seekForeseen 20 = .ok (.if_icmp .ge 43, 3) := by decide +kernel
theorem dX2_seekForeseen_23 : decode cX2_seekForeseen 23 = .ok (.aload_n 0, 1) := by decide +kernel
theorem dX2_seekForeseen_24 : decode cX2_seekForeseen 24 = .ok (.getfield 23, 3) := by decide +kernel
theorem dX2_seekForeseen_27 : decode cX2_seekForeseen 27 = .ok (.iload_n 2, 1) := by decide +kernel
theorem dX2_seekForeseen_28 : decode cX2_seekForeseen 28 = .ok (.invokevirtual 46, 3) := by decide +kernel
theorem dX2_seekForeseen_31 : decode cX2_seekForeseen 31 = .ok (.iload_n 1, 1) := by decide +kernel
theorem dX2_seekForeseen_32 : decode cX2_seekForeseen 32 = .ok (.if_icmp .le 25, 3) := by decide +kernel
theorem dX2_seekForeseen_35 : decode cX2_seekForeseen 35 = .ok (.aload_n 0, 1) := by decide +kernel
theorem dX2_seekForeseen_36 : decode cX2_seekForeseen 36 = .ok (.getfield 23, 3) := by decide +kernel
theorem dX2_seekForeseen_39 : decode cX2_seekForeseen 39 = .ok (.iload_n 2, 1) := by decide +kernel
theorem dX2_seekForeseen_40 : decode cX2_seekForeseen 40 = .ok (.aload_n 0, 1) := by decide +kernel
theorem dX2_seekForeseen_41 : decode cX2_seekForeseen 41 = .ok (.getfield 9, 3) := by decide +kernel
theorem dX2_seekForeseen_44 : decode cX2_seekForeseen 44 = .ok (.iload_n 1, 1) := by decide +kernel
theorem dX2_seekForeseen_45 : decode cX2_seekForeseen 45 = .ok (.invokevirtual 50, 3) := by decide +kernel
theorem dX2_seekForeseen_48 : decode cX2_seekForeseen 48 = .ok (.ifCond .eq 9, 3) := by decide +kernel
theorem dX2_seekForeseen_51 : decode cX2_seekForeseen 51 = .ok (.aload_n 0, 1) := by decide +kernel
theorem dX2_seekForeseen_52 : decode cX2_seekForeseen 52 = .ok (.iload_n 2, 1) := by decide +kernel
theorem dX2_seekForeseen_53 : decode cX2_seekForeseen 53 = .ok (.iconst 0, 1) := by decide +kernel
theorem dX2_seekForeseen_54 : decode cX2_seekForeseen 54 = .ok (.invokevirtual 54, 3) := by decide +kernel
theorem dX2_seekForeseen_57 : decode cX2_seekForeseen 57 = .ok (.iinc 2 1, 3) := by decide +kernel
theorem dX2_seekForeseen_60 : decode cX2_seekForeseen 60 = .ok (.goto (-48), 3) := by decide +kernel
theorem dX2_seekForeseen_63 : decode cX2_seekForeseen 63 = .ok (.return_, 1) := by decide +kernel
theorem dX2_seekOffered_0 : decode cX2_seekOffered 0 = .ok (.aload_n 0, 1) := by decide +kernel
theorem dX2_seekOffered_1 : decode cX2_seekOffered 1 = .ok (.iconst 0, 1) := by decide +kernel
theorem dX2_seekOffered_2 : decode cX2_seekOffered 2 = .ok (.putfield 35, 3) := by decide +kernel
theorem dX2_seekOffered_5 : decode cX2_seekOffered 5 = .ok (.aload_n 0, 1) := by decide +kernel
theorem dX2_seekOffered_6 : decode cX2_seekOffered 6 = .ok (.invokevirtual 39, 3) := by decide +kernel
theorem dX2_seekOffered_9 : decode cX2_seekOffered 9 = .ok (.istore_n 1, 1) := by decide +kernel
theorem dX2_seekOffered_10 : decode cX2_seekOffered 10 = .ok (.iload_n 1, 1) := by decide +kernel
theorem dX2_seekOffered_11 : decode cX2_seekOffered 11 = .ok (.ifCond .eq 19, 3) := by decide +kernel
theorem dX2_seekOffered_14 : decode cX2_seekOffered 14 = .ok (.aload_n 0, 1) := by decide +kernel
theorem dX2_seekOffered_15 : decode cX2_seekOffered 15 = .ok (.getfield 23, 3) := by decide +kernel
theorem dX2_seekOffered_18 : decode cX2_seekOffered 18 = .ok (.aload_n 0, 1) := by decide +kernel
theorem dX2_seekOffered_19 : decode cX2_seekOffered 19 = .ok (.getfield 9, 3) := by decide +kernel
theorem dX2_seekOffered_22 : decode cX2_seekOffered 22 = .ok (.iload_n 1, 1) := by decide +kernel
theorem dX2_seekOffered_23 : decode cX2_seekOffered 23 = .ok (.invokevirtual 58, 3) := by decide +kernel
theorem dX2_seekOffered_26 : decode cX2_seekOffered 26 = .ok (.iconst (-1), 1) := by decide +kernel
theorem dX2_seekOffered_27 : decode cX2_seekOffered 27 = .ok (.if_icmp .eq 4, 3) := by decide +kernel
theorem dX2_seekOffered_30 : decode cX2_seekOffered 30 = .ok (.return_, 1) := by decide +kernel
theorem dX2_seekOffered_31 : decode cX2_seekOffered 31 = .ok (.iconst 0, 1) := by decide +kernel
theorem dX2_seekOffered_32 : decode cX2_seekOffered 32 = .ok (.istore_n 2, 1) := by decide +kernel
theorem dX2_seekOffered_33 : decode cX2_seekOffered 33 = .ok (.iload_n 2, 1) := by decide +kernel
theorem dX2_seekOffered_34 : decode cX2_seekOffered 34 = .ok (.aload_n 0, 1) := by decide +kernel
theorem dX2_seekOffered_35 : decode cX2_seekOffered 35 = .ok (.getfield 23, 3) := by decide +kernel
theorem dX2_seekOffered_38 : decode cX2_seekOffered 38 = .ok (.invokevirtual 43, 3) := by decide +kernel
theorem dX2_seekOffered_41 : decode cX2_seekOffered 41 = .ok (.if_icmp .ge 43, 3) := by decide +kernel
theorem dX2_seekOffered_44 : decode cX2_seekOffered 44 = .ok (.aload_n 0, 1) := by decide +kernel
theorem dX2_seekOffered_45 : decode cX2_seekOffered 45 = .ok (.getfield 23, 3) := by decide +kernel
theorem dX2_seekOffered_48 : decode cX2_seekOffered 48 = .ok (.iload_n 2, 1) := by decide +kernel
theorem dX2_seekOffered_49 : decode cX2_seekOffered 49 = .ok (.invokevirtual 46, 3) := by decide +kernel
theorem dX2_seekOffered_52 : decode cX2_seekOffered 52 = .ok (.iload_n 1, 1) := by decide +kernel
theorem dX2_seekOffered_53 : decode cX2_seekOffered 53 = .ok (.if_icmp .ne 12, 3) := by decide +kernel
theorem dX2_seekOffered_56 : decode cX2_seekOffered 56 = .ok (.aload_n 0, 1) := by decide +kernel
theorem dX2_seekOffered_57 : decode cX2_seekOffered 57 = .ok (.iload_n 2, 1) := by decide +kernel
theorem dX2_seekOffered_58 : decode cX2_seekOffered 58 = .ok (.iload_n 1, 1) := by decide +kernel
theorem dX2_seekOffered_59 : decode cX2_seekOffered 59 = .ok (.invokevirtual 62, 3) := by decide +kernel
theorem dX2_seekOffered_62 : decode cX2_seekOffered 62 = .ok (.goto 4, 3) := by decide +kernel
theorem dX2_seekOffered_65 : decode cX2_seekOffered 65 = .ok (.iconst (-1), 1) := by decide +kernel
theorem dX2_seekOffered_66 : decode cX2_seekOffered 66 = .ok (.istore_n 3, 1) := by decide +kernel
theorem dX2_seekOffered_67 : decode cX2_seekOffered 67 = .ok (.iload_n 3, 1) := by decide +kernel
theorem dX2_seekOffered_68 : decode cX2_seekOffered 68 = .ok (.iconst (-1), 1) := by decide +kernel
theorem dX2_seekOffered_69 : decode cX2_seekOffered 69 = .ok (.if_icmp .eq 9, 3) := by decide +kernel
theorem dX2_seekOffered_72 : decode cX2_seekOffered 72 = .ok (.aload_n 0, 1) := by decide +kernel
theorem dX2_seekOffered_73 : decode cX2_seekOffered 73 = .ok (.iload_n 2, 1) := by decide +kernel
theorem dX2_seekOffered_74 : decode cX2_seekOffered 74 = .ok (.iload_n 3, 1) := by decide +kernel
theorem dX2_seekOffered_75 : decode cX2_seekOffered 75 = .ok (.invokevirtual 54, 3) := by decide +kernel
theorem dX2_seekOffered_78 : decode cX2_seekOffered 78 = .ok (.iinc 2 1, 3) := by decide +kernel
theorem dX2_seekOffered_81 : decode cX2_seekOffered 81 = .ok (.goto (-48), 3) := by decide +kernel
theorem dX2_seekOffered_84 : decode cX2_seekOffered 84 = .ok (.return_, 1) := by decide +kernel
theorem dX2_readWritten_0 : decode cX2_readWritten 0 = .ok (.aload_n 0, 1) := by decide +kernel
theorem dX2_readWritten_1 : decode cX2_readWritten 1 = .ok (.getfield 31, 3) := by decide +kernel
theorem dX2_readWritten_4 : decode cX2_readWritten 4 = .ok (.invokevirtual 66, 3) := by decide +kernel
theorem dX2_readWritten_7 : decode cX2_readWritten 7 = .ok (.istore_n 1, 1) := by decide +kernel
theorem dX2_readWritten_8 : decode cX2_readWritten 8 = .ok (.iload_n 1, 1) := by decide +kernel
theorem dX2_readWritten_9 : decode cX2_readWritten 9 = .ok (.bipush 12, 2) := by decide +kernel
theorem dX2_readWritten_11 : decode cX2_readWritten 11 = .ok (.if_icmp .gt 15, 3) := by decide +kernel
theorem dX2_readWritten_14 : decode cX2_readWritten 14 = .ok (.aload_n 0, 1) := by decide +kernel
theorem dX2_readWritten_15 : decode cX2_readWritten 15 = .ok (.getfield 31, 3) := by decide +kernel
theorem dX2_readWritten_18 : decode cX2_readWritten 18 = .ok (.iload_n 1, 1) := by decide +kernel
theorem dX2_readWritten_19 : decode cX2_readWritten 19 = .ok (.aload_n 0, 1) := by decide +kernel
theorem dX2_readWritten_20 : decode cX2_readWritten 20 = .ok (.getfield 9, 3) := by decide +kernel
theorem dX2_readWritten_23 : decode cX2_readWritten 23 = .ok (.invokevirtual 70, 3) := by decide +kernel
theorem dX2_readWritten_26 : decode cX2_readWritten 26 = .ok (.iload_n 1, 1) := by decide +kernel
theorem dX2_readWritten_27 : decode cX2_readWritten 27 = .ok (.ireturn, 1) := by decide +kernel
theorem dX2_slipsOf_0 : decode cX2_slipsOf 0 = .ok (.iconst 0, 1) := by decide +kernel
theorem dX2_slipsOf_1 : decode cX2_slipsOf 1 = .ok (.istore_n 3, 1) := by decide +kernel
theorem dX2_slipsOf_2 : decode cX2_slipsOf 2 = .ok (.iconst 0, 1) := by decide +kernel
theorem dX2_slipsOf_3 : decode cX2_slipsOf 3 = .ok (.istore 4, 2) := by decide +kernel
theorem dX2_slipsOf_5 : decode cX2_slipsOf 5 = .ok (.iload 4, 2) := by decide +kernel
theorem dX2_slipsOf_7 : decode cX2_slipsOf 7 = .ok (.iload_n 2, 1) := by decide +kernel
theorem dX2_slipsOf_8 : decode cX2_slipsOf 8 = .ok (.if_icmp .ge 69, 3) := by decide +kernel
theorem dX2_slipsOf_11 : decode cX2_slipsOf 11 = .ok (.iload 4, 2) := by decide +kernel
theorem dX2_slipsOf_13 : decode cX2_slipsOf 13 = .ok (.bipush 12, 2) := by decide +kernel
theorem dX2_slipsOf_15 : decode cX2_slipsOf 15 = .ok (.if_icmp .ge 62, 3) := by decide +kernel
theorem dX2_slipsOf_18 : decode cX2_slipsOf 18 = .ok (.aload_n 0, 1) := by decide +kernel
theorem dX2_slipsOf_19 : decode cX2_slipsOf 19 = .ok (.getfield 23, 3) := by decide +kernel
theorem dX2_slipsOf_22 : decode cX2_slipsOf 22 = .ok (.iload_n 1, 1) := by decide +kernel
theorem dX2_slipsOf_23 : decode cX2_slipsOf 23 = .ok (.iload 4, 2) := by decide +kernel
theorem dX2_slipsOf_25 : decode cX2_slipsOf 25 = .ok (.invokevirtual 74, 3) := by decide +kernel
theorem dX2_slipsOf_28 : decode cX2_slipsOf 28 = .ok (.istore 5, 2) := by decide +kernel
theorem dX2_slipsOf_30 : decode cX2_slipsOf 30 = .ok (.iload 5, 2) := by decide +kernel
theorem dX2_slipsOf_32 : decode cX2_slipsOf 32 = .ok (.aload_n 0, 1) := by decide +kernel
theorem dX2_slipsOf_33 : decode cX2_slipsOf 33 = .ok (.getfield 9, 3) := by decide +kernel
theorem dX2_slipsOf_36 : decode cX2_slipsOf 36 = .ok (.iload 4, 2) := by decide +kernel
theorem dX2_slipsOf_38 : decode cX2_slipsOf 38 = .ok (.iaload, 1) := by decide +kernel
theorem dX2_slipsOf_39 : decode cX2_slipsOf 39 = .ok (.if_icmp .eq 32, 3) := by decide +kernel
theorem dX2_slipsOf_42 : decode cX2_slipsOf 42 = .ok (.iinc 3 1, 3) := by decide +kernel
theorem dX2_slipsOf_45 : decode cX2_slipsOf 45 = .ok (.iload_n 3, 1) := by decide +kernel
theorem dX2_slipsOf_46 : decode cX2_slipsOf 46 = .ok (.iconst 2, 1) := by decide +kernel
theorem dX2_slipsOf_47 : decode cX2_slipsOf 47 = .ok (.if_icmp .gt 22, 3) := by decide +kernel
theorem dX2_slipsOf_50 : decode cX2_slipsOf 50 = .ok (.aload_n 0, 1) := by decide +kernel
theorem dX2_slipsOf_51 : decode cX2_slipsOf 51 = .ok (.getfield 27, 3) := by decide +kernel
theorem dX2_slipsOf_54 : decode cX2_slipsOf 54 = .ok (.iload 5, 2) := by decide +kernel
theorem dX2_slipsOf_56 : decode cX2_slipsOf 56 = .ok (.aload_n 0, 1) := by decide +kernel
theorem dX2_slipsOf_57 : decode cX2_slipsOf 57 = .ok (.getfield 9, 3) := by decide +kernel
theorem dX2_slipsOf_60 : decode cX2_slipsOf 60 = .ok (.iload 4, 2) := by decide +kernel
theorem dX2_slipsOf_62 : decode cX2_slipsOf 62 = .ok (.iaload, 1) := by decide +kernel
theorem dX2_slipsOf_63 : decode cX2_slipsOf 63 = .ok (.invokevirtual 77, 3) := by decide +kernel
theorem dX2_slipsOf_66 : decode cX2_slipsOf 66 = .ok (.ifCond .ne 5, 3) := by decide +kernel
theorem dX2_slipsOf_69 : decode cX2_slipsOf 69 = .ok (.iconst (-1), 1) := by decide +kernel
theorem dX2_slipsOf_70 : decode cX2_slipsOf 70 = .ok (.ireturn, 1) := by decide +kernel
theorem dX2_slipsOf_71 : decode cX2_slipsOf 71 = .ok (.iinc 4 1, 3) := by decide +kernel
theorem dX2_slipsOf_74 : decode cX2_slipsOf 74 = .ok (.goto (-69), 3) := by decide +kernel
theorem dX2_slipsOf_77 : decode cX2_slipsOf 77 = .ok (.iload_n 3, 1) := by decide +kernel
theorem dX2_slipsOf_78 : decode cX2_slipsOf 78 = .ok (.ireturn, 1) := by decide +kernel
theorem dX2_enlist_0 : decode cX2_enlist 0 = .ok (.aload_n 0, 1) := by decide +kernel
theorem dX2_enlist_1 : decode cX2_enlist 1 = .ok (.getfield 35, 3) := by decide +kernel
theorem dX2_enlist_4 : decode cX2_enlist 4 = .ok (.bipush 40, 2) := by decide +kernel
theorem dX2_enlist_6 : decode cX2_enlist 6 = .ok (.if_icmp .lt 4, 3) := by decide +kernel
theorem dX2_enlist_9 : decode cX2_enlist 9 = .ok (.return_, 1) := by decide +kernel
theorem dX2_enlist_10 : decode cX2_enlist 10 = .ok (.aload_n 0, 1) := by decide +kernel
theorem dX2_enlist_11 : decode cX2_enlist 11 = .ok (.getfield 35, 3) := by decide +kernel
theorem dX2_enlist_14 : decode cX2_enlist 14 = .ok (.istore_n 3, 1) := by decide +kernel
theorem dX2_enlist_15 : decode cX2_enlist 15 = .ok (.iload_n 3, 1) := by decide +kernel
theorem dX2_enlist_16 : decode cX2_enlist 16 = .ok (.ifCond .le 49, 3) := by decide +kernel
theorem dX2_enlist_19 : decode cX2_enlist 19 = .ok (.aload_n 0, 1) := by decide +kernel
theorem dX2_enlist_20 : decode cX2_enlist 20 = .ok (.iload_n 1, 1) := by decide +kernel
theorem dX2_enlist_21 : decode cX2_enlist 21 = .ok (.iload_n 2, 1) := by decide +kernel
theorem dX2_enlist_22 : decode cX2_enlist 22 = .ok (.iload_n 3, 1) := by decide +kernel
theorem dX2_enlist_23 : decode cX2_enlist 23 = .ok (.iconst 1, 1) := by decide +kernel
theorem dX2_enlist_24 : decode cX2_enlist 24 = .ok (.isub, 1) := by decide +kernel
theorem dX2_enlist_25 : decode cX2_enlist 25 = .ok (.invokevirtual 83, 3) := by decide +kernel
theorem dX2_enlist_28 : decode cX2_enlist 28 = .ok (.ifCond .eq 37, 3) := by decide +kernel
theorem dX2_enlist_31 : decode cX2_enlist 31 = .ok (.aload_n 0, 1) := by decide +kernel
theorem dX2_enlist_32 : decode cX2_enlist 32 = .ok (.getfield 17, 3) := by decide +kernel
theorem dX2_enlist_35 : decode cX2_enlist 35 = .ok (.iload_n 3, 1) := by decide +kernel
theorem dX2_enlist_36 : decode cX2_enlist 36 = .ok (.aload_n 0, 1) := by decide +kernel
theorem dX2_enlist_37 : decode cX2_enlist 37 = .ok (.getfield 17, 3) := by decide +kernel
theorem dX2_enlist_40 : decode cX2_enlist 40 = .ok (.iload_n 3, 1) := by decide +kernel
theorem dX2_enlist_41 : decode cX2_enlist 41 = .ok (.iconst 1, 1) := by decide +kernel
theorem dX2_enlist_42 : decode cX2_enlist 42 = .ok (.isub, 1) := by decide +kernel
theorem dX2_enlist_43 : decode cX2_enlist 43 = .ok (.iaload, 1) := by decide +kernel
theorem dX2_enlist_44 : decode cX2_enlist 44 = .ok (.iastore, 1) := by decide +kernel
theorem dX2_enlist_45 : decode cX2_enlist 45 = .ok (.aload_n 0, 1) := by decide +kernel
theorem dX2_enlist_46 : decode cX2_enlist 46 = .ok (.getfield 20, 3) := by decide +kernel
theorem dX2_enlist_49 : decode cX2_enlist 49 = .ok (.iload_n 3, 1) := by decide +kernel
theorem dX2_enlist_50 : decode cX2_enlist 50 = .ok (.aload_n 0, 1) := by decide +kernel
theorem dX2_enlist_51 : decode cX2_enlist 51 = .ok (.getfield 20, 3) := by decide +kernel
theorem dX2_enlist_54 : decode cX2_enlist 54 = .ok (.iload_n 3, 1) := by decide +kernel
theorem dX2_enlist_55 : decode cX2_enlist 55 = .ok (.iconst 1, 1) := by decide +kernel
theorem dX2_enlist_56 : decode cX2_enlist 56 = .ok (.isub, 1) := by decide +kernel
theorem dX2_enlist_57 : decode cX2_enlist 57 = .ok (.iaload, 1) := by decide +kernel
theorem dX2_enlist_58 : decode cX2_enlist 58 = .ok (.iastore, 1) := by decide +kernel
theorem dX2_enlist_59 : decode cX2_enlist 59 = .ok (.iinc 3 (-1), 3) := by decide +kernel
theorem dX2_enlist_62 : decode cX2_enlist 62 = .ok (.goto (-47), 3) := by decide +kernel
theorem dX2_enlist_65 : decode cX2_enlist 65 = .ok (.aload_n 0, 1) := by decide +kernel
theorem dX2_enlist_66 : decode cX2_enlist 66 = .ok (.getfield 17, 3) := by decide +kernel
theorem dX2_enlist_69 : decode cX2_enlist 69 = .ok (.iload_n 3, 1) := by decide +kernel
theorem dX2_enlist_70 : decode cX2_enlist 70 = .ok (.iload_n 1, 1) := by decide +kernel
theorem dX2_enlist_71 : decode cX2_enlist 71 = .ok (.iastore, 1) := by decide +kernel
theorem dX2_enlist_72 : decode cX2_enlist 72 = .ok (.aload_n 0, 1) := by decide +kernel
theorem dX2_enlist_73 : decode cX2_enlist 73 = .ok (.getfield 20, 3) := by decide +kernel
theorem dX2_enlist_76 : decode cX2_enlist 76 = .ok (.iload_n 3, 1) := by decide +kernel
theorem dX2_enlist_77 : decode cX2_enlist 77 = .ok (.iload_n 2, 1) := by decide +kernel
theorem dX2_enlist_78 : decode cX2_enlist 78 = .ok (.iastore, 1) := by decide +kernel
theorem dX2_enlist_79 : decode cX2_enlist 79 = .ok (.aload_n 0, 1) := by decide +kernel
theorem dX2_enlist_80 : decode cX2_enlist 80 = .ok (.dup, 1) := by decide +kernel
theorem dX2_enlist_81 : decode cX2_enlist 81 = .ok (.getfield 35, 3) := by decide +kernel
theorem dX2_enlist_84 : decode cX2_enlist 84 = .ok (.iconst 1, 1) := by decide +kernel
theorem dX2_enlist_85 : decode cX2_enlist 85 = .ok (.iadd, 1) := by decide +kernel
theorem dX2_enlist_86 : decode cX2_enlist 86 = .ok (.putfield 35, 3) := by decide +kernel
theorem dX2_enlist_89 : decode cX2_enlist 89 = .ok (.return_, 1) := by decide +kernel
theorem dX2_isBetter_0 : decode cX2_isBetter 0 = .ok (.iload_n 2, 1) := by decide +kernel
theorem dX2_isBetter_1 : decode cX2_isBetter 1 = .ok (.aload_n 0, 1) := by decide +kernel
theorem dX2_isBetter_2 : decode cX2_isBetter 2 = .ok (.getfield 20, 3) := by decide +kernel
theorem dX2_isBetter_5 : decode cX2_isBetter 5 = .ok (.iload_n 3, 1) := by decide +kernel
theorem dX2_isBetter_6 : decode cX2_isBetter 6 = .ok (.iaload, 1) := by decide +kernel
theorem dX2_isBetter_7 : decode cX2_isBetter 7 = .ok (.if_icmp .eq 19, 3) := by decide +kernel
theorem dX2_isBetter_10 : decode cX2_isBetter 10 = .ok (.iload_n 2, 1) := by decide +kernel
theorem dX2_isBetter_11 : decode cX2_isBetter 11 = .ok (.aload_n 0, 1) := by decide +kernel
theorem dX2_isBetter_12 : decode cX2_isBetter 12 = .ok (.getfield 20, 3) := by decide +kernel
theorem dX2_isBetter_15 : decode cX2_isBetter 15 = .ok (.iload_n 3, 1) := by decide +kernel
theorem dX2_isBetter_16 : decode cX2_isBetter 16 = .ok (.iaload, 1) := by decide +kernel
theorem dX2_isBetter_17 : decode cX2_isBetter 17 = .ok (.if_icmp .ge 7, 3) := by decide +kernel
theorem dX2_isBetter_20 : decode cX2_isBetter 20 = .ok (.iconst 1, 1) := by decide +kernel
theorem dX2_isBetter_21 : decode cX2_isBetter 21 = .ok (.goto 4, 3) := by decide +kernel
theorem dX2_isBetter_24 : decode cX2_isBetter 24 = .ok (.iconst 0, 1) := by decide +kernel
theorem dX2_isBetter_25 : decode cX2_isBetter 25 = .ok (.ireturn, 1) := by decide +kernel
theorem dX2_isBetter_26 : decode cX2_isBetter 26 = .ok (.aload_n 0, 1) := by decide +kernel
theorem dX2_isBetter_27 : decode cX2_isBetter 27 = .ok (.getfield 23, 3) := by decide +kernel
theorem dX2_isBetter_30 : decode cX2_isBetter 30 = .ok (.iload_n 1, 1) := by decide +kernel
theorem dX2_isBetter_31 : decode cX2_isBetter 31 = .ok (.invokevirtual 87, 3) := by decide +kernel
theorem dX2_isBetter_34 : decode cX2_isBetter 34 = .ok (.aload_n 0, 1) := by decide +kernel
theorem dX2_isBetter_35 : decode cX2_isBetter 35 = .ok (.getfield 23, 3) := by decide +kernel
theorem dX2_isBetter_38 : decode cX2_isBetter 38 = .ok (.aload_n 0, 1) := by decide +kernel
theorem dX2_isBetter_39 : decode cX2_isBetter 39 = .ok (.getfield 17, 3) := by decide +kernel
theorem dX2_isBetter_42 : decode cX2_isBetter 42 = .ok (.iload_n 3, 1) := by decide +kernel
theorem dX2_isBetter_43 : decode cX2_isBetter 43 = .ok (.iaload, 1) := by decide +kernel
theorem dX2_isBetter_44 : decode cX2_isBetter 44 = .ok (.invokevirtual 87, 3) := by decide +kernel
theorem dX2_isBetter_47 : decode cX2_isBetter 47 = .ok (.if_icmp .le 7, 3) := by decide +kernel
theorem dX2_isBetter_50 : decode cX2_isBetter 50 = .ok (.iconst 1, 1) := by decide +kernel
theorem dX2_isBetter_51 : decode cX2_isBetter 51 = .ok (.goto 4, 3) := by decide +kernel
theorem dX2_isBetter_54 : decode cX2_isBetter 54 = .ok (.iconst 0, 1) := by decide +kernel
theorem dX2_isBetter_55 : decode cX2_isBetter 55 = .ok (.ireturn, 1) := by decide +kernel
theorem dX2_found_0 : decode cX2_found 0 = .ok (.aload_n 0, 1) := by decide +kernel
theorem dX2_found_1 : decode cX2_found 1 = .ok (.getfield 35, 3) := by decide +kernel
theorem dX2_found_4 : decode cX2_found 4 = .ok (.ireturn, 1) := by decide +kernel
theorem dX2_foundAt_0 : decode cX2_foundAt 0 = .ok (.iload_n 1, 1) := by decide +kernel
theorem dX2_foundAt_1 : decode cX2_foundAt 1 = .ok (.ifCond .lt 20, 3) := by decide +kernel
theorem dX2_foundAt_4 : decode cX2_foundAt 4 = .ok (.iload_n 1, 1) := by decide +kernel
theorem dX2_foundAt_5 : decode cX2_foundAt 5 = .ok (.aload_n 0, 1) := by decide +kernel
theorem dX2_foundAt_6 : decode cX2_foundAt 6 = .ok (.getfield 35, 3) := by decide +kernel
theorem dX2_foundAt_9 : decode cX2_foundAt 9 = .ok (.if_icmp .ge 12, 3) := by decide +kernel
theorem dX2_foundAt_12 : decode cX2_foundAt 12 = .ok (.aload_n 0, 1) := by decide +kernel
theorem dX2_foundAt_13 : decode cX2_foundAt 13 = .ok (.getfield 17, 3) := by decide +kernel
theorem dX2_foundAt_16 : decode cX2_foundAt 16 = .ok (.iload_n 1, 1) := by decide +kernel
theorem dX2_foundAt_17 : decode cX2_foundAt 17 = .ok (.iaload, 1) := by decide +kernel
theorem dX2_foundAt_18 : decode cX2_foundAt 18 = .ok (.goto 4, 3) := by decide +kernel
theorem dX2_foundAt_21 : decode cX2_foundAt 21 = .ok (.iconst (-1), 1) := by decide +kernel
theorem dX2_foundAt_22 : decode cX2_foundAt 22 = .ok (.ireturn, 1) := by decide +kernel
theorem dX3_init_0 : decode cX3_init 0 = .ok (.aload_n 0, 1) := by decide +kernel
theorem dX3_init_1 : decode cX3_init 1 = .ok (.invokespecial 3, 3) := by decide +kernel
theorem dX3_init_4 : decode cX3_init 4 = .ok (.aload_n 0, 1) := by decide +kernel
theorem dX3_init_5 : decode cX3_init 5 = .ok (.aload_n 1, 1) := by decide +kernel
theorem dX3_init_6 : decode cX3_init 6 = .ok (.putfield 9, 3) := by decide +kernel
theorem dX3_init_9 : decode cX3_init 9 = .ok (.aload_n 0, 1) := by decide +kernel
theorem dX3_init_10 : decode cX3_init 10 = .ok (.aload_n 2, 1) := by decide +kernel
theorem dX3_init_11 : decode cX3_init 11 = .ok (.putfield 15, 3) := by decide +kernel
theorem dX3_init_14 : decode cX3_init 14 = .ok (.aload_n 0, 1) := by decide +kernel
theorem dX3_init_15 : decode cX3_init 15 = .ok (.iconst 0, 1) := by decide +kernel
theorem dX3_init_16 : decode cX3_init 16 = .ok (.invokevirtual 19, 3) := by decide +kernel
theorem dX3_init_19 : decode cX3_init 19 = .ok (.return_, 1) := by decide +kernel
theorem dX3_comeTo_0 : decode cX3_comeTo 0 = .ok (.aload_n 0, 1) := by decide +kernel
theorem dX3_comeTo_1 : decode cX3_comeTo 1 = .ok (.iload_n 1, 1) := by decide +kernel
theorem dX3_comeTo_2 : decode cX3_comeTo 2 = .ok (.putfield 23, 3) := by decide +kernel
theorem dX3_comeTo_5 : decode cX3_comeTo 5 = .ok (.aload_n 0, 1) := by decide +kernel
theorem dX3_comeTo_6 : decode cX3_comeTo 6 = .ok (.aload_n 0, 1) := by decide +kernel
theorem dX3_comeTo_7 : decode cX3_comeTo 7 = .ok (.getfield 9, 3) := by decide +kernel
theorem dX3_comeTo_10 : decode cX3_comeTo 10 = .ok (.iload_n 1, 1) := by decide +kernel
theorem dX3_comeTo_11 : decode cX3_comeTo 11 = .ok (.invokevirtual 27, 3) := by decide +kernel
theorem dX3_comeTo_14 : decode cX3_comeTo 14 = .ok (.putfield 33, 3) := by decide +kernel
theorem dX3_comeTo_17 : decode cX3_comeTo 17 = .ok (.aload_n 0, 1) := by decide +kernel
theorem dX3_comeTo_18 : decode cX3_comeTo 18 = .ok (.iconst (-1), 1) := by decide +kernel
theorem dX3_comeTo_19 : decode cX3_comeTo 19 = .ok (.putfield 36, 3) := by decide +kernel
theorem dX3_comeTo_22 : decode cX3_comeTo 22 = .ok (.aload_n 0, 1) := by decide +kernel
theorem dX3_comeTo_23 : decode cX3_comeTo 23 = .ok (.aload_n 0, 1) := by decide +kernel
theorem dX3_comeTo_24 : decode cX3_comeTo 24 = .ok (.getfield 39, 3) := by decide +kernel
theorem dX3_comeTo_27 : decode cX3_comeTo 27 = .ok (.putfield 42, 3) := by decide +kernel
theorem dX3_comeTo_30 : decode cX3_comeTo 30 = .ok (.aload_n 0, 1) := by decide +kernel
theorem dX3_comeTo_31 : decode cX3_comeTo 31 = .ok (.iconst 0, 1) := by decide +kernel
theorem dX3_comeTo_32 : decode cX3_comeTo 32 = .ok (.putfield 45, 3) := by decide +kernel
theorem dX3_comeTo_35 : decode cX3_comeTo 35 = .ok (.return_, 1) := by decide +kernel
theorem dX3_pass_0 : decode cX3_pass 0 = .ok (.iload_n 1, 1) := by decide +kernel
theorem dX3_pass_1 : decode cX3_pass 1 = .ok (.iconst 0, 1) := by decide +kernel
theorem dX3_pass_2 : decode cX3_pass 2 = .ok (.sipush 1000, 3) := by decide +kernel
theorem dX3_pass_5 : decode cX3_pass 5 = .ok (.invokestatic 48, 3) := by decide +kernel
theorem dX3_pass_8 : decode cX3_pass 8 = .ok (.ifCond .eq 14, 3) := by decide +kernel
theorem dX3_pass_11 : decode cX3_pass 11 = .ok (.aload_n 0, 1) := by decide +kernel
theorem dX3_pass_12 : decode cX3_pass 12 = .ok (.getfield 39, 3) := by decide +kernel
theorem dX3_pass_15 : decode cX3_pass 15 = .ok (.ldc 52, 2) := by decide +kernel
theorem dX3_pass_17 : decode cX3_pass 17 = .ok (.iload_n 1, 1) := by decide +kernel
theorem dX3_pass_18 : decode cX3_pass 18 = .ok (.isub, 1) := by decide +kernel
theorem dX3_pass_19 : decode cX3_pass 19 = .ok (.if_icmp .le 6, 3) := by decide +kernel
theorem dX3_pass_22 : decode cX3_pass 22 = .ok (.bipush (-2), 2) := by decide +kernel
theorem dX3_pass_24 : decode cX3_pass 24 = .ok (.ireturn, 1) := by decide +kernel
theorem dX3_pass_25 : decode cX3_pass 25 = .ok (.aload_n 0, 1) := by decide +kernel
theorem dX3_pass_26 : decode cX3_pass 26 = .ok (.getfield 39, 3) := by decide +kernel
theorem dX3_pass_29 : decode cX3_pass 29 = .ok (.iload_n 1, 1) := by decide +kernel
theorem dX3_pass_30 : decode cX3_pass 30 = .ok (.iadd, 1) := by decide +kernel
theorem dX3_pass_31 : decode cX3_pass 31 = .ok (.istore_n 2, 1) := by decide +kernel
theorem dX3_pass_32 : decode cX3_pass 32 = .ok (.iconst 0, 1) := by decide +kernel
theorem dX3_pass_33 : decode cX3_pass 33 = .ok (.istore_n 3, 1) := by decide +kernel
theorem dX3_pass_34 : decode cX3_pass 34 = .ok (.iload_n 3, 1) := by decide +kernel
theorem dX3_pass_35 : decode cX3_pass 35 = .ok (.iload_n 1, 1) := by decide +kernel
theorem dX3_pass_36 : decode cX3_pass 36 = .ok (.if_icmp .ge 73, 3) := by decide +kernel
theorem dX3_pass_39 : decode cX3_pass 39 = .ok (.aload_n 0, 1) := by decide +kernel
theorem dX3_pass_40 : decode cX3_pass 40 = .ok (.getfield 39, 3) := by decide +kernel
theorem dX3_pass_43 : decode cX3_pass 43 = .ok (.iload_n 2, 1) := by decide +kernel
theorem dX3_pass_44 : decode cX3_pass 44 = .ok (.if_icmp .ge 65, 3) := by decide +kernel
theorem dX3_pass_47 : decode cX3_pass 47 = .ok (.aload_n 0, 1) := by decide +kernel
theorem dX3_pass_48 : decode cX3_pass 48 = .ok (.getfield 39, 3) := by decide +kernel
theorem dX3_pass_51 : decode cX3_pass 51 = .ok (.iconst 1, 1) := by decide +kernel
theorem dX3_pass_52 : decode cX3_pass 52 = .ok (.iadd, 1) := by decide +kernel
theorem dX3_pass_53 : decode cX3_pass 53 = .ok (.aload_n 0, 1) := by decide +kernel
theorem dX3_pass_54 : decode cX3_pass 54 = .ok (.getfield 42, 3) := by decide +kernel
theorem dX3_pass_57 : decode cX3_pass 57 = .ok (.aload_n 0, 1) := by decide +kernel
theorem dX3_pass_58 : decode cX3_pass 58 = .ok (.getfield 15, 3) := by decide +kernel
theorem dX3_pass_61 : decode cX3_pass 61 = .ok (.iconst 0, 1) := by decide +kernel
theorem dX3_pass_62 : decode cX3_pass 62 = .ok (.invokevirtual 53, 3) := by decide +kernel
theorem dX3_pass_65 : decode cX3_pass 65 = .ok (.iadd, 1) := by decide +kernel
theorem dX3_pass_66 : decode cX3_pass 66 = .ok (.invokestatic 58, 3) := by decide +kernel
theorem dX3_pass_69 : decode cX3_pass 69 = .ok (.istore 4, 2) := by decide +kernel
theorem dX3_pass_71 : decode cX3_pass 71 = .ok (.aload_n 0, 1) := by decide +kernel
theorem dX3_pass_72 : decode cX3_pass 72 = .ok (.getfield 33, 3) := by decide +kernel
theorem dX3_pass_75 : decode cX3_pass 75 = .ok (.iconst (-1), 1) := by decide +kernel
theorem dX3_pass_76 : decode cX3_pass 76 = .ok (.if_icmp .eq 9, 3) := by decide +kernel
theorem dX3_pass_79 : decode cX3_pass 79 = .ok (.iload 4, 2) := by decide +kernel
theorem dX3_pass_81 : decode cX3_pass 81 = .ok (.iload_n 2, 1) := by decide +kernel
theorem dX3_pass_82 : decode cX3_pass 82 = .ok (.if_icmp .le 11, 3) := by decide +kernel
theorem dX3_pass_85 : decode cX3_pass 85 = .ok (.aload_n 0, 1) := by decide +kernel
theorem dX3_pass_86 : decode cX3_pass 86 = .ok (.iload_n 2, 1) := by decide +kernel
theorem dX3_pass_87 : decode cX3_pass 87 = .ok (.putfield 39, 3) := by decide +kernel
theorem dX3_pass_90 : decode cX3_pass 90 = .ok (.goto 13, 3) := by decide +kernel
theorem dX3_pass_93 : decode cX3_pass 93 = .ok (.aload_n 0, 1) := by decide +kernel
theorem dX3_pass_94 : decode cX3_pass 94 = .ok (.iload 4, 2) := by decide +kernel
theorem dX3_pass_96 : decode cX3_pass 96 = .ok (.putfield 39, 3) := by decide +kernel
theorem dX3_pass_99 : decode cX3_pass 99 = .ok (.aload_n 0, 1) := by decide +kernel
theorem dX3_pass_100 : decode cX3_pass 100 = .ok (.invokevirtual 64, 3) := by decide +kernel
theorem dX3_pass_103 : decode cX3_pass 103 = .ok (.iinc 3 1, 3) := by decide +kernel
theorem dX3_pass_106 : decode cX3_pass 106 = .ok (.goto (-72), 3) := by decide +kernel
theorem dX3_pass_109 : decode cX3_pass 109 = .ok (.aload_n 0, 1) := by decide +kernel
theorem dX3_pass_110 : decode cX3_pass 110 = .ok (.getfield 33, 3) := by decide +kernel
theorem dX3_pass_113 : decode cX3_pass 113 = .ok (.ireturn, 1) := by decide +kernel
theorem dX3_change_0 : decode cX3_change 0 = .ok (.aload_n 0, 1) := by decide +kernel
theorem dX3_change_1 : decode cX3_change 1 = .ok (.getfield 9, 3) := by decide +kernel
theorem dX3_change_4 : decode cX3_change 4 = .ok (.aload_n 0, 1) := by decide +kernel
theorem dX3_change_5 : decode cX3_change 5 = .ok (.getfield 33, 3) := by decide +kernel
theorem dX3_change_8 : decode cX3_change 8 = .ok (.invokevirtual 67, 3) := by decide +kernel
theorem dX3_change_11 : decode cX3_change 11 = .ok (.istore_n 1, 1) := by decide +kernel
theorem dX3_change_12 : decode cX3_change 12 = .ok (.iload_n 1, 1) := by decide +kernel
theorem dX3_change_13 : decode cX3_change 13 = .ok (.iconst (-1), 1) := by decide +kernel
theorem dX3_change_14 : decode cX3_change 14 = .ok (.if_icmp .ne 53, 3) := by decide +kernel
theorem dX3_change_17 : decode cX3_change 17 = .ok (.aload_n 0, 1) := by decide +kernel
theorem dX3_change_18 : decode cX3_change 18 = .ok (.dup, 1) := by decide +kernel
theorem dX3_change_19 : decode cX3_change 19 = .ok (.getfield 45, 3) := by decide +kernel
theorem dX3_change_22 : decode cX3_change 22 = .ok (.iconst 1, 1) := by decide +kernel
theorem dX3_change_23 : decode cX3_change 23 = .ok (.iadd, 1) := by decide +kernel
theorem dX3_change_24 : decode cX3_change 24 = .ok (.putfield 45, 3) := by decide +kernel
theorem dX3_change_27 : decode cX3_change 27 = .ok (.aload_n 0, 1) := by decide +kernel
theorem dX3_change_28 : decode cX3_change 28 = .ok (.getfield 23, 3) := by decide +kernel
theorem dX3_change_31 : decode cX3_change 31 = .ok (.ifCond .eq 24, 3) := by decide +kernel
theorem dX3_change_34 : decode cX3_change 34 = .ok (.aload_n 0, 1) := by decide +kernel
theorem dX3_change_35 : decode cX3_change 35 = .ok (.getfield 45, 3) := by decide +kernel
theorem dX3_change_38 : decode cX3_change 38 = .ok (.aload_n 0, 1) := by decide +kernel
theorem dX3_change_39 : decode cX3_change 39 = .ok (.getfield 15, 3) := by decide +kernel
theorem dX3_change_42 : decode cX3_change 42 = .ok (.iconst 1, 1) := by decide +kernel
theorem dX3_change_43 : decode cX3_change 43 = .ok (.invokevirtual 53, 3) := by decide +kernel
theorem dX3_change_46 : decode cX3_change 46 = .ok (.if_icmp .lt 9, 3) := by decide +kernel
theorem dX3_change_49 : decode cX3_change 49 = .ok (.aload_n 0, 1) := by decide +kernel
theorem dX3_change_50 : decode cX3_change 50 = .ok (.iconst 0, 1) := by decide +kernel
theorem dX3_change_51 : decode cX3_change 51 = .ok (.invokevirtual 19, 3) := by decide +kernel
theorem dX3_change_54 : decode cX3_change 54 = .ok (.return_, 1) := by decide +kernel
theorem dX3_change_55 : decode cX3_change 55 = .ok (.aload_n 0, 1) := by decide +kernel
theorem dX3_change_56 : decode cX3_change 56 = .ok (.getfield 9, 3) := by decide +kernel
theorem dX3_change_59 : decode cX3_change 59 = .ok (.aload_n 0, 1) := by decide +kernel
theorem dX3_change_60 : decode cX3_change 60 = .ok (.getfield 23, 3) := by decide +kernel
theorem dX3_change_63 : decode cX3_change 63 = .ok (.invokevirtual 27, 3) := by decide +kernel
theorem dX3_change_66 : decode cX3_change 66 = .ok (.istore_n 1, 1) := by decide +kernel
theorem dX3_change_67 : decode cX3_change 67 = .ok (.aload_n 0, 1) := by decide +kernel
theorem dX3_change_68 : decode cX3_change 68 = .ok (.aload_n 0, 1) := by decide +kernel
theorem dX3_change_69 : decode cX3_change 69 = .ok (.getfield 33, 3) := by decide +kernel
theorem dX3_change_72 : decode cX3_change 72 = .ok (.putfield 36, 3) := by decide +kernel
theorem dX3_change_75 : decode cX3_change 75 = .ok (.aload_n 0, 1) := by decide +kernel
theorem dX3_change_76 : decode cX3_change 76 = .ok (.iload_n 1, 1) := by decide +kernel
theorem dX3_change_77 : decode cX3_change 77 = .ok (.putfield 33, 3) := by decide +kernel
theorem dX3_change_80 : decode cX3_change 80 = .ok (.aload_n 0, 1) := by decide +kernel
theorem dX3_change_81 : decode cX3_change 81 = .ok (.aload_n 0, 1) := by decide +kernel
theorem dX3_change_82 : decode cX3_change 82 = .ok (.getfield 39, 3) := by decide +kernel
theorem dX3_change_85 : decode cX3_change 85 = .ok (.putfield 42, 3) := by decide +kernel
theorem dX3_change_88 : decode cX3_change 88 = .ok (.return_, 1) := by decide +kernel
theorem dX3_take_0 : decode cX3_take 0 = .ok (.aload_n 0, 1) := by decide +kernel
theorem dX3_take_1 : decode cX3_take 1 = .ok (.getfield 33, 3) := by decide +kernel
theorem dX3_take_4 : decode cX3_take 4 = .ok (.iconst (-1), 1) := by decide +kernel
theorem dX3_take_5 : decode cX3_take 5 = .ok (.if_icmp .eq 30, 3) := by decide +kernel
theorem dX3_take_8 : decode cX3_take 8 = .ok (.aload_n 0, 1) := by decide +kernel
theorem dX3_take_9 : decode cX3_take 9 = .ok (.getfield 70, 3) := by decide +kernel
theorem dX3_take_12 : decode cX3_take 12 = .ok (.ifCond .le 25, 3) := by decide +kernel
theorem dX3_take_15 : decode cX3_take 15 = .ok (.aload_n 0, 1) := by decide +kernel
theorem dX3_take_16 : decode cX3_take 16 = .ok (.getfield 39, 3) := by decide +kernel
theorem dX3_take_19 : decode cX3_take 19 = .ok (.aload_n 0, 1) := by decide +kernel
theorem dX3_take_20 : decode cX3_take 20 = .ok (.getfield 73, 3) := by decide +kernel
theorem dX3_take_23 : decode cX3_take 23 = .ok (.isub, 1) := by decide +kernel
theorem dX3_take_24 : decode cX3_take 24 = .ok (.aload_n 0, 1) := by decide +kernel
theorem dX3_take_25 : decode cX3_take 25 = .ok (.getfield 15, 3) := by decide +kernel
theorem dX3_take_28 : decode cX3_take 28 = .ok (.iconst 3, 1) := by decide +kernel
theorem dX3_take_29 : decode cX3_take 29 = .ok (.invokevirtual 53, 3) := by decide +kernel
theorem dX3_take_32 : decode cX3_take 32 = .ok (.if_icmp .ge 5, 3) := by decide +kernel
theorem dX3_take_35 : decode cX3_take 35 = .ok (.iconst (-1), 1) := by decide +kernel
theorem dX3_take_36 : decode cX3_take 36 = .ok (.ireturn, 1) := by decide +kernel
theorem dX3_take_37 : decode cX3_take 37 = .ok (.aload_n 0, 1) := by decide +kernel
theorem dX3_take_38 : decode cX3_take 38 = .ok (.dup, 1) := by decide +kernel
theorem dX3_take_39 : decode cX3_take 39 = .ok (.getfield 70, 3) := by decide +kernel
theorem dX3_take_42 : decode cX3_take 42 = .ok (.iconst 1, 1) := by decide +kernel
theorem dX3_take_43 : decode cX3_take 43 = .ok (.iadd, 1) := by decide +kernel
theorem dX3_take_44 : decode cX3_take 44 = .ok (.putfield 70, 3) := by decide +kernel
theorem dX3_take_47 : decode cX3_take 47 = .ok (.aload_n 0, 1) := by decide +kernel
theorem dX3_take_48 : decode cX3_take 48 = .ok (.aload_n 0, 1) := by decide +kernel
theorem dX3_take_49 : decode cX3_take 49 = .ok (.getfield 39, 3) := by decide +kernel
theorem dX3_take_52 : decode cX3_take 52 = .ok (.putfield 73, 3) := by decide +kernel
theorem dX3_take_55 : decode cX3_take 55 = .ok (.aload_n 0, 1) := by decide +kernel
theorem dX3_take_56 : decode cX3_take 56 = .ok (.getfield 36, 3) := by decide +kernel
theorem dX3_take_59 : decode cX3_take 59 = .ok (.iconst (-1), 1) := by decide +kernel
theorem dX3_take_60 : decode cX3_take 60 = .ok (.if_icmp .eq 27, 3) := by decide +kernel
theorem dX3_take_63 : decode cX3_take 63 = .ok (.aload_n 0, 1) := by decide +kernel
theorem dX3_take_64 : decode cX3_take 64 = .ok (.getfield 39, 3) := by decide +kernel
theorem dX3_take_67 : decode cX3_take 67 = .ok (.aload_n 0, 1) := by decide +kernel
theorem dX3_take_68 : decode cX3_take 68 = .ok (.getfield 42, 3) := by decide +kernel
theorem dX3_take_71 : decode cX3_take 71 = .ok (.isub, 1) := by decide +kernel
theorem dX3_take_72 : decode cX3_take 72 = .ok (.aload_n 0, 1) := by decide +kernel
theorem dX3_take_73 : decode cX3_take 73 = .ok (.getfield 15, 3) := by decide +kernel
theorem dX3_take_76 : decode cX3_take 76 = .ok (.iconst 2, 1) := by decide +kernel
theorem dX3_take_77 : decode cX3_take 77 = .ok (.invokevirtual 53, 3) := by decide +kernel
theorem dX3_take_80 : decode cX3_take 80 = .ok (.if_icmp .ge 7, 3) := by decide +kernel
theorem dX3_take_83 : decode cX3_take 83 = .ok (.iconst 1, 1) := by decide +kernel
theorem dX3_take_84 : decode cX3_take 84 = .ok (.goto 4, 3) := by decide +kernel
theorem dX3_take_87 : decode cX3_take 87 = .ok (.iconst 0, 1) := by decide +kernel
theorem dX3_take_88 : decode cX3_take 88 = .ok (.istore_n 1, 1) := by decide +kernel
theorem dX3_take_89 : decode cX3_take 89 = .ok (.iload_n 1, 1) := by decide +kernel
theorem dX3_take_90 : decode cX3_take 90 = .ok (.ifCond .eq 10, 3) := by decide +kernel
theorem dX3_take_93 : decode cX3_take 93 = .ok (.aload_n 0, 1) := by decide +kernel
theorem dX3_take_94 : decode cX3_take 94 = .ok (.getfield 36, 3) := by decide +kernel
theorem dX3_take_97 : decode cX3_take 97 = .ok (.goto 7, 3) := by decide +kernel
theorem dX3_take_100 : decode cX3_take 100 = .ok (.aload_n 0, 1) := by decide +kernel
theorem dX3_take_101 : decode cX3_take 101 = .ok (.getfield 33, 3) := by decide +kernel
theorem dX3_take_104 : decode cX3_take 104 = .ok (.ireturn, 1) := by decide +kernel
theorem dX3_tell_0 : decode cX3_tell 0 = .ok (.iload_n 1, 1) := by decide +kernel
theorem dX3_tell_1 : decode cX3_tell 1 = .ok (.tableswitch 78 0 6 #[43, 48, 53, 58, 63, 68, 73], 43) := by decide +kernel
theorem dX3_tell_44 : decode cX3_tell 44 = .ok (.aload_n 0, 1) := by decide +kernel
theorem dX3_tell_45 : decode cX3_tell 45 = .ok (.getfield 39, 3) := by decide +kernel
theorem dX3_tell_48 : decode cX3_tell 48 = .ok (.ireturn, 1) := by decide +kernel
theorem dX3_tell_49 : decode cX3_tell 49 = .ok (.aload_n 0, 1) := by decide +kernel
theorem dX3_tell_50 : decode cX3_tell 50 = .ok (.getfield 23, 3) := by decide +kernel
theorem dX3_tell_53 : decode cX3_tell 53 = .ok (.ireturn, 1) := by decide +kernel
theorem dX3_tell_54 : decode cX3_tell 54 = .ok (.aload_n 0, 1) := by decide +kernel
theorem dX3_tell_55 : decode cX3_tell 55 = .ok (.getfield 33, 3) := by decide +kernel
theorem dX3_tell_58 : decode cX3_tell 58 = .ok (.ireturn, 1) := by decide +kernel
theorem dX3_tell_59 : decode cX3_tell 59 = .ok (.aload_n 0, 1) := by decide +kernel
theorem dX3_tell_60 : decode cX3_tell 60 = .ok (.getfield 36, 3) := by decide +kernel
theorem dX3_tell_63 : decode cX3_tell 63 = .ok (.ireturn, 1) := by decide +kernel
theorem dX3_tell_64 : decode cX3_tell 64 = .ok (.aload_n 0, 1) := by decide +kernel
theorem dX3_tell_65 : decode cX3_tell 65 = .ok (.getfield 42, 3) := by decide +kernel
theorem dX3_tell_68 : decode cX3_tell 68 = .ok (.ireturn, 1) := by decide +kernel
theorem dX3_tell_69 : decode cX3_tell 69 = .ok (.aload_n 0, 1) := by decide +kernel
theorem dX3_tell_70 : decode cX3_tell 70 = .ok (.getfield 45, 3) := by decide +kernel
theorem dX3_tell_73 : decode cX3_tell 73 = .ok (.ireturn, 1) := by decide +kernel
theorem dX3_tell_74 : decode cX3_tell 74 = .ok (.aload_n 0, 1) := by decide +kernel
theorem dX3_tell_75 : decode cX3_tell 75 = .ok (.getfield 70, 3) := by decide +kernel
theorem dX3_tell_78 : decode cX3_tell 78 = .ok (.ireturn, 1) := by decide +kernel
theorem dX3_tell_79 : decode cX3_tell 79 = .ok (.iconst (-1), 1) := by decide +kernel
theorem dX3_tell_80 : decode cX3_tell 80 = .ok (.ireturn, 1) := by decide +kernel
theorem dX4_init_0 : decode cX4_init 0 = .ok (.aload_n 0, 1) := by decide +kernel
theorem dX4_init_1 : decode cX4_init 1 = .ok (.invokespecial 3, 3) := by decide +kernel
theorem dX4_init_4 : decode cX4_init 4 = .ok (.aload_n 0, 1) := by decide +kernel
theorem dX4_init_5 : decode cX4_init 5 = .ok (.iconst 5, 1) := by decide +kernel
theorem dX4_init_6 : decode cX4_init 6 = .ok (.newarray .int, 2) := by decide +kernel
theorem dX4_init_8 : decode cX4_init 8 = .ok (.dup, 1) := by decide +kernel
theorem dX4_init_9 : decode cX4_init 9 = .ok (.iconst 0, 1) := by decide +kernel
theorem dX4_init_10 : decode cX4_init 10 = .ok (.iconst 4, 1) := by decide +kernel
theorem dX4_init_11 : decode cX4_init 11 = .ok (.iastore, 1) := by decide +kernel
theorem dX4_init_12 : decode cX4_init 12 = .ok (.dup, 1) := by decide +kernel
theorem dX4_init_13 : decode cX4_init 13 = .ok (.iconst 1, 1) := by decide +kernel
theorem dX4_init_14 : decode cX4_init 14 = .ok (.iconst 2, 1) := by decide +kernel
theorem dX4_init_15 : decode cX4_init 15 = .ok (.iastore, 1) := by decide +kernel
theorem dX4_init_16 : decode cX4_init 16 = .ok (.dup, 1) := by decide +kernel
theorem dX4_init_17 : decode cX4_init 17 = .ok (.iconst 2, 1) := by decide +kernel
theorem dX4_init_18 : decode cX4_init 18 = .ok (.iconst 0, 1) := by decide +kernel
theorem dX4_init_19 : decode cX4_init 19 = .ok (.iastore, 1) := by decide +kernel
theorem dX4_init_20 : decode cX4_init 20 = .ok (.dup, 1) := by decide +kernel
theorem dX4_init_21 : decode cX4_init 21 = .ok (.iconst 3, 1) := by decide +kernel
theorem dX4_init_22 : decode cX4_init 22 = .ok (.iconst 0, 1) := by decide +kernel
theorem dX4_init_23 : decode cX4_init 23 = .ok (.iastore, 1) := by decide +kernel
theorem dX4_init_24 : decode cX4_init 24 = .ok (.dup, 1) := by decide +kernel
theorem dX4_init_25 : decode cX4_init 25 = .ok (.iconst 4, 1) := by decide +kernel
theorem dX4_init_26 : decode cX4_init 26 = .ok (.iconst 2, 1) := by decide +kernel
theorem dX4_init_27 : decode cX4_init 27 = .ok (.iastore, 1) := by decide +kernel
theorem dX4_init_28 : decode cX4_init 28 = .ok (.putfield 9, 3) := by decide +kernel
theorem dX4_init_31 : decode cX4_init 31 = .ok (.return_, 1) := by decide +kernel
theorem dX4_change_0 : decode cX4_change 0 = .ok (.iload_n 1, 1) := by decide +kernel
theorem dX4_change_1 : decode cX4_change 1 = .ok (.iconst 0, 1) := by decide +kernel
theorem dX4_change_2 : decode cX4_change 2 = .ok (.iconst 4, 1) := by decide +kernel
theorem dX4_change_3 : decode cX4_change 3 = .ok (.invokestatic 15, 3) := by decide +kernel
theorem dX4_change_6 : decode cX4_change 6 = .ok (.ifCond .eq 20, 3) := by decide +kernel
theorem dX4_change_9 : decode cX4_change 9 = .ok (.iload_n 2, 1) := by decide +kernel
theorem dX4_change_10 : decode cX4_change 10 = .ok (.getstatic 19, 3) := by decide +kernel
theorem dX4_change_13 : decode cX4_change 13 = .ok (.iload_n 1, 1) := by decide +kernel
theorem dX4_change_14 : decode cX4_change 14 = .ok (.iaload, 1) := by decide +kernel
theorem dX4_change_15 : decode cX4_change 15 = .ok (.getstatic 22, 3) := by decide +kernel
theorem dX4_change_18 : decode cX4_change 18 = .ok (.iload_n 1, 1) := by decide +kernel
theorem dX4_change_19 : decode cX4_change 19 = .ok (.iaload, 1) := by decide +kernel
theorem dX4_change_20 : decode cX4_change 20 = .ok (.invokestatic 15, 3) := by decide +kernel
theorem dX4_change_23 : decode cX4_change 23 = .ok (.ifCond .ne 5, 3) := by decide +kernel
theorem dX4_change_26 : decode cX4_change 26 = .ok (.iconst 0, 1) := by decide +kernel
theorem dX4_change_27 : decode cX4_change 27 = .ok (.ireturn, 1) := by decide +kernel
theorem dX4_change_28 : decode cX4_change 28 = .ok (.aload_n 0, 1) := by decide +kernel
theorem dX4_change_29 : decode cX4_change 29 = .ok (.getfield 9, 3) := by decide +kernel
theorem dX4_change_32 : decode cX4_change 32 = .ok (.iload_n 1, 1) := by decide +kernel
theorem dX4_change_33 : decode cX4_change 33 = .ok (.iload_n 2, 1) := by decide +kernel
theorem dX4_change_34 : decode cX4_change 34 = .ok (.iastore, 1) := by decide +kernel
theorem dX4_change_35 : decode cX4_change 35 = .ok (.iconst 1, 1) := by decide +kernel
theorem dX4_change_36 : decode cX4_change 36 = .ok (.ireturn, 1) := by decide +kernel
theorem dX4_get_0 : decode cX4_get 0 = .ok (.iload_n 1, 1) := by decide +kernel
theorem dX4_get_1 : decode cX4_get 1 = .ok (.iconst 0, 1) := by decide +kernel
theorem dX4_get_2 : decode cX4_get 2 = .ok (.iconst 4, 1) := by decide +kernel
theorem dX4_get_3 : decode cX4_get 3 = .ok (.invokestatic 15, 3) := by decide +kernel
theorem dX4_get_6 : decode cX4_get 6 = .ok (.ifCond .eq 12, 3) := by decide +kernel
theorem dX4_get_9 : decode cX4_get 9 = .ok (.aload_n 0, 1) := by decide +kernel
theorem dX4_get_10 : decode cX4_get 10 = .ok (.getfield 9, 3) := by decide +kernel
theorem dX4_get_13 : decode cX4_get 13 = .ok (.iload_n 1, 1) := by decide +kernel
theorem dX4_get_14 : decode cX4_get 14 = .ok (.iaload, 1) := by decide +kernel
theorem dX4_get_15 : decode cX4_get 15 = .ok (.goto 4, 3) := by decide +kernel
theorem dX4_get_18 : decode cX4_get 18 = .ok (.iconst 0, 1) := by decide +kernel
theorem dX4_get_19 : decode cX4_get 19 = .ok (.ireturn, 1) := by decide +kernel
