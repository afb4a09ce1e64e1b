theorem dX9_init_0 : decode cX9_init 0 = .ok (.aload_n 0, 1) := by decide +kernel
theorem dX9_init_1 : decode cX9_init 1 = .ok (.invokespecial 3, 3) := by decide +kernel
theorem dX9_init_4 : decode cX9_init 4 = .ok (.aload_n 0, 1) := by decide +kernel
theorem dX9_init_5 : decode cX9_init 5 = .ok (.bipush 60, 2) := by decide +kernel
theorem dX9_init_7 : decode cX9_init 7 = .ok (.newarray .int, 2) := by decide +kernel
theorem dX9_init_9 : decode cX9_init 9 = .ok (.putfield 11, 3) := by decide +kernel
theorem dX9_init_12 : decode cX9_init 12 = .ok (.aload_n 0, 1) := by decide +kernel
theorem dX9_init_13 : decode cX9_init 13 = .ok (.bipush 60, 2) := by decide +kernel
theorem dX9_init_15 : decode cX9_init 15 = .ok (.newarray .int, 2) := by decide +kernel
theorem dX9_init_17 : decode cX9_init 17 = .ok (.putfield 15, 3) := by decide +kernel
theorem dX9_init_20 : decode cX9_init 20 = .ok (.aload_n 0, 1) := by decide +kernel
theorem dX9_init_21 : decode cX9_init 21 = .ok (.bipush 60, 2) := by decide +kernel
theorem dX9_init_23 : decode cX9_init 23 = .ok (.newarray .int, 2) := by decide +kernel
theorem dX9_init_25 : decode cX9_init 25 = .ok (.putfield 18, 3) := by decide +kernel
theorem dX9_init_28 : decode cX9_init 28 = .ok (.aload_n 0, 1) := by decide +kernel
theorem dX9_init_29 : decode cX9_init 29 = .ok (.bipush 60, 2) := by decide +kernel
theorem dX9_init_31 : decode cX9_init 31 = .ok (.newarray .int, 2) := by decide +kernel
theorem dX9_init_33 : decode cX9_init 33 = .ok (.putfield 21, 3) := by decide +kernel
theorem dX9_init_36 : decode cX9_init 36 = .ok (.aload_n 0, 1) := by decide +kernel
theorem dX9_init_37 : decode cX9_init 37 = .ok (.bipush 60, 2) := by decide +kernel
theorem dX9_init_39 : decode cX9_init 39 = .ok (.newarray .int, 2) := by decide +kernel
theorem dX9_init_41 : decode cX9_init 41 = .ok (.putfield 24, 3) := by decide +kernel
theorem dX9_init_44 : decode cX9_init 44 = .ok (.aload_n 0, 1) := by decide +kernel
theorem dX9_init_45 : decode cX9_init 45 = .ok (.bipush 60, 2) := by decide +kernel
theorem dX9_init_47 : decode cX9_init 47 = .ok (.newarray .int, 2) := by decide +kernel
theorem dX9_init_49 : decode cX9_init 49 = .ok (.putfield 27, 3) := by decide +kernel
theorem dX9_init_52 : decode cX9_init 52 = .ok (.aload_n 0, 1) := by decide +kernel
theorem dX9_init_53 : decode cX9_init 53 = .ok (.bipush 60, 2) := by decide +kernel
theorem dX9_init_55 : decode cX9_init 55 = .ok (.newarray .int, 2) := by decide +kernel
theorem dX9_init_57 : decode cX9_init 57 = .ok (.putfield 30, 3) := by decide +kernel
theorem dX9_init_60 : decode cX9_init 60 = .ok (.aload_n 0, 1) := by decide +kernel
theorem dX9_init_61 : decode cX9_init 61 = .ok (.bipush 60, 2) := by decide +kernel
theorem dX9_init_63 : decode cX9_init 63 = .ok (.newarray .int, 2) := by decide +kernel
theorem dX9_init_65 : decode cX9_init 65 = .ok (.putfield 33, 3) := by decide +kernel
theorem dX9_init_68 : decode cX9_init 68 = .ok (.aload_n 0, 1) := by decide +kernel
theorem dX9_init_69 : decode cX9_init 69 = .ok (.bipush 60, 2) := by decide +kernel
theorem dX9_init_71 : decode cX9_init 71 = .ok (.newarray .boolean, 2) := by decide +kernel
theorem dX9_init_73 : decode cX9_init 73 = .ok (.putfield 36, 3) := by decide +kernel
theorem dX9_init_76 : decode cX9_init 76 = .ok (.aload_n 0, 1) := by decide +kernel
theorem dX9_init_77 : decode cX9_init 77 = .ok (.bipush 26, 2) := by decide +kernel
theorem dX9_init_79 : decode cX9_init 79 = .ok (.newarray .int, 2) := by decide +kernel
theorem dX9_init_81 : decode cX9_init 81 = .ok (.putfield 40, 3) := by decide +kernel
theorem dX9_init_84 : decode cX9_init 84 = .ok (.aload_n 0, 1) := by decide +kernel
theorem dX9_init_85 : decode cX9_init 85 = .ok (.invokevirtual 43, 3) := by decide +kernel
theorem dX9_init_88 : decode cX9_init 88 = .ok (.aload_n 0, 1) := by decide +kernel
theorem dX9_init_89 : decode cX9_init 89 = .ok (.invokevirtual 46, 3) := by decide +kernel
theorem dX9_init_92 : decode cX9_init 92 = .ok (.return_, 1) := by decide +kernel
theorem dX9_empty_0 : decode cX9_empty 0 = .ok (.aload_n 0, 1) := by decide +kernel
theorem dX9_empty_1 : decode cX9_empty 1 = .ok (.getfield 11, 3) := by decide +kernel
theorem dX9_empty_4 : decode cX9_empty 4 = .ok (.iconst 0, 1) := by decide +kernel
theorem dX9_empty_5 : decode cX9_empty 5 = .ok (.iconst 0, 1) := by decide +kernel
theorem dX9_empty_6 : decode cX9_empty 6 = .ok (.iastore, 1) := by decide +kernel
theorem dX9_empty_7 : decode cX9_empty 7 = .ok (.aload_n 0, 1) := by decide +kernel
theorem dX9_empty_8 : decode cX9_empty 8 = .ok (.getfield 15, 3) := by decide +kernel
theorem dX9_empty_11 : decode cX9_empty 11 = .ok (.iconst 0, 1) := by decide +kernel
theorem dX9_empty_12 : decode cX9_empty 12 = .ok (.iconst (-1), 1) := by decide +kernel
theorem dX9_empty_13 : decode cX9_empty 13 = .ok (.iastore, 1) := by decide +kernel
theorem dX9_empty_14 : decode cX9_empty 14 = .ok (.aload_n 0, 1) := by decide +kernel
theorem dX9_empty_15 : decode cX9_empty 15 = .ok (.getfield 18, 3) := by decide +kernel
theorem dX9_empty_18 : decode cX9_empty 18 = .ok (.iconst 0, 1) := by decide +kernel
theorem dX9_empty_19 : decode cX9_empty 19 = .ok (.iconst (-1), 1) := by decide +kernel
theorem dX9_empty_20 : decode cX9_empty 20 = .ok (.iastore, 1) := by decide +kernel
theorem dX9_empty_21 : decode cX9_empty 21 = .ok (.aload_n 0, 1) := by decide +kernel
theorem dX9_empty_22 : decode cX9_empty 22 = .ok (.iconst 1, 1) := by decide +kernel
theorem dX9_empty_23 : decode cX9_empty 23 = .ok (.putfield 49, 3) := by decide +kernel
theorem dX9_empty_26 : decode cX9_empty 26 = .ok (.return_, 1) := by decide +kernel
theorem dX9_add_0 : decode cX9_add 0 = .ok (.aload_n 0, 1) := by decide +kernel
theorem dX9_add_1 : decode cX9_add 1 = .ok (.getfield 49, 3) := by decide +kernel
theorem dX9_add_4 : decode cX9_add 4 = .ok (.bipush 60, 2) := by decide +kernel
theorem dX9_add_6 : decode cX9_add 6 = .ok (.if_icmp .ge 19, 3) := by decide +kernel
theorem dX9_add_9 : decode cX9_add 9 = .ok (.aload_n 0, 1) := by decide +kernel
theorem dX9_add_10 : decode cX9_add 10 = .ok (.iload_n 1, 1) := by decide +kernel
theorem dX9_add_11 : decode cX9_add 11 = .ok (.invokevirtual 53, 3) := by decide +kernel
theorem dX9_add_14 : decode cX9_add 14 = .ok (.ifCond .ne 11, 3) := by decide +kernel
theorem dX9_add_17 : decode cX9_add 17 = .ok (.iload_n 2, 1) := by decide +kernel
theorem dX9_add_18 : decode cX9_add 18 = .ok (.iload_n 3, 1) := by decide +kernel
theorem dX9_add_19 : decode cX9_add 19 = .ok (.invokestatic 57, 3) := by decide +kernel
theorem dX9_add_22 : decode cX9_add 22 = .ok (.ifCond .ne 5, 3) := by decide +kernel
theorem dX9_add_25 : decode cX9_add 25 = .ok (.iconst (-1), 1) := by decide +kernel
theorem dX9_add_26 : decode cX9_add 26 = .ok (.ireturn, 1) := by decide +kernel
theorem dX9_add_27 : decode cX9_add 27 = .ok (.aload_n 0, 1) := by decide +kernel
theorem dX9_add_28 : decode cX9_add 28 = .ok (.getfield 11, 3) := by decide +kernel
theorem dX9_add_31 : decode cX9_add 31 = .ok (.aload_n 0, 1) := by decide +kernel
theorem dX9_add_32 : decode cX9_add 32 = .ok (.getfield 49, 3) := by decide +kernel
theorem dX9_add_35 : decode cX9_add 35 = .ok (.iload_n 2, 1) := by decide +kernel
theorem dX9_add_36 : decode cX9_add 36 = .ok (.iastore, 1) := by decide +kernel
theorem dX9_add_37 : decode cX9_add 37 = .ok (.aload_n 0, 1) := by decide +kernel
theorem dX9_add_38 : decode cX9_add 38 = .ok (.getfield 15, 3) := by decide +kernel
theorem dX9_add_41 : decode cX9_add 41 = .ok (.aload_n 0, 1) := by decide +kernel
theorem dX9_add_42 : decode cX9_add 42 = .ok (.getfield 49, 3) := by decide +kernel
theorem dX9_add_45 : decode cX9_add 45 = .ok (.iload_n 2, 1) := by decide +kernel
theorem dX9_add_46 : decode cX9_add 46 = .ok (.invokestatic 61, 3) := by decide +kernel
theorem dX9_add_49 : decode cX9_add 49 = .ok (.ifCond .eq 7, 3) := by decide +kernel
theorem dX9_add_52 : decode cX9_add 52 = .ok (.iload_n 3, 1) := by decide +kernel
theorem dX9_add_53 : decode cX9_add 53 = .ok (.goto 4, 3) := by decide +kernel
theorem dX9_add_56 : decode cX9_add 56 = .ok (.iconst (-1), 1) := by decide +kernel
theorem dX9_add_57 : decode cX9_add 57 = .ok (.iastore, 1) := by decide +kernel
theorem dX9_add_58 : decode cX9_add 58 = .ok (.aload_n 0, 1) := by decide +kernel
theorem dX9_add_59 : decode cX9_add 59 = .ok (.getfield 18, 3) := by decide +kernel
theorem dX9_add_62 : decode cX9_add 62 = .ok (.aload_n 0, 1) := by decide +kernel
theorem dX9_add_63 : decode cX9_add 63 = .ok (.getfield 49, 3) := by decide +kernel
theorem dX9_add_66 : decode cX9_add 66 = .ok (.iload_n 1, 1) := by decide +kernel
theorem dX9_add_67 : decode cX9_add 67 = .ok (.iastore, 1) := by decide +kernel
theorem dX9_add_68 : decode cX9_add 68 = .ok (.aload_n 0, 1) := by decide +kernel
theorem dX9_add_69 : decode cX9_add 69 = .ok (.dup, 1) := by decide +kernel
theorem dX9_add_70 : decode cX9_add 70 = .ok (.getfield 49, 3) := by decide +kernel
theorem dX9_add_73 : decode cX9_add 73 = .ok (.iconst 1, 1) := by decide +kernel
theorem dX9_add_74 : decode cX9_add 74 = .ok (.iadd, 1) := by decide +kernel
theorem dX9_add_75 : decode cX9_add 75 = .ok (.putfield 49, 3) := by decide +kernel
theorem dX9_add_78 : decode cX9_add 78 = .ok (.aload_n 0, 1) := by decide +kernel
theorem dX9_add_79 : decode cX9_add 79 = .ok (.getfield 49, 3) := by decide +kernel
theorem dX9_add_82 : decode cX9_add 82 = .ok (.iconst 1, 1) := by decide +kernel
theorem dX9_add_83 : decode cX9_add 83 = .ok (.isub, 1) := by decide +kernel
theorem dX9_add_84 : decode cX9_add 84 = .ok (.ireturn, 1) := by decide +kernel
theorem dX9_takes_0 : decode cX9_takes 0 = .ok (.iload_n 0, 1) := by decide +kernel
theorem dX9_takes_1 : decode cX9_takes 1 = .ok (.iconst 1, 1) := by decide +kernel
theorem dX9_takes_2 : decode cX9_takes 2 = .ok (.if_icmp .ne 22, 3) := by decide +kernel
theorem dX9_takes_5 : decode cX9_takes 5 = .ok (.iload_n 1, 1) := by decide +kernel
theorem dX9_takes_6 : decode cX9_takes 6 = .ok (.invokestatic 65, 3) := by decide +kernel
theorem dX9_takes_9 : decode cX9_takes 9 = .ok (.ifCond .ne 9, 3) := by decide +kernel
theorem dX9_takes_12 : decode cX9_takes 12 = .ok (.iload_n 1, 1) := by decide +kernel
theorem dX9_takes_13 : decode cX9_takes 13 = .ok (.bipush 32, 2) := by decide +kernel
theorem dX9_takes_15 : decode cX9_takes 15 = .ok (.if_icmp .ne 7, 3) := by decide +kernel
theorem dX9_takes_18 : decode cX9_takes 18 = .ok (.iconst 1, 1) := by decide +kernel
theorem dX9_takes_19 : decode cX9_takes 19 = .ok (.goto 4, 3) := by decide +kernel
theorem dX9_takes_22 : decode cX9_takes 22 = .ok (.iconst 0, 1) := by decide +kernel
theorem dX9_takes_23 : decode cX9_takes 23 = .ok (.ireturn, 1) := by decide +kernel
theorem dX9_takes_24 : decode cX9_takes 24 = .ok (.iload_n 0, 1) := by decide +kernel
theorem dX9_takes_25 : decode cX9_takes 25 = .ok (.iconst 0, 1) := by decide +kernel
theorem dX9_takes_26 : decode cX9_takes 26 = .ok (.bipush 6, 2) := by decide +kernel
theorem dX9_takes_28 : decode cX9_takes 28 = .ok (.invokestatic 68, 3) := by decide +kernel
theorem dX9_takes_31 : decode cX9_takes 31 = .ok (.ifCond .eq 23, 3) := by decide +kernel
theorem dX9_takes_34 : decode cX9_takes 34 = .ok (.iload_n 0, 1) := by decide +kernel
theorem dX9_takes_35 : decode cX9_takes 35 = .ok (.invokestatic 61, 3) := by decide +kernel
theorem dX9_takes_38 : decode cX9_takes 38 = .ok (.ifCond .eq 12, 3) := by decide +kernel
theorem dX9_takes_41 : decode cX9_takes 41 = .ok (.iload_n 1, 1) := by decide +kernel
theorem dX9_takes_42 : decode cX9_takes 42 = .ok (.iconst 0, 1) := by decide +kernel
theorem dX9_takes_43 : decode cX9_takes 43 = .ok (.iconst 4, 1) := by decide +kernel
theorem dX9_takes_44 : decode cX9_takes 44 = .ok (.invokestatic 68, 3) := by decide +kernel
theorem dX9_takes_47 : decode cX9_takes 47 = .ok (.ifCond .eq 7, 3) := by decide +kernel
theorem dX9_takes_50 : decode cX9_takes 50 = .ok (.iconst 1, 1) := by decide +kernel
theorem dX9_takes_51 : decode cX9_takes 51 = .ok (.goto 4, 3) := by decide +kernel
theorem dX9_takes_54 : decode cX9_takes 54 = .ok (.iconst 0, 1) := by decide +kernel
theorem dX9_takes_55 : decode cX9_takes 55 = .ok (.ireturn, 1) := by decide +kernel
theorem dX9_hasValue_0 : decode cX9_hasValue 0 = .ok (.iload_n 0, 1) := by decide +kernel
theorem dX9_hasValue_1 : decode cX9_hasValue 1 = .ok (.iconst 1, 1) := by decide +kernel
theorem dX9_hasValue_2 : decode cX9_hasValue 2 = .ok (.if_icmp .eq 14, 3) := by decide +kernel
theorem dX9_hasValue_5 : decode cX9_hasValue 5 = .ok (.iload_n 0, 1) := by decide +kernel
theorem dX9_hasValue_6 : decode cX9_hasValue 6 = .ok (.iconst 4, 1) := by decide +kernel
theorem dX9_hasValue_7 : decode cX9_hasValue 7 = .ok (.if_icmp .eq 9, 3) := by decide +kernel
theorem dX9_hasValue_10 : decode cX9_hasValue 10 = .ok (.iload_n 0, 1) := by decide +kernel
theorem dX9_hasValue_11 : decode cX9_hasValue 11 = .ok (.bipush 6, 2) := by decide +kernel
theorem dX9_hasValue_13 : decode cX9_hasValue 13 = .ok (.if_icmp .ne 7, 3) := by decide +kernel
theorem dX9_hasValue_16 : decode cX9_hasValue 16 = .ok (.iconst 1, 1) := by decide +kernel
theorem dX9_hasValue_17 : decode cX9_hasValue 17 = .ok (.goto 4, 3) := by decide +kernel
theorem dX9_hasValue_20 : decode cX9_hasValue 20 = .ok (.iconst 0, 1) := by decide +kernel
theorem dX9_hasValue_21 : decode cX9_hasValue 21 = .ok (.ireturn, 1) := by decide +kernel
theorem dX9_findLights_0 : decode cX9_findLights 0 = .ok (.aload_n 0, 1) := by decide +kernel
theorem dX9_findLights_1 : decode cX9_findLights 1 = .ok (.invokevirtual 72, 3) := by decide +kernel
theorem dX9_findLights_4 : decode cX9_findLights 4 = .ok (.aload_n 0, 1) := by decide +kernel
theorem dX9_findLights_5 : decode cX9_findLights 5 = .ok (.getfield 24, 3) := by decide +kernel
theorem dX9_findLights_8 : decode cX9_findLights 8 = .ok (.iconst 0, 1) := by decide +kernel
theorem dX9_findLights_9 : decode cX9_findLights 9 = .ok (.invokestatic 75, 3) := by decide +kernel
theorem dX9_findLights_12 : decode cX9_findLights 12 = .ok (.aload_n 0, 1) := by decide +kernel
theorem dX9_findLights_13 : decode cX9_findLights 13 = .ok (.getfield 21, 3) := by decide +kernel
theorem dX9_findLights_16 : decode cX9_findLights 16 = .ok (.iconst (-1), 1) := by decide +kernel
theorem dX9_findLights_17 : decode cX9_findLights 17 = .ok (.invokestatic 75, 3) := by decide +kernel
theorem dX9_findLights_20 : decode cX9_findLights 20 = .ok (.aload_n 0, 1) := by decide +kernel
theorem dX9_findLights_21 : decode cX9_findLights 21 = .ok (.getfield 27, 3) := by decide +kernel
theorem dX9_findLights_24 : decode cX9_findLights 24 = .ok (.iconst (-1), 1) := by decide +kernel
theorem dX9_findLights_25 : decode cX9_findLights 25 = .ok (.invokestatic 75, 3) := by decide +kernel
theorem dX9_findLights_28 : decode cX9_findLights 28 = .ok (.aload_n 0, 1) := by decide +kernel
theorem dX9_findLights_29 : decode cX9_findLights 29 = .ok (.getfield 30, 3) := by decide +kernel
theorem dX9_findLights_32 : decode cX9_findLights 32 = .ok (.iconst (-1), 1) := by decide +kernel
theorem dX9_findLights_33 : decode cX9_findLights 33 = .ok (.invokestatic 75, 3) := by decide +kernel
theorem dX9_findLights_36 : decode cX9_findLights 36 = .ok (.aload_n 0, 1) := by decide +kernel
theorem dX9_findLights_37 : decode cX9_findLights 37 = .ok (.getfield 33, 3) := by decide +kernel
theorem dX9_findLights_40 : decode cX9_findLights 40 = .ok (.iconst (-1), 1) := by decide +kernel
theorem dX9_findLights_41 : decode cX9_findLights 41 = .ok (.invokestatic 75, 3) := by decide +kernel
theorem dX9_findLights_44 : decode cX9_findLights 44 = .ok (.aload_n 0, 1) := by decide +kernel
theorem dX9_findLights_45 : decode cX9_findLights 45 = .ok (.getfield 40, 3) := by decide +kernel
theorem dX9_findLights_48 : decode cX9_findLights 48 = .ok (.iconst 0, 1) := by decide +kernel
theorem dX9_findLights_49 : decode cX9_findLights 49 = .ok (.invokestatic 75, 3) := by decide +kernel
theorem dX9_findLights_52 : decode cX9_findLights 52 = .ok (.iconst 1, 1) := by decide +kernel
theorem dX9_findLights_53 : decode cX9_findLights 53 = .ok (.istore_n 1, 1) := by decide +kernel
theorem dX9_findLights_54 : decode cX9_findLights 54 = .ok (.iload_n 1, 1) := by decide +kernel
theorem dX9_findLights_55 : decode cX9_findLights 55 = .ok (.aload_n 0, 1) := by decide +kernel
theorem dX9_findLights_56 : decode cX9_findLights 56 = .ok (.getfield 49, 3) := by decide +kernel
theorem dX9_findLights_59 : decode cX9_findLights 59 = .ok (.if_icmp .ge 42, 3) := by decide +kernel
theorem dX9_findLights_62 : decode cX9_findLights 62 = .ok (.aload_n 0, 1) := by decide +kernel
theorem dX9_findLights_63 : decode cX9_findLights 63 = .ok (.getfield 36, 3) := by decide +kernel
theorem dX9_findLights_66 : decode cX9_findLights 66 = .ok (.iload_n 1, 1) := by decide +kernel
theorem dX9_findLights_67 : decode cX9_findLights 67 = .ok (.baload, 1) := by decide +kernel
theorem dX9_findLights_68 : decode cX9_findLights 68 = .ok (.ifCond .eq 27, 3) := by decide +kernel
theorem dX9_findLights_71 : decode cX9_findLights 71 = .ok (.aload_n 0, 1) := by decide +kernel
theorem dX9_findLights_72 : decode cX9_findLights 72 = .ok (.aload_n 0, 1) := by decide +kernel
theorem dX9_findLights_73 : decode cX9_findLights 73 = .ok (.getfield 18, 3) := by decide +kernel
theorem dX9_findLights_76 : decode cX9_findLights 76 = .ok (.iload_n 1, 1) := by decide +kernel
theorem dX9_findLights_77 : decode cX9_findLights 77 = .ok (.iaload, 1) := by decide +kernel
theorem dX9_findLights_78 : decode cX9_findLights 78 = .ok (.invokevirtual 81, 3) := by decide +kernel
theorem dX9_findLights_81 : decode cX9_findLights 81 = .ok (.ifCond .eq 14, 3) := by decide +kernel
theorem dX9_findLights_84 : decode cX9_findLights 84 = .ok (.aload_n 0, 1) := by decide +kernel
theorem dX9_findLights_85 : decode cX9_findLights 85 = .ok (.iload_n 1, 1) := by decide +kernel
theorem dX9_findLights_86 : decode cX9_findLights 86 = .ok (.aload_n 0, 1) := by decide +kernel
theorem dX9_findLights_87 : decode cX9_findLights 87 = .ok (.getfield 18, 3) := by decide +kernel
theorem dX9_findLights_90 : decode cX9_findLights 90 = .ok (.iload_n 1, 1) := by decide +kernel
theorem dX9_findLights_91 : decode cX9_findLights 91 = .ok (.iaload, 1) := by decide +kernel
theorem dX9_findLights_92 : decode cX9_findLights 92 = .ok (.invokevirtual 84, 3) := by decide +kernel
theorem dX9_findLights_95 : decode cX9_findLights 95 = .ok (.iinc 1 1, 3) := by decide +kernel
theorem dX9_findLights_98 : decode cX9_findLights 98 = .ok (.goto (-44), 3) := by decide +kernel
theorem dX9_findLights_101 : decode cX9_findLights 101 = .ok (.return_, 1) := by decide +kernel
theorem dX9_findLighted_0 : decode cX9_findLighted 0 = .ok (.iconst 0, 1) := by decide +kernel
theorem dX9_findLighted_1 : decode cX9_findLighted 1 = .ok (.istore_n 1, 1) := by decide +kernel
theorem dX9_findLighted_2 : decode cX9_findLighted 2 = .ok (.iload_n 1, 1) := by decide +kernel
theorem dX9_findLighted_3 : decode cX9_findLighted 3 = .ok (.aload_n 0, 1) := by decide +kernel
theorem dX9_findLighted_4 : decode cX9_findLighted 4 = .ok (.getfield 49, 3) := by decide +kernel
theorem dX9_findLighted_7 : decode cX9_findLighted 7 = .ok (.if_icmp .ge 29, 3) := by decide +kernel
theorem dX9_findLighted_10 : decode cX9_findLighted 10 = .ok (.aload_n 0, 1) := by decide +kernel
theorem dX9_findLighted_11 : decode cX9_findLighted 11 = .ok (.getfield 36, 3) := by decide +kernel
theorem dX9_findLighted_14 : decode cX9_findLighted 14 = .ok (.iload_n 1, 1) := by decide +kernel
theorem dX9_findLighted_15 : decode cX9_findLighted 15 = .ok (.aload_n 0, 1) := by decide +kernel
theorem dX9_findLighted_16 : decode cX9_findLighted 16 = .ok (.getfield 11, 3) := by decide +kernel
theorem dX9_findLighted_19 : decode cX9_findLighted 19 = .ok (.iload_n 1, 1) := by decide +kernel
theorem dX9_findLighted_20 : decode cX9_findLighted 20 = .ok (.iaload, 1) := by decide +kernel
theorem dX9_findLighted_21 : decode cX9_findLighted 21 = .ok (.ifCond .eq 7, 3) := by decide +kernel
theorem dX9_findLighted_24 : decode cX9_findLighted 24 = .ok (.iconst 1, 1) := by decide +kernel
theorem dX9_findLighted_25 : decode cX9_findLighted 25 = .ok (.goto 4, 3) := by decide +kernel
theorem dX9_findLighted_28 : decode cX9_findLighted 28 = .ok (.iconst 0, 1) := by decide +kernel
theorem dX9_findLighted_29 : decode cX9_findLighted 29 = .ok (.bastore, 1) := by decide +kernel
theorem dX9_findLighted_30 : decode cX9_findLighted 30 = .ok (.iinc 1 1, 3) := by decide +kernel
theorem dX9_findLighted_33 : decode cX9_findLighted 33 = .ok (.goto (-31), 3) := by decide +kernel
theorem dX9_findLighted_36 : decode cX9_findLighted 36 = .ok (.aload_n 0, 1) := by decide +kernel
theorem dX9_findLighted_37 : decode cX9_findLighted 37 = .ok (.getfield 49, 3) := by decide +kernel
theorem dX9_findLighted_40 : decode cX9_findLighted 40 = .ok (.iconst 1, 1) := by decide +kernel
theorem dX9_findLighted_41 : decode cX9_findLighted 41 = .ok (.isub, 1) := by decide +kernel
theorem dX9_findLighted_42 : decode cX9_findLighted 42 = .ok (.istore_n 1, 1) := by decide +kernel
theorem dX9_findLighted_43 : decode cX9_findLighted 43 = .ok (.iload_n 1, 1) := by decide +kernel
theorem dX9_findLighted_44 : decode cX9_findLighted 44 = .ok (.ifCond .le 43, 3) := by decide +kernel
theorem dX9_findLighted_47 : decode cX9_findLighted 47 = .ok (.aload_n 0, 1) := by decide +kernel
theorem dX9_findLighted_48 : decode cX9_findLighted 48 = .ok (.getfield 36, 3) := by decide +kernel
theorem dX9_findLighted_51 : decode cX9_findLighted 51 = .ok (.iload_n 1, 1) := by decide +kernel
theorem dX9_findLighted_52 : decode cX9_findLighted 52 = .ok (.baload, 1) := by decide +kernel
theorem dX9_findLighted_53 : decode cX9_findLighted 53 = .ok (.ifCond .eq 28, 3) := by decide +kernel
theorem dX9_findLighted_56 : decode cX9_findLighted 56 = .ok (.aload_n 0, 1) := by decide +kernel
theorem dX9_findLighted_57 : decode cX9_findLighted 57 = .ok (.aload_n 0, 1) := by decide +kernel
theorem dX9_findLighted_58 : decode cX9_findLighted 58 = .ok (.getfield 18, 3) := by decide +kernel
theorem dX9_findLighted_61 : decode cX9_findLighted 61 = .ok (.iload_n 1, 1) := by decide +kernel
theorem dX9_findLighted_62 : decode cX9_findLighted 62 = .ok (.iaload, 1) := by decide +kernel
theorem dX9_findLighted_63 : decode cX9_findLighted 63 = .ok (.invokevirtual 81, 3) := by decide +kernel
theorem dX9_findLighted_66 : decode cX9_findLighted 66 = .ok (.ifCond .eq 15, 3) := by decide +kernel
theorem dX9_findLighted_69 : decode cX9_findLighted 69 = .ok (.aload_n 0, 1) := by decide +kernel
theorem dX9_findLighted_70 : decode cX9_findLighted 70 = .ok (.getfield 36, 3) := by decide +kernel
theorem dX9_findLighted_73 : decode cX9_findLighted 73 = .ok (.aload_n 0, 1) := by decide +kernel
theorem dX9_findLighted_74 : decode cX9_findLighted 74 = .ok (.getfield 18, 3) := by decide +kernel
theorem dX9_findLighted_77 : decode cX9_findLighted 77 = .ok (.iload_n 1, 1) := by decide +kernel
theorem dX9_findLighted_78 : decode cX9_findLighted 78 = .ok (.iaload, 1) := by decide +kernel
theorem dX9_findLighted_79 : decode cX9_findLighted 79 = .ok (.iconst 1, 1) := by decide +kernel
theorem dX9_findLighted_80 : decode cX9_findLighted 80 = .ok (.bastore, 1) := by decide +kernel
theorem dX9_findLighted_81 : decode cX9_findLighted 81 = .ok (.iinc 1 (-1), 3) := by decide +kernel
theorem dX9_findLighted_84 : decode cX9_findLighted 84 = .ok (.goto (-41), 3) := by decide +kernel
theorem dX9_findLighted_87 : decode cX9_findLighted 87 = .ok (.return_, 1) := by decide +kernel
theorem dX9_standBehind_0 : decode cX9_standBehind 0 = .ok (.aload_n 0, 1) := by decide +kernel
theorem dX9_standBehind_1 : decode cX9_standBehind 1 = .ok (.getfield 30, 3) := by decide +kernel
theorem dX9_standBehind_4 : decode cX9_standBehind 4 = .ok (.iload_n 2, 1) := by decide +kernel
theorem dX9_standBehind_5 : decode cX9_standBehind 5 = .ok (.iaload, 1) := by decide +kernel
theorem dX9_standBehind_6 : decode cX9_standBehind 6 = .ok (.istore_n 3, 1) := by decide +kernel
theorem dX9_standBehind_7 : decode cX9_standBehind 7 = .ok (.aload_n 0, 1) := by decide +kernel
theorem dX9_standBehind_8 : decode cX9_standBehind 8 = .ok (.getfield 24, 3) := by decide +kernel
theorem dX9_standBehind_11 : decode cX9_standBehind 11 = .ok (.iload_n 2, 1) := by decide +kernel
theorem dX9_standBehind_12 : decode cX9_standBehind 12 = .ok (.dup2, 1) := by decide +kernel
theorem dX9_standBehind_13 : decode cX9_standBehind 13 = .ok (.iaload, 1) := by decide +kernel
theorem dX9_standBehind_14 : decode cX9_standBehind 14 = .ok (.iconst 1, 1) := by decide +kernel
theorem dX9_standBehind_15 : decode cX9_standBehind 15 = .ok (.iadd, 1) := by decide +kernel
theorem dX9_standBehind_16 : decode cX9_standBehind 16 = .ok (.iastore, 1) := by decide +kernel
theorem dX9_standBehind_17 : decode cX9_standBehind 17 = .ok (.aload_n 0, 1) := by decide +kernel
theorem dX9_standBehind_18 : decode cX9_standBehind 18 = .ok (.getfield 21, 3) := by decide +kernel
theorem dX9_standBehind_21 : decode cX9_standBehind 21 = .ok (.iload_n 1, 1) := by decide +kernel
theorem dX9_standBehind_22 : decode cX9_standBehind 22 = .ok (.aload_n 0, 1) := by decide +kernel
theorem dX9_standBehind_23 : decode cX9_standBehind 23 = .ok (.getfield 24, 3) := by decide +kernel
theorem dX9_standBehind_26 : decode cX9_standBehind 26 = .ok (.iload_n 2, 1) := by decide +kernel
theorem dX9_standBehind_27 : decode cX9_standBehind 27 = .ok (.iaload, 1) := by decide +kernel
theorem dX9_standBehind_28 : decode cX9_standBehind 28 = .ok (.iastore, 1) := by decide +kernel
theorem dX9_standBehind_29 : decode cX9_standBehind 29 = .ok (.aload_n 0, 1) := by decide +kernel
theorem dX9_standBehind_30 : decode cX9_standBehind 30 = .ok (.getfield 30, 3) := by decide +kernel
theorem dX9_standBehind_33 : decode cX9_standBehind 33 = .ok (.iload_n 2, 1) := by decide +kernel
theorem dX9_standBehind_34 : decode cX9_standBehind 34 = .ok (.iload_n 1, 1) := by decide +kernel
theorem dX9_standBehind_35 : decode cX9_standBehind 35 = .ok (.iastore, 1) := by decide +kernel
theorem dX9_standBehind_36 : decode cX9_standBehind 36 = .ok (.aload_n 0, 1) := by decide +kernel
theorem dX9_standBehind_37 : decode cX9_standBehind 37 = .ok (.iload_n 3, 1) := by decide +kernel
theorem dX9_standBehind_38 : decode cX9_standBehind 38 = .ok (.invokevirtual 81, 3) := by decide +kernel
theorem dX9_standBehind_41 : decode cX9_standBehind 41 = .ok (.ifCond .eq 19, 3) := by decide +kernel
theorem dX9_standBehind_44 : decode cX9_standBehind 44 = .ok (.aload_n 0, 1) := by decide +kernel
theorem dX9_standBehind_45 : decode cX9_standBehind 45 = .ok (.getfield 33, 3) := by decide +kernel
theorem dX9_standBehind_48 : decode cX9_standBehind 48 = .ok (.iload_n 3, 1) := by decide +kernel
theorem dX9_standBehind_49 : decode cX9_standBehind 49 = .ok (.iload_n 1, 1) := by decide +kernel
theorem dX9_standBehind_50 : decode cX9_standBehind 50 = .ok (.iastore, 1) := by decide +kernel
theorem dX9_standBehind_51 : decode cX9_standBehind 51 = .ok (.aload_n 0, 1) := by decide +kernel
theorem dX9_standBehind_52 : decode cX9_standBehind 52 = .ok (.iload_n 3, 1) := by decide +kernel
theorem dX9_standBehind_53 : decode cX9_standBehind 53 = .ok (.iload_n 1, 1) := by decide +kernel
theorem dX9_standBehind_54 : decode cX9_standBehind 54 = .ok (.invokevirtual 88, 3) := by decide +kernel
theorem dX9_standBehind_57 : decode cX9_standBehind 57 = .ok (.goto 10, 3) := by decide +kernel
theorem dX9_standBehind_60 : decode cX9_standBehind 60 = .ok (.aload_n 0, 1) := by decide +kernel
theorem dX9_standBehind_61 : decode cX9_standBehind 61 = .ok (.getfield 27, 3) := by decide +kernel
theorem dX9_standBehind_64 : decode cX9_standBehind 64 = .ok (.iload_n 2, 1) := by decide +kernel
theorem dX9_standBehind_65 : decode cX9_standBehind 65 = .ok (.iload_n 1, 1) := by decide +kernel
theorem dX9_standBehind_66 : decode cX9_standBehind 66 = .ok (.iastore, 1) := by decide +kernel
theorem dX9_standBehind_67 : decode cX9_standBehind 67 = .ok (.return_, 1) := by decide +kernel
theorem dX9_join_0 : decode cX9_join 0 = .ok (.aload_n 0, 1) := by decide +kernel
theorem dX9_join_1 : decode cX9_join 1 = .ok (.getfield 11, 3) := by decide +kernel
theorem dX9_join_4 : decode cX9_join 4 = .ok (.iload_n 1, 1) := by decide +kernel
theorem dX9_join_5 : decode cX9_join 5 = .ok (.iaload, 1) := by decide +kernel
theorem dX9_join_6 : decode cX9_join 6 = .ok (.iconst 1, 1) := by decide +kernel
theorem dX9_join_7 : decode cX9_join 7 = .ok (.if_icmp .ne 84, 3) := by decide +kernel
theorem dX9_join_10 : decode cX9_join 10 = .ok (.aload_n 0, 1) := by decide +kernel
theorem dX9_join_11 : decode cX9_join 11 = .ok (.getfield 11, 3) := by decide +kernel
theorem dX9_join_14 : decode cX9_join 14 = .ok (.iload_n 2, 1) := by decide +kernel
theorem dX9_join_15 : decode cX9_join 15 = .ok (.iaload, 1) := by decide +kernel
theorem dX9_join_16 : decode cX9_join 16 = .ok (.iconst 1, 1) := by decide +kernel
theorem dX9_join_17 : decode cX9_join 17 = .ok (.if_icmp .ne 74, 3) := by decide +kernel
theorem dX9_join_20 : decode cX9_join 20 = .ok (.aload_n 0, 1) := by decide +kernel
theorem dX9_join_21 : decode cX9_join 21 = .ok (.getfield 15, 3) := by decide +kernel
theorem dX9_join_24 : decode cX9_join 24 = .ok (.iload_n 1, 1) := by decide +kernel
theorem dX9_join_25 : decode cX9_join 25 = .ok (.iaload, 1) := by decide +kernel
theorem dX9_join_26 : decode cX9_join 26 = .ok (.invokestatic 65, 3) := by decide +kernel
theorem dX9_join_29 : decode cX9_join 29 = .ok (.ifCond .eq 62, 3) := by decide +kernel
theorem dX9_join_32 : decode cX9_join 32 = .ok (.aload_n 0, 1) := by decide +kernel
theorem dX9_join_33 : decode cX9_join 33 = .ok (.getfield 15, 3) := by decide +kernel
theorem dX9_join_36 : decode cX9_join 36 = .ok (.iload_n 2, 1) := by decide +kernel
theorem dX9_join_37 : decode cX9_join 37 = .ok (.iaload, 1) := by decide +kernel
theorem dX9_join_38 : decode cX9_join 38 = .ok (.invokestatic 65, 3) := by decide +kernel
theorem dX9_join_41 : decode cX9_join 41 = .ok (.ifCond .eq 50, 3) := by decide +kernel
theorem dX9_join_44 : decode cX9_join 44 = .ok (.aload_n 0, 1) := by decide +kernel
theorem dX9_join_45 : decode cX9_join 45 = .ok (.getfield 15, 3) := by decide +kernel
theorem dX9_join_48 : decode cX9_join 48 = .ok (.iload_n 1, 1) := by decide +kernel
theorem dX9_join_49 : decode cX9_join 49 = .ok (.iaload, 1) := by decide +kernel
theorem dX9_join_50 : decode cX9_join 50 = .ok (.bipush 97, 2) := by decide +kernel
theorem dX9_join_52 : decode cX9_join 52 = .ok (.isub, 1) := by decide +kernel
theorem dX9_join_53 : decode cX9_join 53 = .ok (.istore_n 3, 1) := by decide +kernel
theorem dX9_join_54 : decode cX9_join 54 = .ok (.aload_n 0, 1) := by decide +kernel
theorem dX9_join_55 : decode cX9_join 55 = .ok (.getfield 15, 3) := by decide +kernel
theorem dX9_join_58 : decode cX9_join 58 = .ok (.iload_n 2, 1) := by decide +kernel
theorem dX9_join_59 : decode cX9_join 59 = .ok (.iaload, 1) := by decide +kernel
theorem dX9_join_60 : decode cX9_join 60 = .ok (.bipush 97, 2) := by decide +kernel
theorem dX9_join_62 : decode cX9_join 62 = .ok (.isub, 1) := by decide +kernel
theorem dX9_join_63 : decode cX9_join 63 = .ok (.istore 4, 2) := by decide +kernel
theorem dX9_join_65 : decode cX9_join 65 = .ok (.aload_n 0, 1) := by decide +kernel
theorem dX9_join_66 : decode cX9_join 66 = .ok (.getfield 40, 3) := by decide +kernel
theorem dX9_join_69 : decode cX9_join 69 = .ok (.iload_n 3, 1) := by decide +kernel
theorem dX9_join_70 : decode cX9_join 70 = .ok (.dup2, 1) := by decide +kernel
theorem dX9_join_71 : decode cX9_join 71 = .ok (.iaload, 1) := by decide +kernel
theorem dX9_join_72 : decode cX9_join 72 = .ok (.iconst 1, 1) := by decide +kernel
theorem dX9_join_73 : decode cX9_join 73 = .ok (.iload 4, 2) := by decide +kernel
theorem dX9_join_75 : decode cX9_join 75 = .ok (.ishl, 1) := by decide +kernel
theorem dX9_join_76 : decode cX9_join 76 = .ok (.ior, 1) := by decide +kernel
theorem dX9_join_77 : decode cX9_join 77 = .ok (.iastore, 1) := by decide +kernel
theorem dX9_join_78 : decode cX9_join 78 = .ok (.aload_n 0, 1) := by decide +kernel
theorem dX9_join_79 : decode cX9_join 79 = .ok (.getfield 40, 3) := by decide +kernel
theorem dX9_join_82 : decode cX9_join 82 = .ok (.iload 4, 2) := by decide +kernel
theorem dX9_join_84 : decode cX9_join 84 = .ok (.dup2, 1) := by decide +kernel
theorem dX9_join_85 : decode cX9_join 85 = .ok (.iaload, 1) := by decide +kernel
theorem dX9_join_86 : decode cX9_join 86 = .ok (.iconst 1, 1) := by decide +kernel
theorem dX9_join_87 : decode cX9_join 87 = .ok (.iload_n 3, 1) := by decide +kernel
theorem dX9_join_88 : decode cX9_join 88 = .ok (.ishl, 1) := by decide +kernel
theorem dX9_join_89 : decode cX9_join 89 = .ok (.ior, 1) := by decide +kernel
theorem dX9_join_90 : decode cX9_join 90 = .ok (.iastore, 1) := by decide +kernel
theorem dX9_join_91 : decode cX9_join 91 = .ok (.return_, 1) := by decide +kernel
theorem dX9_has_0 : decode cX9_has 0 = .ok (.iload_n 1, 1) := by decide +kernel
theorem dX9_has_1 : decode cX9_has 1 = .ok (.ifCond .lt 15, 3) := by decide +kernel
theorem dX9_has_4 : decode cX9_has 4 = .ok (.iload_n 1, 1) := by decide +kernel
theorem dX9_has_5 : decode cX9_has 5 = .ok (.aload_n 0, 1) := by decide +kernel
theorem dX9_has_6 : decode cX9_has 6 = .ok (.getfield 49, 3) := by decide +kernel
theorem dX9_has_9 : decode cX9_has 9 = .ok (.if_icmp .ge 7, 3) := by decide +kernel
theorem dX9_has_12 : decode cX9_has 12 = .ok (.iconst 1, 1) := by decide +kernel
theorem dX9_has_13 : decode cX9_has 13 = .ok (.goto 4, 3) := by decide +kernel
theorem dX9_has_16 : decode cX9_has 16 = .ok (.iconst 0, 1) := by decide +kernel
theorem dX9_has_17 : decode cX9_has 17 = .ok (.ireturn, 1) := by decide +kernel
theorem dX9_size_0 : decode cX9_size 0 = .ok (.aload_n 0, 1) := by decide +kernel
theorem dX9_size_1 : decode cX9_size 1 = .ok (.getfield 49, 3) := by decide +kernel
theorem dX9_size_4 : decode cX9_size 4 = .ok (.ireturn, 1) := by decide +kernel
theorem dX9_kindOf_0 : decode cX9_kindOf 0 = .ok (.aload_n 0, 1) := by decide +kernel
theorem dX9_kindOf_1 : decode cX9_kindOf 1 = .ok (.iload_n 1, 1) := by decide +kernel
theorem dX9_kindOf_2 : decode cX9_kindOf 2 = .ok (.invokevirtual 81, 3) := by decide +kernel
theorem dX9_kindOf_5 : decode cX9_kindOf 5 = .ok (.ifCond .eq 12, 3) := by decide +kernel
theorem dX9_kindOf_8 : decode cX9_kindOf 8 = .ok (.aload_n 0, 1) := by decide +kernel
theorem dX9_kindOf_9 : decode cX9_kindOf 9 = .ok (.getfield 11, 3) := by decide +kernel
theorem dX9_kindOf_12 : decode cX9_kindOf 12 = .ok (.iload_n 1, 1) := by decide +kernel
theorem dX9_kindOf_13 : decode cX9_kindOf 13 = .ok (.iaload, 1) := by decide +kernel
theorem dX9_kindOf_14 : decode cX9_kindOf 14 = .ok (.goto 4, 3) := by decide +kernel
theorem dX9_kindOf_17 : decode cX9_kindOf 17 = .ok (.iconst (-1), 1) := by decide +kernel
theorem dX9_kindOf_18 : decode cX9_kindOf 18 = .ok (.ireturn, 1) := by decide +kernel
theorem dX9_valueOf_0 : decode cX9_valueOf 0 = .ok (.aload_n 0, 1) := by decide +kernel
theorem dX9_valueOf_1 : decode cX9_valueOf 1 = .ok (.iload_n 1, 1) := by decide +kernel
theorem dX9_valueOf_2 : decode cX9_valueOf 2 = .ok (.invokevirtual 81, 3) := by decide +kernel
theorem dX9_valueOf_5 : decode cX9_valueOf 5 = .ok (.ifCond .eq 12, 3) := by decide +kernel
theorem dX9_valueOf_8 : decode cX9_valueOf 8 = .ok (.aload_n 0, 1) := by decide +kernel
theorem dX9_valueOf_9 : decode cX9_valueOf 9 = .ok (.getfield 15, 3) := by decide +kernel
theorem dX9_valueOf_12 : decode cX9_valueOf 12 = .ok (.iload_n 1, 1) := by decide +kernel
theorem dX9_valueOf_13 : decode cX9_valueOf 13 = .ok (.iaload, 1) := by decide +kernel
theorem dX9_valueOf_14 : decode cX9_valueOf 14 = .ok (.goto 4, 3) := by decide +kernel
theorem dX9_valueOf_17 : decode cX9_valueOf 17 = .ok (.iconst (-1), 1) := by decide +kernel
theorem dX9_valueOf_18 : decode cX9_valueOf 18 = .ok (.ireturn, 1) := by decide +kernel
theorem dX9_groupOf_0 : decode cX9_groupOf 0 = .ok (.aload_n 0, 1) := by decide +kernel
theorem dX9_groupOf_1 : decode cX9_groupOf 1 = .ok (.iload_n 1, 1) := by decide +kernel
theorem dX9_groupOf_2 : decode cX9_groupOf 2 = .ok (.invokevirtual 81, 3) := by decide +kernel
theorem dX9_groupOf_5 : decode cX9_groupOf 5 = .ok (.ifCond .eq 12, 3) := by decide +kernel
theorem dX9_groupOf_8 : decode cX9_groupOf 8 = .ok (.aload_n 0, 1) := by decide +kernel
theorem dX9_groupOf_9 : decode cX9_groupOf 9 = .ok (.getfield 18, 3) := by decide +kernel
theorem dX9_groupOf_12 : decode cX9_groupOf 12 = .ok (.iload_n 1, 1) := by decide +kernel
theorem dX9_groupOf_13 : decode cX9_groupOf 13 = .ok (.iaload, 1) := by decide +kernel
theorem dX9_groupOf_14 : decode cX9_groupOf 14 = .ok (.goto 4, 3) := by decide +kernel
theorem dX9_groupOf_17 : decode cX9_groupOf 17 = .ok (.iconst (-1), 1) := by decide +kernel
theorem dX9_groupOf_18 : decode cX9_groupOf 18 = .ok (.ireturn, 1) := by decide +kernel
theorem dX9_placeOf_0 : decode cX9_placeOf 0 = .ok (.aload_n 0, 1) := by decide +kernel
theorem dX9_placeOf_1 : decode cX9_placeOf 1 = .ok (.iload_n 1, 1) := by decide +kernel
theorem dX9_placeOf_2 : decode cX9_placeOf 2 = .ok (.invokevirtual 81, 3) := by decide +kernel
theorem dX9_placeOf_5 : decode cX9_placeOf 5 = .ok (.ifCond .eq 12, 3) := by decide +kernel
theorem dX9_placeOf_8 : decode cX9_placeOf 8 = .ok (.aload_n 0, 1) := by decide +kernel
theorem dX9_placeOf_9 : decode cX9_placeOf 9 = .ok (.getfield 21, 3) := by decide +kernel
theorem dX9_placeOf_12 : decode cX9_placeOf 12 = .ok (.iload_n 1, 1) := by decide +kernel
theorem dX9_placeOf_13 : decode cX9_placeOf 13 = .ok (.iaload, 1) := by decide +kernel
theorem dX9_placeOf_14 : decode cX9_placeOf 14 = .ok (.goto 4, 3) := by decide +kernel
theorem dX9_placeOf_17 : decode cX9_placeOf 17 = .ok (.iconst (-1), 1) := by decide +kernel
theorem dX9_placeOf_18 : decode cX9_placeOf 18 = .ok (.ireturn, 1) := by decide +kernel
theorem dX9_lightsOf_0 : decode cX9_lightsOf 0 = .ok (.aload_n 0, 1) := by decide +kernel
theorem dX9_lightsOf_1 : decode cX9_lightsOf 1 = .ok (.iload_n 1, 1) := by decide +kernel
theorem dX9_lightsOf_2 : decode cX9_lightsOf 2 = .ok (.invokevirtual 81, 3) := by decide +kernel
theorem dX9_lightsOf_5 : decode cX9_lightsOf 5 = .ok (.ifCond .eq 12, 3) := by decide +kernel
theorem dX9_lightsOf_8 : decode cX9_lightsOf 8 = .ok (.aload_n 0, 1) := by decide +kernel
theorem dX9_lightsOf_9 : decode cX9_lightsOf 9 = .ok (.getfield 24, 3) := by decide +kernel
theorem dX9_lightsOf_12 : decode cX9_lightsOf 12 = .ok (.iload_n 1, 1) := by decide +kernel
theorem dX9_lightsOf_13 : decode cX9_lightsOf 13 = .ok (.iaload, 1) := by decide +kernel
theorem dX9_lightsOf_14 : decode cX9_lightsOf 14 = .ok (.goto 4, 3) := by decide +kernel
theorem dX9_lightsOf_17 : decode cX9_lightsOf 17 = .ok (.iconst 0, 1) := by decide +kernel
theorem dX9_lightsOf_18 : decode cX9_lightsOf 18 = .ok (.ireturn, 1) := by decide +kernel
theorem dX9_firstIn_0 : decode cX9_firstIn 0 = .ok (.aload_n 0, 1) := by decide +kernel
theorem dX9_firstIn_1 : decode cX9_firstIn 1 = .ok (.iload_n 1, 1) := by decide +kernel
theorem dX9_firstIn_2 : decode cX9_firstIn 2 = .ok (.invokevirtual 81, 3) := by decide +kernel
theorem dX9_firstIn_5 : decode cX9_firstIn 5 = .ok (.ifCond .eq 12, 3) := by decide +kernel
theorem dX9_firstIn_8 : decode cX9_firstIn 8 = .ok (.aload_n 0, 1) := by decide +kernel
theorem dX9_firstIn_9 : decode cX9_firstIn 9 = .ok (.getfield 27, 3) := by decide +kernel
theorem dX9_firstIn_12 : decode cX9_firstIn 12 = .ok (.iload_n 1, 1) := by decide +kernel
theorem dX9_firstIn_13 : decode cX9_firstIn 13 = .ok (.iaload, 1) := by decide +kernel
theorem dX9_firstIn_14 : decode cX9_firstIn 14 = .ok (.goto 4, 3) := by decide +kernel
theorem dX9_firstIn_17 : decode cX9_firstIn 17 = .ok (.iconst (-1), 1) := by decide +kernel
theorem dX9_firstIn_18 : decode cX9_firstIn 18 = .ok (.ireturn, 1) := by decide +kernel
theorem dX9_behind_0 : decode cX9_behind 0 = .ok (.aload_n 0, 1) := by decide +kernel
theorem dX9_behind_1 : decode cX9_behind 1 = .ok (.iload_n 1, 1) := by decide +kernel
theorem dX9_behind_2 : decode cX9_behind 2 = .ok (.invokevirtual 81, 3) := by decide +kernel
theorem dX9_behind_5 : decode cX9_behind 5 = .ok (.ifCond .eq 12, 3) := by decide +kernel
theorem dX9_behind_8 : decode cX9_behind 8 = .ok (.aload_n 0, 1) := by decide +kernel
theorem dX9_behind_9 : decode cX9_behind 9 = .ok (.getfield 33, 3) := by decide +kernel
theorem dX9_behind_12 : decode cX9_behind 12 = .ok (.iload_n 1, 1) := by decide +kernel
theorem dX9_behind_13 : decode cX9_behind 13 = .ok (.iaload, 1) := by decide +kernel
theorem dX9_behind_14 : decode cX9_behind 14 = .ok (.goto 4, 3) := by decide +kernel
theorem dX9_behind_17 : decode cX9_behind 17 = .ok (.iconst (-1), 1) := by decide +kernel
theorem dX9_behind_18 : decode cX9_behind 18 = .ok (.ireturn, 1) := by decide +kernel
theorem dX9_areNeighbours_0 : decode cX9_areNeighbours 0 = .ok (.iload_n 1, 1) := by decide +kernel
theorem dX9_areNeighbours_1 : decode cX9_areNeighbours 1 = .ok (.invokestatic 65, 3) := by decide +kernel
theorem dX9_areNeighbours_4 : decode cX9_areNeighbours 4 = .ok (.ifCond .eq 34, 3) := by decide +kernel
theorem dX9_areNeighbours_7 : decode cX9_areNeighbours 7 = .ok (.iload_n 2, 1) := by decide +kernel
theorem dX9_areNeighbours_8 : decode cX9_areNeighbours 8 = .ok (.invokestatic 65, 3) := by decide +kernel
theorem dX9_areNeighbours_11 : decode cX9_areNeighbours 11 = .ok (.ifCond .eq 27, 3) := by decide +kernel
theorem dX9_areNeighbours_14 : decode cX9_areNeighbours 14 = .ok (.aload_n 0, 1) := by decide +kernel
theorem dX9_areNeighbours_15 : decode cX9_areNeighbours 15 = .ok (.getfield 40, 3) := by decide +kernel
theorem dX9_areNeighbours_18 : decode cX9_areNeighbours 18 = .ok (.iload_n 1, 1) := by decide +kernel
theorem dX9_areNeighbours_19 : decode cX9_areNeighbours 19 = .ok (.bipush 97, 2) := by decide +kernel
theorem dX9_areNeighbours_21 : decode cX9_areNeighbours 21 = .ok (.isub, 1) := by decide +kernel
theorem dX9_areNeighbours_22 : decode cX9_areNeighbours 22 = .ok (.iaload, 1) := by decide +kernel
theorem dX9_areNeighbours_23 : decode cX9_areNeighbours 23 = .ok (.iload_n 2, 1) := by decide +kernel
theorem dX9_areNeighbours_24 : decode cX9_areNeighbours 24 = .ok (.bipush 97, 2) := by decide +kernel
theorem dX9_areNeighbours_26 : decode cX9_areNeighbours 26 = .ok (.isub, 1) := by decide +kernel
theorem dX9_areNeighbours_27 : decode cX9_areNeighbours 27 = .ok (.ishr, 1) := by decide +kernel
theorem dX9_areNeighbours_28 : decode cX9_areNeighbours 28 = .ok (.iconst 1, 1) := by decide +kernel
theorem dX9_areNeighbours_29 : decode cX9_areNeighbours 29 = .ok (.iand, 1) := by decide +kernel
theorem dX9_areNeighbours_30 : decode cX9_areNeighbours 30 = .ok (.iconst 1, 1) := by decide +kernel
theorem dX9_areNeighbours_31 : decode cX9_areNeighbours 31 = .ok (.if_icmp .ne 7, 3) := by decide +kernel
theorem dX9_areNeighbours_34 : decode cX9_areNeighbours 34 = .ok (.iconst 1, 1) := by decide +kernel
theorem dX9_areNeighbours_35 : decode cX9_areNeighbours 35 = .ok (.goto 4, 3) := by decide +kernel
theorem dX9_areNeighbours_38 : decode cX9_areNeighbours 38 = .ok (.iconst 0, 1) := by decide +kernel
theorem dX9_areNeighbours_39 : decode cX9_areNeighbours 39 = .ok (.ireturn, 1) := by decide +kernel
theorem dX10_init_0 : decode cX10_init 0 = .ok (.aload_n 0, 1) := by decide +kernel
theorem dX10_init_1 : decode cX10_init 1 = .ok (.invokespecial 1, 3) := by decide +kernel
theorem dX10_init_4 : decode cX10_init 4 = .ok (.aload_n 0, 1) := by decide +kernel
theorem dX10_init_5 : decode cX10_init 5 = .ok (.new 7, 3) := by decide +kernel
theorem dX10_init_8 : decode cX10_init 8 = .ok (.dup, 1) := by decide +kernel
theorem dX10_init_9 : decode cX10_init 9 = .ok (.invokespecial 9, 3) := by decide +kernel
theorem dX10_init_12 : decode cX10_init 12 = .ok (.putfield 10, 3) := by decide +kernel
theorem dX10_init_15 : decode cX10_init 15 = .ok (.aload_n 0, 1) := by decide +kernel
theorem dX10_init_16 : decode cX10_init 16 = .ok (.new 16, 3) := by decide +kernel
theorem dX10_init_19 : decode cX10_init 19 = .ok (.dup, 1) := by decide +kernel
theorem dX10_init_20 : decode cX10_init 20 = .ok (.invokespecial 18, 3) := by decide +kernel
theorem dX10_init_23 : decode cX10_init 23 = .ok (.putfield 19, 3) := by decide +kernel
theorem dX10_init_26 : decode cX10_init 26 = .ok (.aload_n 0, 1) := by decide +kernel
theorem dX10_init_27 : decode cX10_init 27 = .ok (.new 23, 3) := by decide +kernel
theorem dX10_init_30 : decode cX10_init 30 = .ok (.dup, 1) := by decide +kernel
theorem dX10_init_31 : decode cX10_init 31 = .ok (.aload_n 0, 1) := by decide +kernel
theorem dX10_init_32 : decode cX10_init 32 = .ok (.getfield 19, 3) := by decide +kernel
theorem dX10_init_35 : decode cX10_init 35 = .ok (.aload_n 0, 1) := by decide +kernel
theorem dX10_init_36 : decode cX10_init 36 = .ok (.getfield 10, 3) := by decide +kernel
theorem dX10_init_39 : decode cX10_init 39 = .ok (.invokespecial 25, 3) := by decide +kernel
theorem dX10_init_42 : decode cX10_init 42 = .ok (.putfield 28, 3) := by decide +kernel
theorem dX10_init_45 : decode cX10_init 45 = .ok (.aload_n 0, 1) := by decide +kernel
theorem dX10_init_46 : decode cX10_init 46 = .ok (.new 32, 3) := by decide +kernel
theorem dX10_init_49 : decode cX10_init 49 = .ok (.dup, 1) := by decide +kernel
theorem dX10_init_50 : decode cX10_init 50 = .ok (.invokespecial 34, 3) := by decide +kernel
theorem dX10_init_53 : decode cX10_init 53 = .ok (.putfield 35, 3) := by decide +kernel
theorem dX10_init_56 : decode cX10_init 56 = .ok (.aload_n 0, 1) := by decide +kernel
theorem dX10_init_57 : decode cX10_init 57 = .ok (.new 39, 3) := by decide +kernel
theorem dX10_init_60 : decode cX10_init 60 = .ok (.dup, 1) := by decide +kernel
theorem dX10_init_61 : decode cX10_init 61 = .ok (.invokespecial 41, 3) := by decide +kernel
theorem dX10_init_64 : decode cX10_init 64 = .ok (.putfield 42, 3) := by decide +kernel
theorem dX10_init_67 : decode cX10_init 67 = .ok (.aload_n 0, 1) := by decide +kernel
theorem dX10_init_68 : decode cX10_init 68 = .ok (.new 46, 3) := by decide +kernel
theorem dX10_init_71 : decode cX10_init 71 = .ok (.dup, 1) := by decide +kernel
theorem dX10_init_72 : decode cX10_init 72 = .ok (.invokespecial 48, 3) := by decide +kernel
theorem dX10_init_75 : decode cX10_init 75 = .ok (.putfield 49, 3) := by decide +kernel
theorem dX10_init_78 : decode cX10_init 78 = .ok (.aload_n 0, 1) := by decide +kernel
theorem dX10_init_79 : decode cX10_init 79 = .ok (.new 53, 3) := by decide +kernel
theorem dX10_init_82 : decode cX10_init 82 = .ok (.dup, 1) := by decide +kernel
theorem dX10_init_83 : decode cX10_init 83 = .ok (.aload_n 0, 1) := by decide +kernel
theorem dX10_init_84 : decode cX10_init 84 = .ok (.getfield 49, 3) := by decide +kernel
theorem dX10_init_87 : decode cX10_init 87 = .ok (.aload_n 0, 1) := by decide +kernel
theorem dX10_init_88 : decode cX10_init 88 = .ok (.getfield 19, 3) := by decide +kernel
theorem dX10_init_91 : decode cX10_init 91 = .ok (.aload_n 0, 1) := by decide +kernel
theorem dX10_init_92 : decode cX10_init 92 = .ok (.getfield 35, 3) := by decide +kernel
theorem dX10_init_95 : decode cX10_init 95 = .ok (.invokespecial 55, 3) := by decide +kernel
theorem dX10_init_98 : decode cX10_init 98 = .ok (.putfield 58, 3) := by decide +kernel
theorem dX10_init_101 : decode cX10_init 101 = .ok (.aload_n 0, 1) := by decide +kernel
theorem dX10_init_102 : decode cX10_init 102 = .ok (.new 62, 3) := by decide +kernel
theorem dX10_init_105 : decode cX10_init 105 = .ok (.dup, 1) := by decide +kernel
theorem dX10_init_106 : decode cX10_init 106 = .ok (.aload_n 0, 1) := by decide +kernel
theorem dX10_init_107 : decode cX10_init 107 = .ok (.getfield 19, 3) := by decide +kernel
theorem dX10_init_110 : decode cX10_init 110 = .ok (.aload_n 0, 1) := by decide +kernel
theorem dX10_init_111 : decode cX10_init 111 = .ok (.getfield 10, 3) := by decide +kernel
theorem dX10_init_114 : decode cX10_init 114 = .ok (.invokespecial 64, 3) := by decide +kernel
theorem dX10_init_117 : decode cX10_init 117 = .ok (.putfield 65, 3) := by decide +kernel
theorem dX10_init_120 : decode cX10_init 120 = .ok (.aload_n 0, 1) := by decide +kernel
theorem dX10_init_121 : decode cX10_init 121 = .ok (.new 69, 3) := by decide +kernel
theorem dX10_init_124 : decode cX10_init 124 = .ok (.dup, 1) := by decide +kernel
theorem dX10_init_125 : decode cX10_init 125 = .ok (.aload_n 0, 1) := by decide +kernel
theorem dX10_init_126 : decode cX10_init 126 = .ok (.getfield 42, 3) := by decide +kernel
theorem dX10_init_129 : decode cX10_init 129 = .ok (.aload_n 0, 1) := by decide +kernel
theorem dX10_init_130 : decode cX10_init 130 = .ok (.getfield 10, 3) := by decide +kernel
theorem dX10_init_133 : decode cX10_init 133 = .ok (.invokespecial 71, 3) := by decide +kernel
theorem dX10_init_136 : decode cX10_init 136 = .ok (.putfield 74, 3) := by decide +kernel
theorem dX10_init_139 : decode cX10_init 139 = .ok (.return_, 1) := by decide +kernel
theorem dX10_node_0 : decode cX10_node 0 = .ok (.aload_n 0, 1) := by decide +kernel
theorem dX10_node_1 : decode cX10_node 1 = .ok (.getfield 19, 3) := by decide +kernel
theorem dX10_node_4 : decode cX10_node 4 = .ok (.iload_n 1, 1) := by decide +kernel
theorem dX10_node_5 : decode cX10_node 5 = .ok (.iload_n 2, 1) := by decide +kernel
theorem dX10_node_6 : decode cX10_node 6 = .ok (.iload_n 3, 1) := by decide +kernel
theorem dX10_node_7 : decode cX10_node 7 = .ok (.invokevirtual 78, 3) := by decide +kernel
theorem dX10_node_10 : decode cX10_node 10 = .ok (.istore 4, 2) := by decide +kernel
theorem dX10_node_12 : decode cX10_node 12 = .ok (.iload 4, 2) := by decide +kernel
theorem dX10_node_14 : decode cX10_node 14 = .ok (.iconst (-1), 1) := by decide +kernel
theorem dX10_node_15 : decode cX10_node 15 = .ok (.if_icmp .eq 7, 3) := by decide +kernel
theorem dX10_node_18 : decode cX10_node 18 = .ok (.aload_n 0, 1) := by decide +kernel
theorem dX10_node_19 : decode cX10_node 19 = .ok (.invokevirtual 82, 3) := by decide +kernel
theorem dX10_node_22 : decode cX10_node 22 = .ok (.iload 4, 2) := by decide +kernel
theorem dX10_node_24 : decode cX10_node 24 = .ok (.ireturn, 1) := by decide +kernel
theorem dX10_clear_0 : decode cX10_clear 0 = .ok (.aload_n 0, 1) := by decide +kernel
theorem dX10_clear_1 : decode cX10_clear 1 = .ok (.getfield 19, 3) := by decide +kernel
theorem dX10_clear_4 : decode cX10_clear 4 = .ok (.invokevirtual 85, 3) := by decide +kernel
theorem dX10_clear_7 : decode cX10_clear 7 = .ok (.aload_n 0, 1) := by decide +kernel
theorem dX10_clear_8 : decode cX10_clear 8 = .ok (.invokevirtual 82, 3) := by decide +kernel
theorem dX10_clear_11 : decode cX10_clear 11 = .ok (.return_, 1) := by decide +kernel
theorem dX10_told_0 : decode cX10_told 0 = .ok (.aload_n 0, 1) := by decide +kernel
theorem dX10_told_1 : decode cX10_told 1 = .ok (.getfield 19, 3) := by decide +kernel
theorem dX10_told_4 : decode cX10_told 4 = .ok (.iload_n 1, 1) := by decide +kernel
theorem dX10_told_5 : decode cX10_told 5 = .ok (.invokevirtual 88, 3) := by decide +kernel
theorem dX10_told_8 : decode cX10_told 8 = .ok (.ifCond .ne 5, 3) := by decide +kernel
theorem dX10_told_11 : decode cX10_told 11 = .ok (.iconst (-1), 1) := by decide +kernel
theorem dX10_told_12 : decode cX10_told 12 = .ok (.ireturn, 1) := by decide +kernel
theorem dX10_told_13 : decode cX10_told 13 = .ok (.iload_n 2, 1) := by decide +kernel
theorem dX10_told_14 : decode cX10_told 14 = .ok (.tableswitch 79 0 4 #[34, 43, 52, 61, 70], 34) := by decide +kernel
theorem dX10_told_48 : decode cX10_told 48 = .ok (.aload_n 0, 1) := by decide +kernel
theorem dX10_told_49 : decode cX10_told 49 = .ok (.getfield 19, 3) := by decide +kernel
theorem dX10_told_52 : decode cX10_told 52 = .ok (.iload_n 1, 1) := by decide +kernel
theorem dX10_told_53 : decode cX10_told 53 = .ok (.invokevirtual 92, 3) := by decide +kernel
theorem dX10_told_56 : decode cX10_told 56 = .ok (.ireturn, 1) := by decide +kernel
theorem dX10_told_57 : decode cX10_told 57 = .ok (.aload_n 0, 1) := by decide +kernel
theorem dX10_told_58 : decode cX10_told 58 = .ok (.getfield 19, 3) := by decide +kernel
theorem dX10_told_61 : decode cX10_told 61 = .ok (.iload_n 1, 1) := by decide +kernel
theorem dX10_told_62 : decode cX10_told 62 = .ok (.invokevirtual 96, 3) := by decide +kernel
theorem dX10_told_65 : decode cX10_told 65 = .ok (.ireturn, 1) := by decide +kernel
theorem dX10_told_66 : decode cX10_told 66 = .ok (.aload_n 0, 1) := by decide +kernel
theorem dX10_told_67 : decode cX10_told 67 = .ok (.getfield 19, 3) := by decide +kernel
theorem dX10_told_70 : decode cX10_told 70 = .ok (.iload_n 1, 1) := by decide +kernel
theorem dX10_told_71 : decode cX10_told 71 = .ok (.invokevirtual 99, 3) := by decide +kernel
theorem dX10_told_74 : decode cX10_told 74 = .ok (.ireturn, 1) := by decide +kernel
theorem dX10_told_75 : decode cX10_told 75 = .ok (.aload_n 0, 1) := by decide +kernel
theorem dX10_told_76 : decode cX10_told 76 = .ok (.getfield 19, 3) := by decide +kernel
theorem dX10_told_79 : decode cX10_told 79 = .ok (.iload_n 1, 1) := by decide +kernel
theorem dX10_told_80 : decode cX10_told 80 = .ok (.invokevirtual 102, 3) := by decide +kernel
theorem dX10_told_83 : decode cX10_told 83 = .ok (.ireturn, 1) := by decide +kernel
theorem dX10_told_84 : decode cX10_told 84 = .ok (.aload_n 0, 1) := by decide +kernel
theorem dX10_told_85 : decode cX10_told 85 = .ok (.getfield 19, 3) := by decide +kernel
theorem dX10_told_88 : decode cX10_told 88 = .ok (.iload_n 1, 1) := by decide +kernel
theorem dX10_told_89 : decode cX10_told 89 = .ok (.invokevirtual 105, 3) := by decide +kernel
theorem dX10_told_92 : decode cX10_told 92 = .ok (.ireturn, 1) := by decide +kernel
theorem dX10_told_93 : decode cX10_told 93 = .ok (.iconst (-1), 1) := by decide +kernel
theorem dX10_told_94 : decode cX10_told 94 = .ok (.ireturn, 1) := by decide +kernel
theorem dX10_set_0 : decode cX10_set 0 = .ok (.aload_n 0, 1) := by decide +kernel
theorem dX10_set_1 : decode cX10_set 1 = .ok (.getfield 10, 3) := by decide +kernel
theorem dX10_set_4 : decode cX10_set 4 = .ok (.iload_n 1, 1) := by decide +kernel
theorem dX10_set_5 : decode cX10_set 5 = .ok (.iload_n 2, 1) := by decide +kernel
theorem dX10_set_6 : decode cX10_set 6 = .ok (.invokevirtual 108, 3) := by decide +kernel
theorem dX10_set_9 : decode cX10_set 9 = .ok (.ireturn, 1) := by decide +kernel
theorem dX10_tick_0 : decode cX10_tick 0 = .ok (.aload_n 0, 1) := by decide +kernel
theorem dX10_tick_1 : decode cX10_tick 1 = .ok (.getfield 28, 3) := by decide +kernel
theorem dX10_tick_4 : decode cX10_tick 4 = .ok (.iload_n 1, 1) := by decide +kernel
theorem dX10_tick_5 : decode cX10_tick 5 = .ok (.invokevirtual 112, 3) := by decide +kernel
theorem dX10_tick_8 : decode cX10_tick 8 = .ok (.ireturn, 1) := by decide +kernel
theorem dX10_press_0 : decode cX10_press 0 = .ok (.aload_n 0, 1) := by decide +kernel
theorem dX10_press_1 : decode cX10_press 1 = .ok (.getfield 28, 3) := by decide +kernel
theorem dX10_press_4 : decode cX10_press 4 = .ok (.invokevirtual 115, 3) := by decide +kernel
theorem dX10_press_7 : decode cX10_press 7 = .ok (.istore_n 1, 1) := by decide +kernel
theorem dX10_press_8 : decode cX10_press 8 = .ok (.iload_n 1, 1) := by decide +kernel
theorem dX10_press_9 : decode cX10_press 9 = .ok (.iconst (-1), 1) := by decide +kernel
theorem dX10_press_10 : decode cX10_press 10 = .ok (.if_icmp .ne 5, 3) := by decide +kernel
theorem dX10_press_13 : decode cX10_press 13 = .ok (.iconst (-1), 1) := by decide +kernel
theorem dX10_press_14 : decode cX10_press 14 = .ok (.ireturn, 1) := by decide +kernel
theorem dX10_press_15 : decode cX10_press 15 = .ok (.aload_n 0, 1) := by decide +kernel
theorem dX10_press_16 : decode cX10_press 16 = .ok (.getfield 19, 3) := by decide +kernel
theorem dX10_press_19 : decode cX10_press 19 = .ok (.iload_n 1, 1) := by decide +kernel
theorem dX10_press_20 : decode cX10_press 20 = .ok (.invokevirtual 92, 3) := by decide +kernel
theorem dX10_press_23 : decode cX10_press 23 = .ok (.ifCond .ne 14, 3) := by decide +kernel
theorem dX10_press_26 : decode cX10_press 26 = .ok (.aload_n 0, 1) := by decide +kernel
theorem dX10_press_27 : decode cX10_press 27 = .ok (.getfield 28, 3) := by decide +kernel
theorem dX10_press_30 : decode cX10_press 30 = .ok (.iload_n 1, 1) := by decide +kernel
theorem dX10_press_31 : decode cX10_press 31 = .ok (.invokevirtual 119, 3) := by decide +kernel
theorem dX10_press_34 : decode cX10_press 34 = .ok (.goto 16, 3) := by decide +kernel
theorem dX10_press_37 : decode cX10_press 37 = .ok (.aload_n 0, 1) := by decide +kernel
theorem dX10_press_38 : decode cX10_press 38 = .ok (.iload_n 1, 1) := by decide +kernel
theorem dX10_press_39 : decode cX10_press 39 = .ok (.invokevirtual 123, 3) := by decide +kernel
theorem dX10_press_42 : decode cX10_press 42 = .ok (.aload_n 0, 1) := by decide +kernel
theorem dX10_press_43 : decode cX10_press 43 = .ok (.getfield 28, 3) := by decide +kernel
theorem dX10_press_46 : decode cX10_press 46 = .ok (.iconst 0, 1) := by decide +kernel
theorem dX10_press_47 : decode cX10_press 47 = .ok (.invokevirtual 119, 3) := by decide +kernel
theorem dX10_press_50 : decode cX10_press 50 = .ok (.iload_n 1, 1) := by decide +kernel
theorem dX10_press_51 : decode cX10_press 51 = .ok (.ireturn, 1) := by decide +kernel
theorem dX10_state_0 : decode cX10_state 0 = .ok (.iload_n 1, 1) := by decide +kernel
theorem dX10_state_1 : decode cX10_state 1 = .ok (.bipush 7, 2) := by decide +kernel
theorem dX10_state_3 : decode cX10_state 3 = .ok (.if_icmp .ne 13, 3) := by decide +kernel
theorem dX10_state_6 : decode cX10_state 6 = .ok (.aload_n 0, 1) := by decide +kernel
theorem dX10_state_7 : decode cX10_state 7 = .ok (.getfield 35, 3) := by decide +kernel
theorem dX10_state_10 : decode cX10_state 10 = .ok (.invokevirtual 126, 3) := by decide +kernel
theorem dX10_state_13 : decode cX10_state 13 = .ok (.goto 11, 3) := by decide +kernel
theorem dX10_state_16 : decode cX10_state 16 = .ok (.aload_n 0, 1) := by decide +kernel
theorem dX10_state_17 : decode cX10_state 17 = .ok (.getfield 28, 3) := by decide +kernel
theorem dX10_state_20 : decode cX10_state 20 = .ok (.iload_n 1, 1) := by decide +kernel
theorem dX10_state_21 : decode cX10_state 21 = .ok (.invokevirtual 129, 3) := by decide +kernel
theorem dX10_state_24 : decode cX10_state 24 = .ok (.ireturn, 1) := by decide +kernel
theorem dX10_length_0 : decode cX10_length 0 = .ok (.aload_n 0, 1) := by decide +kernel
theorem dX10_length_1 : decode cX10_length 1 = .ok (.getfield 35, 3) := by decide +kernel
theorem dX10_length_4 : decode cX10_length 4 = .ok (.iload_n 1, 1) := by decide +kernel
theorem dX10_length_5 : decode cX10_length 5 = .ok (.invokevirtual 132, 3) := by decide +kernel
theorem dX10_length_8 : decode cX10_length 8 = .ok (.astore_n 2, 1) := by decide +kernel
theorem dX10_length_9 : decode cX10_length 9 = .ok (.aload_n 2, 1) := by decide +kernel
theorem dX10_length_10 : decode cX10_length 10 = .ok (.ifnonnull 7, 3) := by decide +kernel
theorem dX10_length_13 : decode cX10_length 13 = .ok (.iconst (-1), 1) := by decide +kernel
theorem dX10_length_14 : decode cX10_length 14 = .ok (.goto 7, 3) := by decide +kernel
theorem dX10_length_17 : decode cX10_length 17 = .ok (.aload_n 2, 1) := by decide +kernel
theorem dX10_length_18 : decode cX10_length 18 = .ok (.getfield 136, 3) := by decide +kernel
theorem dX10_length_21 : decode cX10_length 21 = .ok (.ireturn, 1) := by decide +kernel
theorem dX10_at_0 : decode cX10_at 0 = .ok (.aload_n 0, 1) := by decide +kernel
theorem dX10_at_1 : decode cX10_at 1 = .ok (.getfield 35, 3) := by decide +kernel
theorem dX10_at_4 : decode cX10_at 4 = .ok (.iload_n 1, 1) := by decide +kernel
theorem dX10_at_5 : decode cX10_at 5 = .ok (.invokevirtual 132, 3) := by decide +kernel
theorem dX10_at_8 : decode cX10_at 8 = .ok (.astore_n 3, 1) := by decide +kernel
theorem dX10_at_9 : decode cX10_at 9 = .ok (.aload_n 3, 1) := by decide +kernel
theorem dX10_at_10 : decode cX10_at 10 = .ok (.ifnull 15, 3) := by decide +kernel
theorem dX10_at_13 : decode cX10_at 13 = .ok (.iload_n 2, 1) := by decide +kernel
theorem dX10_at_14 : decode cX10_at 14 = .ok (.ifCond .lt 11, 3) := by decide +kernel
theorem dX10_at_17 : decode cX10_at 17 = .ok (.iload_n 2, 1) := by decide +kernel
theorem dX10_at_18 : decode cX10_at 18 = .ok (.aload_n 3, 1) := by decide +kernel
theorem dX10_at_19 : decode cX10_at 19 = .ok (.getfield 136, 3) := by decide +kernel
theorem dX10_at_22 : decode cX10_at 22 = .ok (.if_icmp .lt 11, 3) := by decide +kernel
theorem dX10_at_25 : decode cX10_at 25 = .ok (.new 142, 3) := by decide +kernel
theorem dX10_at_28 : decode cX10_at 28 = .ok (.dup, 1) := by decide +kernel
theorem dX10_at_29 : decode cX10_at 29 = .ok (.invokespecial 144, 3) := by decide +kernel
theorem dX10_at_32 : decode cX10_at 32 = .ok (.athrow, 1) := by decide +kernel
theorem dX10_at_33 : decode cX10_at 33 = .ok (.aload_n 3, 1) := by decide +kernel
theorem dX10_at_34 : decode cX10_at 34 = .ok (.iload_n 2, 1) := by decide +kernel
theorem dX10_at_35 : decode cX10_at 35 = .ok (.invokevirtual 145, 3) := by decide +kernel
theorem dX10_at_38 : decode cX10_at 38 = .ok (.ireturn, 1) := by decide +kernel
theorem dX10_feed_0 : decode cX10_feed 0 = .ok (.aload_n 0, 1) := by decide +kernel
theorem dX10_feed_1 : decode cX10_feed 1 = .ok (.getfield 42, 3) := by decide +kernel
theorem dX10_feed_4 : decode cX10_feed 4 = .ok (.iload_n 1, 1) := by decide +kernel
theorem dX10_feed_5 : decode cX10_feed 5 = .ok (.iload_n 2, 1) := by decide +kernel
theorem dX10_feed_6 : decode cX10_feed 6 = .ok (.invokevirtual 148, 3) := by decide +kernel
theorem dX10_feed_9 : decode cX10_feed 9 = .ok (.ireturn, 1) := by decide +kernel
theorem dX10_end_0 : decode cX10_end 0 = .ok (.aload_n 0, 1) := by decide +kernel
theorem dX10_end_1 : decode cX10_end 1 = .ok (.getfield 42, 3) := by decide +kernel
theorem dX10_end_4 : decode cX10_end 4 = .ok (.iload_n 1, 1) := by decide +kernel
theorem dX10_end_5 : decode cX10_end 5 = .ok (.invokevirtual 151, 3) := by decide +kernel
theorem dX10_end_8 : decode cX10_end 8 = .ok (.ireturn, 1) := by decide +kernel
theorem dX10_word_0 : decode cX10_word 0 = .ok (.aload_n 0, 1) := by decide +kernel
theorem dX10_word_1 : decode cX10_word 1 = .ok (.getfield 49, 3) := by decide +kernel
theorem dX10_word_4 : decode cX10_word 4 = .ok (.aload_n 0, 1) := by decide +kernel
theorem dX10_word_5 : decode cX10_word 5 = .ok (.getfield 42, 3) := by decide +kernel
theorem dX10_word_8 : decode cX10_word 8 = .ok (.iload_n 1, 1) := by decide +kernel
theorem dX10_word_9 : decode cX10_word 9 = .ok (.invokevirtual 154, 3) := by decide +kernel
theorem dX10_word_12 : decode cX10_word 12 = .ok (.istore_n 2, 1) := by decide +kernel
theorem dX10_word_13 : decode cX10_word 13 = .ok (.iload_n 2, 1) := by decide +kernel
theorem dX10_word_14 : decode cX10_word 14 = .ok (.iconst (-1), 1) := by decide +kernel
theorem dX10_word_15 : decode cX10_word 15 = .ok (.if_icmp .eq 12, 3) := by decide +kernel
theorem dX10_word_18 : decode cX10_word 18 = .ok (.aload_n 0, 1) := by decide +kernel
theorem dX10_word_19 : decode cX10_word 19 = .ok (.getfield 42, 3) := by decide +kernel
theorem dX10_word_22 : decode cX10_word 22 = .ok (.iconst 0, 1) := by decide +kernel
theorem dX10_word_23 : decode cX10_word 23 = .ok (.invokevirtual 151, 3) := by decide +kernel
theorem dX10_word_26 : decode cX10_word 26 = .ok (.pop, 1) := by decide +kernel
theorem dX10_word_27 : decode cX10_word 27 = .ok (.iload_n 2, 1) := by decide +kernel
theorem dX10_word_28 : decode cX10_word 28 = .ok (.ireturn, 1) := by decide +kernel
theorem dX10_letter_0 : decode cX10_letter 0 = .ok (.iload_n 2, 1) := by decide +kernel
theorem dX10_letter_1 : decode cX10_letter 1 = .ok (.ifCond .lt 15, 3) := by decide +kernel
theorem dX10_letter_4 : decode cX10_letter 4 = .ok (.iload_n 2, 1) := by decide +kernel
theorem dX10_letter_5 : decode cX10_letter 5 = .ok (.aload_n 0, 1) := by decide +kernel
theorem dX10_letter_6 : decode cX10_letter 6 = .ok (.getfield 49, 3) := by decide +kernel
theorem dX10_letter_9 : decode cX10_letter 9 = .ok (.iload_n 1, 1) := by decide +kernel
theorem dX10_letter_10 : decode cX10_letter 10 = .ok (.invokevirtual 157, 3) := by decide +kernel
theorem dX10_letter_13 : decode cX10_letter 13 = .ok (.if_icmp .lt 11, 3) := by decide +kernel
theorem dX10_letter_16 : decode cX10_letter 16 = .ok (.new 142, 3) := by decide +kernel
theorem dX10_letter_19 : decode cX10_letter 19 = .ok (.dup, 1) := by decide +kernel
theorem dX10_letter_20 : decode cX10_letter 20 = .ok (.invokespecial 144, 3) := by decide +kernel
theorem dX10_letter_23 : decode cX10_letter 23 = .ok (.athrow, 1) := by decide +kernel
theorem dX10_letter_24 : decode cX10_letter 24 = .ok (.aload_n 0, 1) := by decide +kernel
theorem dX10_letter_25 : decode cX10_letter 25 = .ok (.getfield 49, 3) := by decide +kernel
theorem dX10_letter_28 : decode cX10_letter 28 = .ok (.iload_n 1, 1) := by decide +kernel
theorem dX10_letter_29 : decode cX10_letter 29 = .ok (.iload_n 2, 1) := by decide +kernel
theorem dX10_letter_30 : decode cX10_letter 30 = .ok (.invokevirtual 160, 3) := by decide +kernel
theorem dX10_letter_33 : decode cX10_letter 33 = .ok (.ireturn, 1) := by decide +kernel
theorem dX10_foreseen_0 : decode cX10_foreseen 0 = .ok (.aload_n 0, 1) := by decide +kernel
theorem dX10_foreseen_1 : decode cX10_foreseen 1 = .ok (.getfield 58, 3) := by decide +kernel
theorem dX10_foreseen_4 : decode cX10_foreseen 4 = .ok (.invokevirtual 163, 3) := by decide +kernel
theorem dX10_foreseen_7 : decode cX10_foreseen 7 = .ok (.aload_n 0, 1) := by decide +kernel
theorem dX10_foreseen_8 : decode cX10_foreseen 8 = .ok (.getfield 58, 3) := by decide +kernel
theorem dX10_foreseen_11 : decode cX10_foreseen 11 = .ok (.iload_n 1, 1) := by decide +kernel
theorem dX10_foreseen_12 : decode cX10_foreseen 12 = .ok (.invokevirtual 166, 3) := by decide +kernel
theorem dX10_foreseen_15 : decode cX10_foreseen 15 = .ok (.ireturn, 1) := by decide +kernel
theorem dX10_offered_0 : decode cX10_offered 0 = .ok (.aload_n 0, 1) := by decide +kernel
theorem dX10_offered_1 : decode cX10_offered 1 = .ok (.getfield 58, 3) := by decide +kernel
theorem dX10_offered_4 : decode cX10_offered 4 = .ok (.invokevirtual 169, 3) := by decide +kernel
theorem dX10_offered_7 : decode cX10_offered 7 = .ok (.aload_n 0, 1) := by decide +kernel
theorem dX10_offered_8 : decode cX10_offered 8 = .ok (.getfield 58, 3) := by decide +kernel
theorem dX10_offered_11 : decode cX10_offered 11 = .ok (.iload_n 1, 1) := by decide +kernel
theorem dX10_offered_12 : decode cX10_offered 12 = .ok (.invokevirtual 166, 3) := by decide +kernel
theorem dX10_offered_15 : decode cX10_offered 15 = .ok (.ireturn, 1) := by decide +kernel
theorem dX10_near_0 : decode cX10_near 0 = .ok (.iload_n 1, 1) := by decide +kernel
theorem dX10_near_1 : decode cX10_near 1 = .ok (.invokestatic 172, 3) := by decide +kernel
theorem dX10_near_4 : decode cX10_near 4 = .ok (.ifCond .eq 10, 3) := by decide +kernel
theorem dX10_near_7 : decode cX10_near 7 = .ok (.iload_n 2, 1) := by decide +kernel
theorem dX10_near_8 : decode cX10_near 8 = .ok (.invokestatic 172, 3) := by decide +kernel
theorem dX10_near_11 : decode cX10_near 11 = .ok (.ifCond .ne 5, 3) := by decide +kernel
theorem dX10_near_14 : decode cX10_near 14 = .ok (.iconst (-1), 1) := by decide +kernel
theorem dX10_near_15 : decode cX10_near 15 = .ok (.ireturn, 1) := by decide +kernel
theorem dX10_near_16 : decode cX10_near 16 = .ok (.aload_n 0, 1) := by decide +kernel
theorem dX10_near_17 : decode cX10_near 17 = .ok (.getfield 19, 3) := by decide +kernel
theorem dX10_near_20 : decode cX10_near 20 = .ok (.iload_n 1, 1) := by decide +kernel
theorem dX10_near_21 : decode cX10_near 21 = .ok (.iload_n 2, 1) := by decide +kernel
theorem dX10_near_22 : decode cX10_near 22 = .ok (.invokevirtual 175, 3) := by decide +kernel
theorem dX10_near_25 : decode cX10_near 25 = .ok (.ifCond .eq 7, 3) := by decide +kernel
theorem dX10_near_28 : decode cX10_near 28 = .ok (.iconst 1, 1) := by decide +kernel
theorem dX10_near_29 : decode cX10_near 29 = .ok (.goto 4, 3) := by decide +kernel
theorem dX10_near_32 : decode cX10_near 32 = .ok (.iconst 0, 1) := by decide +kernel
theorem dX10_near_33 : decode cX10_near 33 = .ok (.ireturn, 1) := by decide +kernel
theorem dX10_share_0 : decode cX10_share 0 = .ok (.aload_n 0, 1) := by decide +kernel
theorem dX10_share_1 : decode cX10_share 1 = .ok (.getfield 65, 3) := by decide +kernel
theorem dX10_share_4 : decode cX10_share 4 = .ok (.iload_n 1, 1) := by decide +kernel
theorem dX10_share_5 : decode cX10_share 5 = .ok (.iload_n 2, 1) := by decide +kernel
theorem dX10_share_6 : decode cX10_share 6 = .ok (.invokevirtual 178, 3) := by decide +kernel
theorem dX10_share_9 : decode cX10_share 9 = .ok (.ireturn, 1) := by decide +kernel
theorem dX10_cost_0 : decode cX10_cost 0 = .ok (.aload_n 0, 1) := by decide +kernel
theorem dX10_cost_1 : decode cX10_cost 1 = .ok (.getfield 65, 3) := by decide +kernel
theorem dX10_cost_4 : decode cX10_cost 4 = .ok (.iload_n 1, 1) := by decide +kernel
theorem dX10_cost_5 : decode cX10_cost 5 = .ok (.invokevirtual 179, 3) := by decide +kernel
theorem dX10_cost_8 : decode cX10_cost 8 = .ok (.ireturn, 1) := by decide +kernel
theorem dX10_mean_0 : decode cX10_mean 0 = .ok (.aload_n 0, 1) := by decide +kernel
theorem dX10_mean_1 : decode cX10_mean 1 = .ok (.getfield 65, 3) := by decide +kernel
theorem dX10_mean_4 : decode cX10_mean 4 = .ok (.iload_n 1, 1) := by decide +kernel
theorem dX10_mean_5 : decode cX10_mean 5 = .ok (.invokevirtual 182, 3) := by decide +kernel
theorem dX10_mean_8 : decode cX10_mean 8 = .ok (.lreturn, 1) := by decide +kernel
theorem dX10_lay_0 : decode cX10_lay 0 = .ok (.aload_n 0, 1) := by decide +kernel
theorem dX10_lay_1 : decode cX10_lay 1 = .ok (.getfield 42, 3) := by decide +kernel
theorem dX10_lay_4 : decode cX10_lay 4 = .ok (.invokevirtual 186, 3) := by decide +kernel
theorem dX10_lay_7 : decode cX10_lay 7 = .ok (.ifCond .ne 5, 3) := by decide +kernel
theorem dX10_lay_10 : decode cX10_lay 10 = .ok (.iconst (-1), 1) := by decide +kernel
theorem dX10_lay_11 : decode cX10_lay 11 = .ok (.ireturn, 1) := by decide +kernel
theorem dX10_lay_12 : decode cX10_lay 12 = .ok (.aload_n 0, 1) := by decide +kernel
theorem dX10_lay_13 : decode cX10_lay 13 = .ok (.getfield 74, 3) := by decide +kernel
theorem dX10_lay_16 : decode cX10_lay 16 = .ok (.aload_n 0, 1) := by decide +kernel
theorem dX10_lay_17 : decode cX10_lay 17 = .ok (.getfield 65, 3) := by decide +kernel
theorem dX10_lay_20 : decode cX10_lay 20 = .ok (.invokevirtual 190, 3) := by decide +kernel
theorem dX10_lay_23 : decode cX10_lay 23 = .ok (.istore_n 1, 1) := by decide +kernel
theorem dX10_lay_24 : decode cX10_lay 24 = .ok (.aload_n 0, 1) := by decide +kernel
theorem dX10_lay_25 : decode cX10_lay 25 = .ok (.getfield 19, 3) := by decide +kernel
theorem dX10_lay_28 : decode cX10_lay 28 = .ok (.invokevirtual 85, 3) := by decide +kernel
theorem dX10_lay_31 : decode cX10_lay 31 = .ok (.aload_n 0, 1) := by decide +kernel
theorem dX10_lay_32 : decode cX10_lay 32 = .ok (.getfield 74, 3) := by decide +kernel
theorem dX10_lay_35 : decode cX10_lay 35 = .ok (.aload_n 0, 1) := by decide +kernel
theorem dX10_lay_36 : decode cX10_lay 36 = .ok (.getfield 19, 3) := by decide +kernel
theorem dX10_lay_39 : decode cX10_lay 39 = .ok (.invokevirtual 194, 3) := by decide +kernel
theorem dX10_lay_42 : decode cX10_lay 42 = .ok (.aload_n 0, 1) := by decide +kernel
theorem dX10_lay_43 : decode cX10_lay 43 = .ok (.getfield 42, 3) := by decide +kernel
theorem dX10_lay_46 : decode cX10_lay 46 = .ok (.iconst 0, 1) := by decide +kernel
theorem dX10_lay_47 : decode cX10_lay 47 = .ok (.invokevirtual 151, 3) := by decide +kernel
theorem dX10_lay_50 : decode cX10_lay 50 = .ok (.pop, 1) := by decide +kernel
theorem dX10_lay_51 : decode cX10_lay 51 = .ok (.aload_n 0, 1) := by decide +kernel
theorem dX10_lay_52 : decode cX10_lay 52 = .ok (.invokevirtual 82, 3) := by decide +kernel
theorem dX10_lay_55 : decode cX10_lay 55 = .ok (.iload_n 1, 1) := by decide +kernel
theorem dX10_lay_56 : decode cX10_lay 56 = .ok (.ireturn, 1) := by decide +kernel
theorem dX10_count_0 : decode cX10_count 0 = .ok (.iload_n 1, 1) := by decide +kernel
theorem dX10_count_1 : decode cX10_count 1 = .ok (.tableswitch 101 0 5 #[39, 47, 55, 63, 71, 86], 39) := by decide +kernel
theorem dX10_count_40 : decode cX10_count 40 = .ok (.aload_n 0, 1) := by decide +kernel
theorem dX10_count_41 : decode cX10_count 41 = .ok (.getfield 19, 3) := by decide +kernel
theorem dX10_count_44 : decode cX10_count 44 = .ok (.invokevirtual 198, 3) := by decide +kernel
theorem dX10_count_47 : decode cX10_count 47 = .ok (.ireturn, 1) := by decide +kernel
theorem dX10_count_48 : decode cX10_count 48 = .ok (.aload_n 0, 1) := by decide +kernel
theorem dX10_count_49 : decode cX10_count 49 = .ok (.getfield 49, 3) := by decide +kernel
theorem dX10_count_52 : decode cX10_count 52 = .ok (.invokevirtual 200, 3) := by decide +kernel
theorem dX10_count_55 : decode cX10_count 55 = .ok (.ireturn, 1) := by decide +kernel
theorem dX10_count_56 : decode cX10_count 56 = .ok (.aload_n 0, 1) := by decide +kernel
theorem dX10_count_57 : decode cX10_count 57 = .ok (.getfield 42, 3) := by decide +kernel
theorem dX10_count_60 : decode cX10_count 60 = .ok (.invokevirtual 201, 3) := by decide +kernel
theorem dX10_count_63 : decode cX10_count 63 = .ok (.ireturn, 1) := by decide +kernel
theorem dX10_count_64 : decode cX10_count 64 = .ok (.aload_n 0, 1) := by decide +kernel
theorem dX10_count_65 : decode cX10_count 65 = .ok (.getfield 35, 3) := by decide +kernel
theorem dX10_count_68 : decode cX10_count 68 = .ok (.invokevirtual 202, 3) := by decide +kernel
theorem dX10_count_71 : decode cX10_count 71 = .ok (.ireturn, 1) := by decide +kernel
theorem dX10_count_72 : decode cX10_count 72 = .ok (.aload_n 0, 1) := by decide +kernel
theorem dX10_count_73 : decode cX10_count 73 = .ok (.getfield 58, 3) := by decide +kernel
theorem dX10_count_76 : decode cX10_count 76 = .ok (.invokevirtual 163, 3) := by decide +kernel
theorem dX10_count_79 : decode cX10_count 79 = .ok (.aload_n 0, 1) := by decide +kernel
theorem dX10_count_80 : decode cX10_count 80 = .ok (.getfield 58, 3) := by decide +kernel
theorem dX10_count_83 : decode cX10_count 83 = .ok (.invokevirtual 205, 3) := by decide +kernel
theorem dX10_count_86 : decode cX10_count 86 = .ok (.ireturn, 1) := by decide +kernel
theorem dX10_count_87 : decode cX10_count 87 = .ok (.aload_n 0, 1) := by decide +kernel
theorem dX10_count_88 : decode cX10_count 88 = .ok (.getfield 58, 3) := by decide +kernel
theorem dX10_count_91 : decode cX10_count 91 = .ok (.invokevirtual 169, 3) := by decide +kernel
theorem dX10_count_94 : decode cX10_count 94 = .ok (.aload_n 0, 1) := by decide +kernel
theorem dX10_count_95 : decode cX10_count 95 = .ok (.getfield 58, 3) := by decide +kernel
theorem dX10_count_98 : decode cX10_count 98 = .ok (.invokevirtual 205, 3) := by decide +kernel
theorem dX10_count_101 : decode cX10_count 101 = .ok (.ireturn, 1) := by decide +kernel
theorem dX10_count_102 : decode cX10_count 102 = .ok (.iconst (-1), 1) := by decide +kernel
theorem dX10_count_103 : decode cX10_count 103 = .ok (.ireturn, 1) := by decide +kernel
theorem dX10_showTrayAnew_0 : decode cX10_showTrayAnew 0 = .ok (.aload_n 0, 1) := by decide +kernel
theorem dX10_showTrayAnew_1 : decode cX10_showTrayAnew 1 = .ok (.getfield 19, 3) := by decide +kernel
theorem dX10_showTrayAnew_4 : decode cX10_showTrayAnew 4 = .ok (.invokevirtual 208, 3) := by decide +kernel
theorem dX10_showTrayAnew_7 : decode cX10_showTrayAnew 7 = .ok (.aload_n 0, 1) := by decide +kernel
theorem dX10_showTrayAnew_8 : decode cX10_showTrayAnew 8 = .ok (.getfield 28, 3) := by decide +kernel
theorem dX10_showTrayAnew_11 : decode cX10_showTrayAnew 11 = .ok (.iconst 0, 1) := by decide +kernel
theorem dX10_showTrayAnew_12 : decode cX10_showTrayAnew 12 = .ok (.invokevirtual 119, 3) := by decide +kernel
theorem dX10_showTrayAnew_15 : decode cX10_showTrayAnew 15 = .ok (.return_, 1) := by decide +kernel
theorem dX10_act_0 : decode cX10_act 0 = .ok (.aload_n 0, 1) := by decide +kernel
theorem dX10_act_1 : decode cX10_act 1 = .ok (.getfield 19, 3) := by decide +kernel
theorem dX10_act_4 : decode cX10_act 4 = .ok (.iload_n 1, 1) := by decide +kernel
theorem dX10_act_5 : decode cX10_act 5 = .ok (.invokevirtual 96, 3) := by decide +kernel
theorem dX10_act_8 : decode cX10_act 8 = .ok (.istore_n 2, 1) := by decide +kernel
theorem dX10_act_9 : decode cX10_act 9 = .ok (.aload_n 0, 1) := by decide +kernel
theorem dX10_act_10 : decode cX10_act 10 = .ok (.getfield 19, 3) := by decide +kernel
theorem dX10_act_13 : decode cX10_act 13 = .ok (.iload_n 1, 1) := by decide +kernel
theorem dX10_act_14 : decode cX10_act 14 = .ok (.invokevirtual 92, 3) := by decide +kernel
theorem dX10_act_17 : decode cX10_act 17 = .ok (.tableswitch 140 1 6 #[39, 50, 60, 80, 70, 110], 39) := by decide +kernel
theorem dX10_act_56 : decode cX10_act 56 = .ok (.aload_n 0, 1) := by decide +kernel
theorem dX10_act_57 : decode cX10_act 57 = .ok (.getfield 35, 3) := by decide +kernel
theorem dX10_act_60 : decode cX10_act 60 = .ok (.iload_n 2, 1) := by decide +kernel
theorem dX10_act_61 : decode cX10_act 61 = .ok (.invokevirtual 211, 3) := by decide +kernel
theorem dX10_act_64 : decode cX10_act 64 = .ok (.goto 93, 3) := by decide +kernel
theorem dX10_act_67 : decode cX10_act 67 = .ok (.aload_n 0, 1) := by decide +kernel
theorem dX10_act_68 : decode cX10_act 68 = .ok (.getfield 35, 3) := by decide +kernel
theorem dX10_act_71 : decode cX10_act 71 = .ok (.invokevirtual 214, 3) := by decide +kernel
theorem dX10_act_74 : decode cX10_act 74 = .ok (.goto 83, 3) := by decide +kernel
theorem dX10_act_77 : decode cX10_act 77 = .ok (.aload_n 0, 1) := by decide +kernel
theorem dX10_act_78 : decode cX10_act 78 = .ok (.getfield 35, 3) := by decide +kernel
theorem dX10_act_81 : decode cX10_act 81 = .ok (.invokevirtual 217, 3) := by decide +kernel
theorem dX10_act_84 : decode cX10_act 84 = .ok (.goto 73, 3) := by decide +kernel
theorem dX10_act_87 : decode cX10_act 87 = .ok (.aload_n 0, 1) := by decide +kernel
theorem dX10_act_88 : decode cX10_act 88 = .ok (.getfield 35, 3) := by decide +kernel
theorem dX10_act_91 : decode cX10_act 91 = .ok (.invokevirtual 220, 3) := by decide +kernel
theorem dX10_act_94 : decode cX10_act 94 = .ok (.goto 63, 3) := by decide +kernel
theorem dX10_act_97 : decode cX10_act 97 = .ok (.aload_n 0, 1) := by decide +kernel
theorem dX10_act_98 : decode cX10_act 98 = .ok (.getfield 58, 3) := by decide +kernel
theorem dX10_act_101 : decode cX10_act 101 = .ok (.invokevirtual 163, 3) := by decide +kernel
theorem dX10_act_104 : decode cX10_act 104 = .ok (.aload_n 0, 1) := by decide +kernel
theorem dX10_act_105 : decode cX10_act 105 = .ok (.getfield 35, 3) := by decide +kernel
theorem dX10_act_108 : decode cX10_act 108 = .ok (.aload_n 0, 1) := by decide +kernel
theorem dX10_act_109 : decode cX10_act 109 = .ok (.getfield 49, 3) := by decide +kernel
theorem dX10_act_112 : decode cX10_act 112 = .ok (.aload_n 0, 1) := by decide +kernel
theorem dX10_act_113 : decode cX10_act 113 = .ok (.getfield 58, 3) := by decide +kernel
theorem dX10_act_116 : decode cX10_act 116 = .ok (.iload_n 2, 1) := by decide +kernel
theorem dX10_act_117 : decode cX10_act 117 = .ok (.invokevirtual 166, 3) := by decide +kernel
theorem dX10_act_120 : decode cX10_act 120 = .ok (.iconst 1, 1) := by decide +kernel
theorem dX10_act_121 : decode cX10_act 121 = .ok (.invokevirtual 223, 3) := by decide +kernel
theorem dX10_act_124 : decode cX10_act 124 = .ok (.goto 33, 3) := by decide +kernel
theorem dX10_act_127 : decode cX10_act 127 = .ok (.aload_n 0, 1) := by decide +kernel
theorem dX10_act_128 : decode cX10_act 128 = .ok (.getfield 58, 3) := by decide +kernel
theorem dX10_act_131 : decode cX10_act 131 = .ok (.invokevirtual 169, 3) := by decide +kernel
theorem dX10_act_134 : decode cX10_act 134 = .ok (.aload_n 0, 1) := by decide +kernel
theorem dX10_act_135 : decode cX10_act 135 = .ok (.getfield 35, 3) := by decide +kernel
theorem dX10_act_138 : decode cX10_act 138 = .ok (.aload_n 0, 1) := by decide +kernel
theorem dX10_act_139 : decode cX10_act 139 = .ok (.getfield 49, 3) := by decide +kernel
theorem dX10_act_142 : decode cX10_act 142 = .ok (.aload_n 0, 1) := by decide +kernel
theorem dX10_act_143 : decode cX10_act 143 = .ok (.getfield 58, 3) := by decide +kernel
theorem dX10_act_146 : decode cX10_act 146 = .ok (.iload_n 2, 1) := by decide +kernel
theorem dX10_act_147 : decode cX10_act 147 = .ok (.invokevirtual 166, 3) := by decide +kernel
theorem dX10_act_150 : decode cX10_act 150 = .ok (.iconst 0, 1) := by decide +kernel
theorem dX10_act_151 : decode cX10_act 151 = .ok (.invokevirtual 223, 3) := by decide +kernel
theorem dX10_act_154 : decode cX10_act 154 = .ok (.goto 3, 3) := by decide +kernel
theorem dX10_act_157 : decode cX10_act 157 = .ok (.return_, 1) := by decide +kernel
theorem dX10_isLetter_0 : decode cX10_isLetter 0 = .ok (.iload_n 0, 1) := by decide +kernel
theorem dX10_isLetter_1 : decode cX10_isLetter 1 = .ok (.bipush 97, 2) := by decide +kernel
theorem dX10_isLetter_3 : decode cX10_isLetter 3 = .ok (.if_icmp .lt 13, 3) := by decide +kernel
theorem dX10_isLetter_6 : decode cX10_isLetter 6 = .ok (.iload_n 0, 1) := by decide +kernel
theorem dX10_isLetter_7 : decode cX10_isLetter 7 = .ok (.bipush 123, 2) := by decide +kernel
theorem dX10_isLetter_9 : decode cX10_isLetter 9 = .ok (.if_icmp .ge 7, 3) := by decide +kernel
theorem dX10_isLetter_12 : decode cX10_isLetter 12 = .ok (.iconst 1, 1) := by decide +kernel
theorem dX10_isLetter_13 : decode cX10_isLetter 13 = .ok (.goto 4, 3) := by decide +kernel
theorem dX10_isLetter_16 : decode cX10_isLetter 16 = .ok (.iconst 0, 1) := by decide +kernel
theorem dX10_isLetter_17 : decode cX10_isLetter 17 = .ok (.ireturn, 1) := by decide +kernel
theorem dX10_within_0 : decode cX10_within 0 = .ok (.iload_n 0, 1) := by decide +kernel
theorem dX10_within_1 : decode cX10_within 1 = .ok (.iload_n 1, 1) := by decide +kernel
theorem dX10_within_2 : decode cX10_within 2 = .ok (.if_icmp .lt 12, 3) := by decide +kernel
theorem dX10_within_5 : decode cX10_within 5 = .ok (.iload_n 0, 1) := by decide +kernel
theorem dX10_within_6 : decode cX10_within 6 = .ok (.iload_n 2, 1) := by decide +kernel
theorem dX10_within_7 : decode cX10_within 7 = .ok (.if_icmp .gt 7, 3) := by decide +kernel
theorem dX10_within_10 : decode cX10_within 10 = .ok (.iconst 1, 1) := by decide +kernel
theorem dX10_within_11 : decode cX10_within 11 = .ok (.goto 4, 3) := by decide +kernel
theorem dX10_within_14 : decode cX10_within 14 = .ok (.iconst 0, 1) := by decide +kernel
theorem dX10_within_15 : decode cX10_within 15 = .ok (.ireturn, 1) := by decide +kernel
