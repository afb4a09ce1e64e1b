theorem dX11_isRow_43 : decode cX11_isRow 43 = .ok (.iconst 0, 1) := by decide +kernel
theorem dX11_isRow_44 : decode cX11_isRow 44 = .ok (.istore_n 1, 1) := by decide +kernel
theorem dX11_isRow_45 : decode cX11_isRow 45 = .ok (.iinc 2 1, 3) := by decide +kernel
theorem dX11_isRow_48 : decode cX11_isRow 48 = .ok (.goto (-33), 3) := by decide +kernel
theorem dX11_isRow_51 : decode cX11_isRow 51 = .ok (.iload_n 1, 1) := by decide +kernel
theorem dX11_isRow_52 : decode cX11_isRow 52 = .ok (.ireturn, 1) := by decide +kernel
theorem dX11_word_0 : decode cX11_word 0 = .ok (.aload_n 0, 1) := by decide +kernel
theorem dX11_word_1 : decode cX11_word 1 = .ok (.iconst 0, 1) := by decide +kernel
theorem dX11_word_2 : decode cX11_word 2 = .ok (.putfield 98, 3) := by decide +kernel
theorem dX11_word_5 : decode cX11_word 5 = .ok (.aload_n 0, 1) := by decide +kernel
theorem dX11_word_6 : decode cX11_word 6 = .ok (.invokevirtual 187, 3) := by decide +kernel
theorem dX11_word_9 : decode cX11_word 9 = .ok (.ifCond .eq 23, 3) := by decide +kernel
theorem dX11_word_12 : decode cX11_word 12 = .ok (.aload_n 0, 1) := by decide +kernel
theorem dX11_word_13 : decode cX11_word 13 = .ok (.getfield 181, 3) := by decide +kernel
theorem dX11_word_16 : decode cX11_word 16 = .ok (.bipush 12, 2) := by decide +kernel
theorem dX11_word_18 : decode cX11_word 18 = .ok (.if_icmp .gt 14, 3) := by decide +kernel
theorem dX11_word_21 : decode cX11_word 21 = .ok (.iload_n 1, 1) := by decide +kernel
theorem dX11_word_22 : decode cX11_word 22 = .ok (.iconst 0, 1) := by decide +kernel
theorem dX11_word_23 : decode cX11_word 23 = .ok (.sipush 10000, 3) := by decide +kernel
theorem dX11_word_26 : decode cX11_word 26 = .ok (.invokestatic 120, 3) := by decide +kernel
theorem dX11_word_29 : decode cX11_word 29 = .ok (.ifCond .ne 5, 3) := by decide +kernel
theorem dX11_word_32 : decode cX11_word 32 = .ok (.iconst (-1), 1) := by decide +kernel
theorem dX11_word_33 : decode cX11_word 33 = .ok (.ireturn, 1) := by decide +kernel
theorem dX11_word_34 : decode cX11_word 34 = .ok (.iconst 0, 1) := by decide +kernel
theorem dX11_word_35 : decode cX11_word 35 = .ok (.istore_n 2, 1) := by decide +kernel
theorem dX11_word_36 : decode cX11_word 36 = .ok (.iload_n 2, 1) := by decide +kernel
theorem dX11_word_37 : decode cX11_word 37 = .ok (.aload_n 0, 1) := by decide +kernel
theorem dX11_word_38 : decode cX11_word 38 = .ok (.getfield 191, 3) := by decide +kernel
theorem dX11_word_41 : decode cX11_word 41 = .ok (.if_icmp .ge 17, 3) := by decide +kernel
theorem dX11_word_44 : decode cX11_word 44 = .ok (.aload_n 0, 1) := by decide +kernel
theorem dX11_word_45 : decode cX11_word 45 = .ok (.iload_n 2, 1) := by decide +kernel
theorem dX11_word_46 : decode cX11_word 46 = .ok (.invokevirtual 194, 3) := by decide +kernel
theorem dX11_word_49 : decode cX11_word 49 = .ok (.ifCond .ne 9, 3) := by decide +kernel
theorem dX11_word_52 : decode cX11_word 52 = .ok (.iinc 2 1, 3) := by decide +kernel
theorem dX11_word_55 : decode cX11_word 55 = .ok (.goto (-19), 3) := by decide +kernel
theorem dX11_word_58 : decode cX11_word 58 = .ok (.iload_n 2, 1) := by decide +kernel
theorem dX11_word_59 : decode cX11_word 59 = .ok (.bipush 40, 2) := by decide +kernel
theorem dX11_word_61 : decode cX11_word 61 = .ok (.if_icmp .ne 5, 3) := by decide +kernel
theorem dX11_word_64 : decode cX11_word 64 = .ok (.iconst (-1), 1) := by decide +kernel
theorem dX11_word_65 : decode cX11_word 65 = .ok (.ireturn, 1) := by decide +kernel
theorem dX11_word_66 : decode cX11_word 66 = .ok (.iload_n 2, 1) := by decide +kernel
theorem dX11_word_67 : decode cX11_word 67 = .ok (.aload_n 0, 1) := by decide +kernel
theorem dX11_word_68 : decode cX11_word 68 = .ok (.getfield 191, 3) := by decide +kernel
theorem dX11_word_71 : decode cX11_word 71 = .ok (.if_icmp .ne 56, 3) := by decide +kernel
theorem dX11_word_74 : decode cX11_word 74 = .ok (.iconst 0, 1) := by decide +kernel
theorem dX11_word_75 : decode cX11_word 75 = .ok (.istore_n 3, 1) := by decide +kernel
theorem dX11_word_76 : decode cX11_word 76 = .ok (.iload_n 3, 1) := by decide +kernel
theorem dX11_word_77 : decode cX11_word 77 = .ok (.aload_n 0, 1) := by decide +kernel
theorem dX11_word_78 : decode cX11_word 78 = .ok (.getfield 181, 3) := by decide +kernel
theorem dX11_word_81 : decode cX11_word 81 = .ok (.if_icmp .ge 26, 3) := by decide +kernel
theorem dX11_word_84 : decode cX11_word 84 = .ok (.aload_n 0, 1) := by decide +kernel
theorem dX11_word_85 : decode cX11_word 85 = .ok (.getfield 70, 3) := by decide +kernel
theorem dX11_word_88 : decode cX11_word 88 = .ok (.bipush 12, 2) := by decide +kernel
theorem dX11_word_90 : decode cX11_word 90 = .ok (.iload_n 2, 1) := by decide +kernel
theorem dX11_word_91 : decode cX11_word 91 = .ok (.imul, 1) := by decide +kernel
theorem dX11_word_92 : decode cX11_word 92 = .ok (.iload_n 3, 1) := by decide +kernel
theorem dX11_word_93 : decode cX11_word 93 = .ok (.iadd, 1) := by decide +kernel
theorem dX11_word_94 : decode cX11_word 94 = .ok (.aload_n 0, 1) := by decide +kernel
theorem dX11_word_95 : decode cX11_word 95 = .ok (.getfield 67, 3) := by decide +kernel
theorem dX11_word_98 : decode cX11_word 98 = .ok (.iload_n 3, 1) := by decide +kernel
theorem dX11_word_99 : decode cX11_word 99 = .ok (.baload, 1) := by decide +kernel
theorem dX11_word_100 : decode cX11_word 100 = .ok (.bastore, 1) := by decide +kernel
theorem dX11_word_101 : decode cX11_word 101 = .ok (.iinc 3 1, 3) := by decide +kernel
theorem dX11_word_104 : decode cX11_word 104 = .ok (.goto (-28), 3) := by decide +kernel
theorem dX11_word_107 : decode cX11_word 107 = .ok (.aload_n 0, 1) := by decide +kernel
theorem dX11_word_108 : decode cX11_word 108 = .ok (.getfield 73, 3) := by decide +kernel
theorem dX11_word_111 : decode cX11_word 111 = .ok (.iload_n 2, 1) := by decide +kernel
theorem dX11_word_112 : decode cX11_word 112 = .ok (.aload_n 0, 1) := by decide +kernel
theorem dX11_word_113 : decode cX11_word 113 = .ok (.getfield 181, 3) := by decide +kernel
theorem dX11_word_116 : decode cX11_word 116 = .ok (.iastore, 1) := by decide +kernel
theorem dX11_word_117 : decode cX11_word 117 = .ok (.aload_n 0, 1) := by decide +kernel
theorem dX11_word_118 : decode cX11_word 118 = .ok (.dup, 1) := by decide +kernel
theorem dX11_word_119 : decode cX11_word 119 = .ok (.getfield 191, 3) := by decide +kernel
theorem dX11_word_122 : decode cX11_word 122 = .ok (.iconst 1, 1) := by decide +kernel
theorem dX11_word_123 : decode cX11_word 123 = .ok (.iadd, 1) := by decide +kernel
theorem dX11_word_124 : decode cX11_word 124 = .ok (.putfield 191, 3) := by decide +kernel
theorem dX11_word_127 : decode cX11_word 127 = .ok (.aload_n 0, 1) := by decide +kernel
theorem dX11_word_128 : decode cX11_word 128 = .ok (.getfield 76, 3) := by decide +kernel
theorem dX11_word_131 : decode cX11_word 131 = .ok (.iload_n 2, 1) := by decide +kernel
theorem dX11_word_132 : decode cX11_word 132 = .ok (.iload_n 1, 1) := by decide +kernel
theorem dX11_word_133 : decode cX11_word 133 = .ok (.iastore, 1) := by decide +kernel
theorem dX11_word_134 : decode cX11_word 134 = .ok (.aload_n 0, 1) := by decide +kernel
theorem dX11_word_135 : decode cX11_word 135 = .ok (.iconst 0, 1) := by decide +kernel
theorem dX11_word_136 : decode cX11_word 136 = .ok (.putfield 181, 3) := by decide +kernel
theorem dX11_word_139 : decode cX11_word 139 = .ok (.iload_n 2, 1) := by decide +kernel
theorem dX11_word_140 : decode cX11_word 140 = .ok (.ireturn, 1) := by decide +kernel
theorem dX11_isWord_0 : decode cX11_isWord 0 = .ok (.aload_n 0, 1) := by decide +kernel
theorem dX11_isWord_1 : decode cX11_isWord 1 = .ok (.getfield 73, 3) := by decide +kernel
theorem dX11_isWord_4 : decode cX11_isWord 4 = .ok (.iload_n 1, 1) := by decide +kernel
theorem dX11_isWord_5 : decode cX11_isWord 5 = .ok (.iaload, 1) := by decide +kernel
theorem dX11_isWord_6 : decode cX11_isWord 6 = .ok (.aload_n 0, 1) := by decide +kernel
theorem dX11_isWord_7 : decode cX11_isWord 7 = .ok (.getfield 181, 3) := by decide +kernel
theorem dX11_isWord_10 : decode cX11_isWord 10 = .ok (.if_icmp .ne 7, 3) := by decide +kernel
theorem dX11_isWord_13 : decode cX11_isWord 13 = .ok (.iconst 1, 1) := by decide +kernel
theorem dX11_isWord_14 : decode cX11_isWord 14 = .ok (.goto 4, 3) := by decide +kernel
theorem dX11_isWord_17 : decode cX11_isWord 17 = .ok (.iconst 0, 1) := by decide +kernel
theorem dX11_isWord_18 : decode cX11_isWord 18 = .ok (.istore_n 2, 1) := by decide +kernel
theorem dX11_isWord_19 : decode cX11_isWord 19 = .ok (.iconst 0, 1) := by decide +kernel
theorem dX11_isWord_20 : decode cX11_isWord 20 = .ok (.istore_n 3, 1) := by decide +kernel
theorem dX11_isWord_21 : decode cX11_isWord 21 = .ok (.iload_n 3, 1) := by decide +kernel
theorem dX11_isWord_22 : decode cX11_isWord 22 = .ok (.aload_n 0, 1) := by decide +kernel
theorem dX11_isWord_23 : decode cX11_isWord 23 = .ok (.getfield 181, 3) := by decide +kernel
theorem dX11_isWord_26 : decode cX11_isWord 26 = .ok (.if_icmp .ge 39, 3) := by decide +kernel
theorem dX11_isWord_29 : decode cX11_isWord 29 = .ok (.iload_n 2, 1) := by decide +kernel
theorem dX11_isWord_30 : decode cX11_isWord 30 = .ok (.ifCond .eq 35, 3) := by decide +kernel
theorem dX11_isWord_33 : decode cX11_isWord 33 = .ok (.aload_n 0, 1) := by decide +kernel
theorem dX11_isWord_34 : decode cX11_isWord 34 = .ok (.getfield 70, 3) := by decide +kernel
theorem dX11_isWord_37 : decode cX11_isWord 37 = .ok (.bipush 12, 2) := by decide +kernel
theorem dX11_isWord_39 : decode cX11_isWord 39 = .ok (.iload_n 1, 1) := by decide +kernel
theorem dX11_isWord_40 : decode cX11_isWord 40 = .ok (.imul, 1) := by decide +kernel
theorem dX11_isWord_41 : decode cX11_isWord 41 = .ok (.iload_n 3, 1) := by decide +kernel
theorem dX11_isWord_42 : decode cX11_isWord 42 = .ok (.iadd, 1) := by decide +kernel
theorem dX11_isWord_43 : decode cX11_isWord 43 = .ok (.baload, 1) := by decide +kernel
theorem dX11_isWord_44 : decode cX11_isWord 44 = .ok (.aload_n 0, 1) := by decide +kernel
theorem dX11_isWord_45 : decode cX11_isWord 45 = .ok (.getfield 67, 3) := by decide +kernel
theorem dX11_isWord_48 : decode cX11_isWord 48 = .ok (.iload_n 3, 1) := by decide +kernel
theorem dX11_isWord_49 : decode cX11_isWord 49 = .ok (.baload, 1) := by decide +kernel
theorem dX11_isWord_50 : decode cX11_isWord 50 = .ok (.if_icmp .ne 7, 3) := by decide +kernel
theorem dX11_isWord_53 : decode cX11_isWord 53 = .ok (.iconst 1, 1) := by decide +kernel
theorem dX11_isWord_54 : decode cX11_isWord 54 = .ok (.goto 4, 3) := by decide +kernel
theorem dX11_isWord_57 : decode cX11_isWord 57 = .ok (.iconst 0, 1) := by decide +kernel
theorem dX11_isWord_58 : decode cX11_isWord 58 = .ok (.istore_n 2, 1) := by decide +kernel
theorem dX11_isWord_59 : decode cX11_isWord 59 = .ok (.iinc 3 1, 3) := by decide +kernel
theorem dX11_isWord_62 : decode cX11_isWord 62 = .ok (.goto (-41), 3) := by decide +kernel
theorem dX11_isWord_65 : decode cX11_isWord 65 = .ok (.iload_n 2, 1) := by decide +kernel
theorem dX11_isWord_66 : decode cX11_isWord 66 = .ok (.ireturn, 1) := by decide +kernel
theorem dX11_letter_0 : decode cX11_letter 0 = .ok (.aload_n 0, 1) := by decide +kernel
theorem dX11_letter_1 : decode cX11_letter 1 = .ok (.iload_n 1, 1) := by decide +kernel
theorem dX11_letter_2 : decode cX11_letter 2 = .ok (.iconst 0, 1) := by decide +kernel
theorem dX11_letter_3 : decode cX11_letter 3 = .ok (.aload_n 0, 1) := by decide +kernel
theorem dX11_letter_4 : decode cX11_letter 4 = .ok (.getfield 191, 3) := by decide +kernel
theorem dX11_letter_7 : decode cX11_letter 7 = .ok (.iconst 1, 1) := by decide +kernel
theorem dX11_letter_8 : decode cX11_letter 8 = .ok (.isub, 1) := by decide +kernel
theorem dX11_letter_9 : decode cX11_letter 9 = .ok (.invokestatic 120, 3) := by decide +kernel
theorem dX11_letter_12 : decode cX11_letter 12 = .ok (.ifCond .eq 17, 3) := by decide +kernel
theorem dX11_letter_15 : decode cX11_letter 15 = .ok (.iload_n 2, 1) := by decide +kernel
theorem dX11_letter_16 : decode cX11_letter 16 = .ok (.ifCond .lt 13, 3) := by decide +kernel
theorem dX11_letter_19 : decode cX11_letter 19 = .ok (.iload_n 2, 1) := by decide +kernel
theorem dX11_letter_20 : decode cX11_letter 20 = .ok (.aload_n 0, 1) := by decide +kernel
theorem dX11_letter_21 : decode cX11_letter 21 = .ok (.getfield 73, 3) := by decide +kernel
theorem dX11_letter_24 : decode cX11_letter 24 = .ok (.iload_n 1, 1) := by decide +kernel
theorem dX11_letter_25 : decode cX11_letter 25 = .ok (.iaload, 1) := by decide +kernel
theorem dX11_letter_26 : decode cX11_letter 26 = .ok (.if_icmp .lt 7, 3) := by decide +kernel
theorem dX11_letter_29 : decode cX11_letter 29 = .ok (.iconst 1, 1) := by decide +kernel
theorem dX11_letter_30 : decode cX11_letter 30 = .ok (.goto 4, 3) := by decide +kernel
theorem dX11_letter_33 : decode cX11_letter 33 = .ok (.iconst 0, 1) := by decide +kernel
theorem dX11_letter_34 : decode cX11_letter 34 = .ok (.putfield 98, 3) := by decide +kernel
theorem dX11_letter_37 : decode cX11_letter 37 = .ok (.aload_n 0, 1) := by decide +kernel
theorem dX11_letter_38 : decode cX11_letter 38 = .ok (.getfield 98, 3) := by decide +kernel
theorem dX11_letter_41 : decode cX11_letter 41 = .ok (.ifCond .le 7, 3) := by decide +kernel
theorem dX11_letter_44 : decode cX11_letter 44 = .ok (.iconst 0, 1) := by decide +kernel
theorem dX11_letter_45 : decode cX11_letter 45 = .ok (.goto 14, 3) := by decide +kernel
theorem dX11_letter_48 : decode cX11_letter 48 = .ok (.aload_n 0, 1) := by decide +kernel
theorem dX11_letter_49 : decode cX11_letter 49 = .ok (.getfield 70, 3) := by decide +kernel
theorem dX11_letter_52 : decode cX11_letter 52 = .ok (.bipush 12, 2) := by decide +kernel
theorem dX11_letter_54 : decode cX11_letter 54 = .ok (.iload_n 1, 1) := by decide +kernel
theorem dX11_letter_55 : decode cX11_letter 55 = .ok (.imul, 1) := by decide +kernel
theorem dX11_letter_56 : decode cX11_letter 56 = .ok (.iload_n 2, 1) := by decide +kernel
theorem dX11_letter_57 : decode cX11_letter 57 = .ok (.iadd, 1) := by decide +kernel
theorem dX11_letter_58 : decode cX11_letter 58 = .ok (.baload, 1) := by decide +kernel
theorem dX11_letter_59 : decode cX11_letter 59 = .ok (.ireturn, 1) := by decide +kernel
theorem dX11_written_0 : decode cX11_written 0 = .ok (.iconst 0, 1) := by decide +kernel
theorem dX11_written_1 : decode cX11_written 1 = .ok (.istore_n 1, 1) := by decide +kernel
theorem dX11_written_2 : decode cX11_written 2 = .ok (.iload_n 1, 1) := by decide +kernel
theorem dX11_written_3 : decode cX11_written 3 = .ok (.aload_n 0, 1) := by decide +kernel
theorem dX11_written_4 : decode cX11_written 4 = .ok (.getfield 159, 3) := by decide +kernel
theorem dX11_written_7 : decode cX11_written 7 = .ok (.if_icmp .ge 28, 3) := by decide +kernel
theorem dX11_written_10 : decode cX11_written 10 = .ok (.aload_n 0, 1) := by decide +kernel
theorem dX11_written_11 : decode cX11_written 11 = .ok (.getfield 45, 3) := by decide +kernel
theorem dX11_written_14 : decode cX11_written 14 = .ok (.aload_n 0, 1) := by decide +kernel
theorem dX11_written_15 : decode cX11_written 15 = .ok (.getfield 159, 3) := by decide +kernel
theorem dX11_written_18 : decode cX11_written 18 = .ok (.iconst 1, 1) := by decide +kernel
theorem dX11_written_19 : decode cX11_written 19 = .ok (.isub, 1) := by decide +kernel
theorem dX11_written_20 : decode cX11_written 20 = .ok (.iload_n 1, 1) := by decide +kernel
theorem dX11_written_21 : decode cX11_written 21 = .ok (.isub, 1) := by decide +kernel
theorem dX11_written_22 : decode cX11_written 22 = .ok (.baload, 1) := by decide +kernel
theorem dX11_written_23 : decode cX11_written 23 = .ok (.invokestatic 124, 3) := by decide +kernel
theorem dX11_written_26 : decode cX11_written 26 = .ok (.ifCond .eq 9, 3) := by decide +kernel
theorem dX11_written_29 : decode cX11_written 29 = .ok (.iinc 1 1, 3) := by decide +kernel
theorem dX11_written_32 : decode cX11_written 32 = .ok (.goto (-30), 3) := by decide +kernel
theorem dX11_written_35 : decode cX11_written 35 = .ok (.iload_n 1, 1) := by decide +kernel
theorem dX11_written_36 : decode cX11_written 36 = .ok (.ireturn, 1) := by decide +kernel
theorem dX11_ranked_0 : decode cX11_ranked 0 = .ok (.iconst 0, 1) := by decide +kernel
theorem dX11_ranked_1 : decode cX11_ranked 1 = .ok (.istore_n 2, 1) := by decide +kernel
theorem dX11_ranked_2 : decode cX11_ranked 2 = .ok (.iload_n 2, 1) := by decide +kernel
theorem dX11_ranked_3 : decode cX11_ranked 3 = .ok (.aload_n 0, 1) := by decide +kernel
theorem dX11_ranked_4 : decode cX11_ranked 4 = .ok (.getfield 191, 3) := by decide +kernel
theorem dX11_ranked_7 : decode cX11_ranked 7 = .ok (.if_icmp .ge 140, 3) := by decide +kernel
theorem dX11_ranked_10 : decode cX11_ranked 10 = .ok (.aload_n 0, 1) := by decide +kernel
theorem dX11_ranked_11 : decode cX11_ranked 11 = .ok (.getfield 79, 3) := by decide +kernel
theorem dX11_ranked_14 : decode cX11_ranked 14 = .ok (.iload_n 2, 1) := by decide +kernel
theorem dX11_ranked_15 : decode cX11_ranked 15 = .ok (.iaload, 1) := by decide +kernel
theorem dX11_ranked_16 : decode cX11_ranked 16 = .ok (.ifCond .ge 6, 3) := by decide +kernel
theorem dX11_ranked_19 : decode cX11_ranked 19 = .ok (.goto 122, 3) := by decide +kernel
theorem dX11_ranked_22 : decode cX11_ranked 22 = .ok (.iconst 0, 1) := by decide +kernel
theorem dX11_ranked_23 : decode cX11_ranked 23 = .ok (.istore_n 3, 1) := by decide +kernel
theorem dX11_ranked_24 : decode cX11_ranked 24 = .ok (.iconst 0, 1) := by decide +kernel
theorem dX11_ranked_25 : decode cX11_ranked 25 = .ok (.istore 4, 2) := by decide +kernel
theorem dX11_ranked_27 : decode cX11_ranked 27 = .ok (.iload 4, 2) := by decide +kernel
theorem dX11_ranked_29 : decode cX11_ranked 29 = .ok (.aload_n 0, 1) := by decide +kernel
theorem dX11_ranked_30 : decode cX11_ranked 30 = .ok (.getfield 191, 3) := by decide +kernel
theorem dX11_ranked_33 : decode cX11_ranked 33 = .ok (.if_icmp .ge 101, 3) := by decide +kernel
theorem dX11_ranked_36 : decode cX11_ranked 36 = .ok (.aload_n 0, 1) := by decide +kernel
theorem dX11_ranked_37 : decode cX11_ranked 37 = .ok (.getfield 79, 3) := by decide +kernel
theorem dX11_ranked_40 : decode cX11_ranked 40 = .ok (.iload 4, 2) := by decide +kernel
theorem dX11_ranked_42 : decode cX11_ranked 42 = .ok (.iaload, 1) := by decide +kernel
theorem dX11_ranked_43 : decode cX11_ranked 43 = .ok (.ifCond .lt 85, 3) := by decide +kernel
theorem dX11_ranked_46 : decode cX11_ranked 46 = .ok (.iload 4, 2) := by decide +kernel
theorem dX11_ranked_48 : decode cX11_ranked 48 = .ok (.iload_n 2, 1) := by decide +kernel
theorem dX11_ranked_49 : decode cX11_ranked 49 = .ok (.if_icmp .ne 6, 3) := by decide +kernel
theorem dX11_ranked_52 : decode cX11_ranked 52 = .ok (.goto 76, 3) := by decide +kernel
theorem dX11_ranked_55 : decode cX11_ranked 55 = .ok (.aload_n 0, 1) := by decide +kernel
theorem dX11_ranked_56 : decode cX11_ranked 56 = .ok (.getfield 79, 3) := by decide +kernel
theorem dX11_ranked_59 : decode cX11_ranked 59 = .ok (.iload 4, 2) := by decide +kernel
theorem dX11_ranked_61 : decode cX11_ranked 61 = .ok (.iaload, 1) := by decide +kernel
theorem dX11_ranked_62 : decode cX11_ranked 62 = .ok (.aload_n 0, 1) := by decide +kernel
theorem dX11_ranked_63 : decode cX11_ranked 63 = .ok (.getfield 79, 3) := by decide +kernel
theorem dX11_ranked_66 : decode cX11_ranked 66 = .ok (.iload_n 2, 1) := by decide +kernel
theorem dX11_ranked_67 : decode cX11_ranked 67 = .ok (.iaload, 1) := by decide +kernel
theorem dX11_ranked_68 : decode cX11_ranked 68 = .ok (.if_icmp .lt 57, 3) := by decide +kernel
theorem dX11_ranked_71 : decode cX11_ranked 71 = .ok (.aload_n 0, 1) := by decide +kernel
theorem dX11_ranked_72 : decode cX11_ranked 72 = .ok (.getfield 79, 3) := by decide +kernel
theorem dX11_ranked_75 : decode cX11_ranked 75 = .ok (.iload 4, 2) := by decide +kernel
theorem dX11_ranked_77 : decode cX11_ranked 77 = .ok (.iaload, 1) := by decide +kernel
theorem dX11_ranked_78 : decode cX11_ranked 78 = .ok (.aload_n 0, 1) := by decide +kernel
theorem dX11_ranked_79 : decode cX11_ranked 79 = .ok (.getfield 79, 3) := by decide +kernel
theorem dX11_ranked_82 : decode cX11_ranked 82 = .ok (.iload_n 2, 1) := by decide +kernel
theorem dX11_ranked_83 : decode cX11_ranked 83 = .ok (.iaload, 1) := by decide +kernel
theorem dX11_ranked_84 : decode cX11_ranked 84 = .ok (.if_icmp .ne 44, 3) := by decide +kernel
theorem dX11_ranked_87 : decode cX11_ranked 87 = .ok (.aload_n 0, 1) := by decide +kernel
theorem dX11_ranked_88 : decode cX11_ranked 88 = .ok (.getfield 76, 3) := by decide +kernel
theorem dX11_ranked_91 : decode cX11_ranked 91 = .ok (.iload 4, 2) := by decide +kernel
theorem dX11_ranked_93 : decode cX11_ranked 93 = .ok (.iaload, 1) := by decide +kernel
theorem dX11_ranked_94 : decode cX11_ranked 94 = .ok (.aload_n 0, 1) := by decide +kernel
theorem dX11_ranked_95 : decode cX11_ranked 95 = .ok (.getfield 76, 3) := by decide +kernel
theorem dX11_ranked_98 : decode cX11_ranked 98 = .ok (.iload_n 2, 1) := by decide +kernel
theorem dX11_ranked_99 : decode cX11_ranked 99 = .ok (.iaload, 1) := by decide +kernel
theorem dX11_ranked_100 : decode cX11_ranked 100 = .ok (.if_icmp .gt 25, 3) := by decide +kernel
theorem dX11_ranked_103 : decode cX11_ranked 103 = .ok (.aload_n 0, 1) := by decide +kernel
theorem dX11_ranked_104 : decode cX11_ranked 104 = .ok (.getfield 76, 3) := by decide +kernel
theorem dX11_ranked_107 : decode cX11_ranked 107 = .ok (.iload 4, 2) := by decide +kernel
theorem dX11_ranked_109 : decode cX11_ranked 109 = .ok (.iaload, 1) := by decide +kernel
theorem dX11_ranked_110 : decode cX11_ranked 110 = .ok (.aload_n 0, 1) := by decide +kernel
theorem dX11_ranked_111 : decode cX11_ranked 111 = .ok (.getfield 76, 3) := by decide +kernel
theorem dX11_ranked_114 : decode cX11_ranked 114 = .ok (.iload_n 2, 1) := by decide +kernel
theorem dX11_ranked_115 : decode cX11_ranked 115 = .ok (.iaload, 1) := by decide +kernel
theorem dX11_ranked_116 : decode cX11_ranked 116 = .ok (.if_icmp .ne 12, 3) := by decide +kernel
theorem dX11_ranked_119 : decode cX11_ranked 119 = .ok (.iload 4, 2) := by decide +kernel
theorem dX11_ranked_121 : decode cX11_ranked 121 = .ok (.iload_n 2, 1) := by decide +kernel
theorem dX11_ranked_122 : decode cX11_ranked 122 = .ok (.if_icmp .ge 6, 3) := by decide +kernel
theorem dX11_ranked_125 : decode cX11_ranked 125 = .ok (.iinc 3 1, 3) := by decide +kernel
theorem dX11_ranked_128 : decode cX11_ranked 128 = .ok (.iinc 4 1, 3) := by decide +kernel
theorem dX11_ranked_131 : decode cX11_ranked 131 = .ok (.goto (-104), 3) := by decide +kernel
theorem dX11_ranked_134 : decode cX11_ranked 134 = .ok (.iload_n 3, 1) := by decide +kernel
theorem dX11_ranked_135 : decode cX11_ranked 135 = .ok (.iload_n 1, 1) := by decide +kernel
theorem dX11_ranked_136 : decode cX11_ranked 136 = .ok (.if_icmp .ne 5, 3) := by decide +kernel
theorem dX11_ranked_139 : decode cX11_ranked 139 = .ok (.iload_n 2, 1) := by decide +kernel
theorem dX11_ranked_140 : decode cX11_ranked 140 = .ok (.ireturn, 1) := by decide +kernel
theorem dX11_ranked_141 : decode cX11_ranked 141 = .ok (.iinc 2 1, 3) := by decide +kernel
theorem dX11_ranked_144 : decode cX11_ranked 144 = .ok (.goto (-142), 3) := by decide +kernel
theorem dX11_ranked_147 : decode cX11_ranked 147 = .ok (.iconst (-1), 1) := by decide +kernel
theorem dX11_ranked_148 : decode cX11_ranked 148 = .ok (.ireturn, 1) := by decide +kernel
theorem dX11_foreseenAt_0 : decode cX11_foreseenAt 0 = .ok (.aload_n 0, 1) := by decide +kernel
theorem dX11_foreseenAt_1 : decode cX11_foreseenAt 1 = .ok (.invokevirtual 174, 3) := by decide +kernel
theorem dX11_foreseenAt_4 : decode cX11_foreseenAt 4 = .ok (.istore_n 2, 1) := by decide +kernel
theorem dX11_foreseenAt_5 : decode cX11_foreseenAt 5 = .ok (.iconst 0, 1) := by decide +kernel
theorem dX11_foreseenAt_6 : decode cX11_foreseenAt 6 = .ok (.istore_n 3, 1) := by decide +kernel
theorem dX11_foreseenAt_7 : decode cX11_foreseenAt 7 = .ok (.iload_n 3, 1) := by decide +kernel
theorem dX11_foreseenAt_8 : decode cX11_foreseenAt 8 = .ok (.aload_n 0, 1) := by decide +kernel
theorem dX11_foreseenAt_9 : decode cX11_foreseenAt 9 = .ok (.getfield 191, 3) := by decide +kernel
theorem dX11_foreseenAt_12 : decode cX11_foreseenAt 12 = .ok (.if_icmp .ge 98, 3) := by decide +kernel
theorem dX11_foreseenAt_15 : decode cX11_foreseenAt 15 = .ok (.aload_n 0, 1) := by decide +kernel
theorem dX11_foreseenAt_16 : decode cX11_foreseenAt 16 = .ok (.getfield 73, 3) := by decide +kernel
theorem dX11_foreseenAt_19 : decode cX11_foreseenAt 19 = .ok (.iload_n 3, 1) := by decide +kernel
theorem dX11_foreseenAt_20 : decode cX11_foreseenAt 20 = .ok (.iaload, 1) := by decide +kernel
theorem dX11_foreseenAt_21 : decode cX11_foreseenAt 21 = .ok (.iload_n 2, 1) := by decide +kernel
theorem dX11_foreseenAt_22 : decode cX11_foreseenAt 22 = .ok (.if_icmp .le 7, 3) := by decide +kernel
theorem dX11_foreseenAt_25 : decode cX11_foreseenAt 25 = .ok (.iconst 1, 1) := by decide +kernel
theorem dX11_foreseenAt_26 : decode cX11_foreseenAt 26 = .ok (.goto 4, 3) := by decide +kernel
theorem dX11_foreseenAt_29 : decode cX11_foreseenAt 29 = .ok (.iconst 0, 1) := by decide +kernel
theorem dX11_foreseenAt_30 : decode cX11_foreseenAt 30 = .ok (.istore 4, 2) := by decide +kernel
theorem dX11_foreseenAt_32 : decode cX11_foreseenAt 32 = .ok (.iconst 0, 1) := by decide +kernel
theorem dX11_foreseenAt_33 : decode cX11_foreseenAt 33 = .ok (.istore 5, 2) := by decide +kernel
theorem dX11_foreseenAt_35 : decode cX11_foreseenAt 35 = .ok (.iload 5, 2) := by decide +kernel
theorem dX11_foreseenAt_37 : decode cX11_foreseenAt 37 = .ok (.iload_n 2, 1) := by decide +kernel
theorem dX11_foreseenAt_38 : decode cX11_foreseenAt 38 = .ok (.if_icmp .ge 50, 3) := by decide +kernel
theorem dX11_foreseenAt_41 : decode cX11_foreseenAt 41 = .ok (.iload 4, 2) := by decide +kernel
theorem dX11_foreseenAt_43 : decode cX11_foreseenAt 43 = .ok (.ifCond .eq 45, 3) := by decide +kernel
theorem dX11_foreseenAt_46 : decode cX11_foreseenAt 46 = .ok (.aload_n 0, 1) := by decide +kernel
theorem dX11_foreseenAt_47 : decode cX11_foreseenAt 47 = .ok (.getfield 70, 3) := by decide +kernel
theorem dX11_foreseenAt_50 : decode cX11_foreseenAt 50 = .ok (.bipush 12, 2) := by decide +kernel
theorem dX11_foreseenAt_52 : decode cX11_foreseenAt 52 = .ok (.iload_n 3, 1) := by decide +kernel
theorem dX11_foreseenAt_53 : decode cX11_foreseenAt 53 = .ok (.imul, 1) := by decide +kernel
theorem dX11_foreseenAt_54 : decode cX11_foreseenAt 54 = .ok (.iload 5, 2) := by decide +kernel
theorem dX11_foreseenAt_56 : decode cX11_foreseenAt 56 = .ok (.iadd, 1) := by decide +kernel
theorem dX11_foreseenAt_57 : decode cX11_foreseenAt 57 = .ok (.baload, 1) := by decide +kernel
theorem dX11_foreseenAt_58 : decode cX11_foreseenAt 58 = .ok (.aload_n 0, 1) := by decide +kernel
theorem dX11_foreseenAt_59 : decode cX11_foreseenAt 59 = .ok (.getfield 45, 3) := by decide +kernel
theorem dX11_foreseenAt_62 : decode cX11_foreseenAt 62 = .ok (.aload_n 0, 1) := by decide +kernel
theorem dX11_foreseenAt_63 : decode cX11_foreseenAt 63 = .ok (.getfield 159, 3) := by decide +kernel
theorem dX11_foreseenAt_66 : decode cX11_foreseenAt 66 = .ok (.iload_n 2, 1) := by decide +kernel
theorem dX11_foreseenAt_67 : decode cX11_foreseenAt 67 = .ok (.isub, 1) := by decide +kernel
theorem dX11_foreseenAt_68 : decode cX11_foreseenAt 68 = .ok (.iload 5, 2) := by decide +kernel
theorem dX11_foreseenAt_70 : decode cX11_foreseenAt 70 = .ok (.iadd, 1) := by decide +kernel
theorem dX11_foreseenAt_71 : decode cX11_foreseenAt 71 = .ok (.baload, 1) := by decide +kernel
theorem dX11_foreseenAt_72 : decode cX11_foreseenAt 72 = .ok (.if_icmp .ne 7, 3) := by decide +kernel
theorem dX11_foreseenAt_75 : decode cX11_foreseenAt 75 = .ok (.iconst 1, 1) := by decide +kernel
theorem dX11_foreseenAt_76 : decode cX11_foreseenAt 76 = .ok (.goto 4, 3) := by decide +kernel
theorem dX11_foreseenAt_79 : decode cX11_foreseenAt 79 = .ok (.iconst 0, 1) := by decide +kernel
theorem dX11_foreseenAt_80 : decode cX11_foreseenAt 80 = .ok (.istore 4, 2) := by decide +kernel
theorem dX11_foreseenAt_82 : decode cX11_foreseenAt 82 = .ok (.iinc 5 1, 3) := by decide +kernel
theorem dX11_foreseenAt_85 : decode cX11_foreseenAt 85 = .ok (.goto (-50), 3) := by decide +kernel
theorem dX11_foreseenAt_88 : decode cX11_foreseenAt 88 = .ok (.aload_n 0, 1) := by decide +kernel
theorem dX11_foreseenAt_89 : decode cX11_foreseenAt 89 = .ok (.getfield 79, 3) := by decide +kernel
theorem dX11_foreseenAt_92 : decode cX11_foreseenAt 92 = .ok (.iload_n 3, 1) := by decide +kernel
theorem dX11_foreseenAt_93 : decode cX11_foreseenAt 93 = .ok (.iload 4, 2) := by decide +kernel
theorem dX11_foreseenAt_95 : decode cX11_foreseenAt 95 = .ok (.ifCond .eq 7, 3) := by decide +kernel
theorem dX11_foreseenAt_98 : decode cX11_foreseenAt 98 = .ok (.iconst 0, 1) := by decide +kernel
theorem dX11_foreseenAt_99 : decode cX11_foreseenAt 99 = .ok (.goto 4, 3) := by decide +kernel
theorem dX11_foreseenAt_102 : decode cX11_foreseenAt 102 = .ok (.iconst (-1), 1) := by decide +kernel
theorem dX11_foreseenAt_103 : decode cX11_foreseenAt 103 = .ok (.iastore, 1) := by decide +kernel
theorem dX11_foreseenAt_104 : decode cX11_foreseenAt 104 = .ok (.iinc 3 1, 3) := by decide +kernel
theorem dX11_foreseenAt_107 : decode cX11_foreseenAt 107 = .ok (.goto (-100), 3) := by decide +kernel
theorem dX11_foreseenAt_110 : decode cX11_foreseenAt 110 = .ok (.aload_n 0, 1) := by decide +kernel
theorem dX11_foreseenAt_111 : decode cX11_foreseenAt 111 = .ok (.iload_n 1, 1) := by decide +kernel
theorem dX11_foreseenAt_112 : decode cX11_foreseenAt 112 = .ok (.invokevirtual 197, 3) := by decide +kernel
theorem dX11_foreseenAt_115 : decode cX11_foreseenAt 115 = .ok (.ireturn, 1) := by decide +kernel
theorem dX11_areNear_0 : decode cX11_areNear 0 = .ok (.iconst 0, 1) := by decide +kernel
theorem dX11_areNear_1 : decode cX11_areNear 1 = .ok (.istore_n 3, 1) := by decide +kernel
theorem dX11_areNear_2 : decode cX11_areNear 2 = .ok (.iload_n 3, 1) := by decide +kernel
theorem dX11_areNear_3 : decode cX11_areNear 3 = .ok (.aload_n 0, 1) := by decide +kernel
theorem dX11_areNear_4 : decode cX11_areNear 4 = .ok (.getfield 22, 3) := by decide +kernel
theorem dX11_areNear_7 : decode cX11_areNear 7 = .ok (.if_icmp .ge 103, 3) := by decide +kernel
theorem dX11_areNear_10 : decode cX11_areNear 10 = .ok (.aload_n 0, 1) := by decide +kernel
theorem dX11_areNear_11 : decode cX11_areNear 11 = .ok (.getfield 9, 3) := by decide +kernel
theorem dX11_areNear_14 : decode cX11_areNear 14 = .ok (.iload_n 3, 1) := by decide +kernel
theorem dX11_areNear_15 : decode cX11_areNear 15 = .ok (.iaload, 1) := by decide +kernel
theorem dX11_areNear_16 : decode cX11_areNear 16 = .ok (.iconst 1, 1) := by decide +kernel
theorem dX11_areNear_17 : decode cX11_areNear 17 = .ok (.if_icmp .ne 87, 3) := by decide +kernel
theorem dX11_areNear_20 : decode cX11_areNear 20 = .ok (.aload_n 0, 1) := by decide +kernel
theorem dX11_areNear_21 : decode cX11_areNear 21 = .ok (.getfield 13, 3) := by decide +kernel
theorem dX11_areNear_24 : decode cX11_areNear 24 = .ok (.iload_n 3, 1) := by decide +kernel
theorem dX11_areNear_25 : decode cX11_areNear 25 = .ok (.iaload, 1) := by decide +kernel
theorem dX11_areNear_26 : decode cX11_areNear 26 = .ok (.iload_n 1, 1) := by decide +kernel
theorem dX11_areNear_27 : decode cX11_areNear 27 = .ok (.if_icmp .eq 16, 3) := by decide +kernel
theorem dX11_areNear_30 : decode cX11_areNear 30 = .ok (.aload_n 0, 1) := by decide +kernel
theorem dX11_areNear_31 : decode cX11_areNear 31 = .ok (.getfield 13, 3) := by decide +kernel
theorem dX11_areNear_34 : decode cX11_areNear 34 = .ok (.iload_n 3, 1) := by decide +kernel
theorem dX11_areNear_35 : decode cX11_areNear 35 = .ok (.iaload, 1) := by decide +kernel
theorem dX11_areNear_36 : decode cX11_areNear 36 = .ok (.iload_n 2, 1) := by decide +kernel
theorem dX11_areNear_37 : decode cX11_areNear 37 = .ok (.if_icmp .eq 6, 3) := by decide +kernel
theorem dX11_areNear_40 : decode cX11_areNear 40 = .ok (.goto 64, 3) := by decide +kernel
theorem dX11_areNear_43 : decode cX11_areNear 43 = .ok (.aload_n 0, 1) := by decide +kernel
theorem dX11_areNear_44 : decode cX11_areNear 44 = .ok (.aload_n 0, 1) := by decide +kernel
theorem dX11_areNear_45 : decode cX11_areNear 45 = .ok (.getfield 16, 3) := by decide +kernel
theorem dX11_areNear_48 : decode cX11_areNear 48 = .ok (.iload_n 3, 1) := by decide +kernel
theorem dX11_areNear_49 : decode cX11_areNear 49 = .ok (.iaload, 1) := by decide +kernel
theorem dX11_areNear_50 : decode cX11_areNear 50 = .ok (.aload_n 0, 1) := by decide +kernel
theorem dX11_areNear_51 : decode cX11_areNear 51 = .ok (.iload_n 3, 1) := by decide +kernel
theorem dX11_areNear_52 : decode cX11_areNear 52 = .ok (.invokevirtual 135, 3) := by decide +kernel
theorem dX11_areNear_55 : decode cX11_areNear 55 = .ok (.invokevirtual 146, 3) := by decide +kernel
theorem dX11_areNear_58 : decode cX11_areNear 58 = .ok (.istore 4, 2) := by decide +kernel
theorem dX11_areNear_60 : decode cX11_areNear 60 = .ok (.iload 4, 2) := by decide +kernel
theorem dX11_areNear_62 : decode cX11_areNear 62 = .ok (.iconst (-1), 1) := by decide +kernel
theorem dX11_areNear_63 : decode cX11_areNear 63 = .ok (.if_icmp .eq 41, 3) := by decide +kernel
theorem dX11_areNear_66 : decode cX11_areNear 66 = .ok (.aload_n 0, 1) := by decide +kernel
theorem dX11_areNear_67 : decode cX11_areNear 67 = .ok (.getfield 9, 3) := by decide +kernel
theorem dX11_areNear_70 : decode cX11_areNear 70 = .ok (.iload 4, 2) := by decide +kernel
theorem dX11_areNear_72 : decode cX11_areNear 72 = .ok (.iaload, 1) := by decide +kernel
theorem dX11_areNear_73 : decode cX11_areNear 73 = .ok (.iconst 1, 1) := by decide +kernel
theorem dX11_areNear_74 : decode cX11_areNear 74 = .ok (.if_icmp .ne 30, 3) := by decide +kernel
theorem dX11_areNear_77 : decode cX11_areNear 77 = .ok (.aload_n 0, 1) := by decide +kernel
theorem dX11_areNear_78 : decode cX11_areNear 78 = .ok (.getfield 13, 3) := by decide +kernel
theorem dX11_areNear_81 : decode cX11_areNear 81 = .ok (.iload 4, 2) := by decide +kernel
theorem dX11_areNear_83 : decode cX11_areNear 83 = .ok (.iaload, 1) := by decide +kernel
theorem dX11_areNear_84 : decode cX11_areNear 84 = .ok (.aload_n 0, 1) := by decide +kernel
theorem dX11_areNear_85 : decode cX11_areNear 85 = .ok (.getfield 13, 3) := by decide +kernel
theorem dX11_areNear_88 : decode cX11_areNear 88 = .ok (.iload_n 3, 1) := by decide +kernel
theorem dX11_areNear_89 : decode cX11_areNear 89 = .ok (.iaload, 1) := by decide +kernel
theorem dX11_areNear_90 : decode cX11_areNear 90 = .ok (.iload_n 1, 1) := by decide +kernel
theorem dX11_areNear_91 : decode cX11_areNear 91 = .ok (.if_icmp .ne 7, 3) := by decide +kernel
theorem dX11_areNear_94 : decode cX11_areNear 94 = .ok (.iload_n 2, 1) := by decide +kernel
theorem dX11_areNear_95 : decode cX11_areNear 95 = .ok (.goto 4, 3) := by decide +kernel
theorem dX11_areNear_98 : decode cX11_areNear 98 = .ok (.iload_n 1, 1) := by decide +kernel
theorem dX11_areNear_99 : decode cX11_areNear 99 = .ok (.if_icmp .ne 5, 3) := by decide +kernel
theorem dX11_areNear_102 : decode cX11_areNear 102 = .ok (.iconst 1, 1) := by decide +kernel
theorem dX11_areNear_103 : decode cX11_areNear 103 = .ok (.ireturn, 1) := by decide +kernel
theorem dX11_areNear_104 : decode cX11_areNear 104 = .ok (.iinc 3 1, 3) := by decide +kernel
theorem dX11_areNear_107 : decode cX11_areNear 107 = .ok (.goto (-105), 3) := by decide +kernel
theorem dX11_areNear_110 : decode cX11_areNear 110 = .ok (.iconst 0, 1) := by decide +kernel
theorem dX11_areNear_111 : decode cX11_areNear 111 = .ok (.ireturn, 1) := by decide +kernel
theorem dX11_near_0 : decode cX11_near 0 = .ok (.aload_n 0, 1) := by decide +kernel
theorem dX11_near_1 : decode cX11_near 1 = .ok (.iconst 0, 1) := by decide +kernel
theorem dX11_near_2 : decode cX11_near 2 = .ok (.putfield 98, 3) := by decide +kernel
theorem dX11_near_5 : decode cX11_near 5 = .ok (.iload_n 1, 1) := by decide +kernel
theorem dX11_near_6 : decode cX11_near 6 = .ok (.invokestatic 124, 3) := by decide +kernel
theorem dX11_near_9 : decode cX11_near 9 = .ok (.ifCond .eq 27, 3) := by decide +kernel
theorem dX11_near_12 : decode cX11_near 12 = .ok (.iload_n 2, 1) := by decide +kernel
theorem dX11_near_13 : decode cX11_near 13 = .ok (.invokestatic 124, 3) := by decide +kernel
theorem dX11_near_16 : decode cX11_near 16 = .ok (.ifCond .eq 20, 3) := by decide +kernel
theorem dX11_near_19 : decode cX11_near 19 = .ok (.aload_n 0, 1) := by decide +kernel
theorem dX11_near_20 : decode cX11_near 20 = .ok (.iload_n 1, 1) := by decide +kernel
theorem dX11_near_21 : decode cX11_near 21 = .ok (.iload_n 2, 1) := by decide +kernel
theorem dX11_near_22 : decode cX11_near 22 = .ok (.invokevirtual 200, 3) := by decide +kernel
theorem dX11_near_25 : decode cX11_near 25 = .ok (.ifCond .eq 7, 3) := by decide +kernel
theorem dX11_near_28 : decode cX11_near 28 = .ok (.iconst 1, 1) := by decide +kernel
theorem dX11_near_29 : decode cX11_near 29 = .ok (.goto 8, 3) := by decide +kernel
theorem dX11_near_32 : decode cX11_near 32 = .ok (.iconst 0, 1) := by decide +kernel
theorem dX11_near_33 : decode cX11_near 33 = .ok (.goto 4, 3) := by decide +kernel
theorem dX11_near_36 : decode cX11_near 36 = .ok (.iconst (-1), 1) := by decide +kernel
theorem dX11_near_37 : decode cX11_near 37 = .ok (.ireturn, 1) := by decide +kernel
theorem dX11_offeredAt_0 : decode cX11_offeredAt 0 = .ok (.aload_n 0, 1) := by decide +kernel
theorem dX11_offeredAt_1 : decode cX11_offeredAt 1 = .ok (.invokevirtual 174, 3) := by decide +kernel
theorem dX11_offeredAt_4 : decode cX11_offeredAt 4 = .ok (.istore_n 2, 1) := by decide +kernel
theorem dX11_offeredAt_5 : decode cX11_offeredAt 5 = .ok (.iload_n 2, 1) := by decide +kernel
theorem dX11_offeredAt_6 : decode cX11_offeredAt 6 = .ok (.ifCond .ne 7, 3) := by decide +kernel
theorem dX11_offeredAt_9 : decode cX11_offeredAt 9 = .ok (.iconst 1, 1) := by decide +kernel
theorem dX11_offeredAt_10 : decode cX11_offeredAt 10 = .ok (.goto 4, 3) := by decide +kernel
theorem dX11_offeredAt_13 : decode cX11_offeredAt 13 = .ok (.iconst 0, 1) := by decide +kernel
theorem dX11_offeredAt_14 : decode cX11_offeredAt 14 = .ok (.istore_n 3, 1) := by decide +kernel
theorem dX11_offeredAt_15 : decode cX11_offeredAt 15 = .ok (.iconst 0, 1) := by decide +kernel
theorem dX11_offeredAt_16 : decode cX11_offeredAt 16 = .ok (.istore 4, 2) := by decide +kernel
theorem dX11_offeredAt_18 : decode cX11_offeredAt 18 = .ok (.iload 4, 2) := by decide +kernel
theorem dX11_offeredAt_20 : decode cX11_offeredAt 20 = .ok (.aload_n 0, 1) := by decide +kernel
theorem dX11_offeredAt_21 : decode cX11_offeredAt 21 = .ok (.getfield 191, 3) := by decide +kernel
theorem dX11_offeredAt_24 : decode cX11_offeredAt 24 = .ok (.if_icmp .ge 154, 3) := by decide +kernel
theorem dX11_offeredAt_27 : decode cX11_offeredAt 27 = .ok (.aload_n 0, 1) := by decide +kernel
theorem dX11_offeredAt_28 : decode cX11_offeredAt 28 = .ok (.getfield 79, 3) := by decide +kernel
theorem dX11_offeredAt_31 : decode cX11_offeredAt 31 = .ok (.iload 4, 2) := by decide +kernel
theorem dX11_offeredAt_33 : decode cX11_offeredAt 33 = .ok (.iconst (-1), 1) := by decide +kernel
theorem dX11_offeredAt_34 : decode cX11_offeredAt 34 = .ok (.iastore, 1) := by decide +kernel
theorem dX11_offeredAt_35 : decode cX11_offeredAt 35 = .ok (.aload_n 0, 1) := by decide +kernel
theorem dX11_offeredAt_36 : decode cX11_offeredAt 36 = .ok (.getfield 73, 3) := by decide +kernel
theorem dX11_offeredAt_39 : decode cX11_offeredAt 39 = .ok (.iload 4, 2) := by decide +kernel
theorem dX11_offeredAt_41 : decode cX11_offeredAt 41 = .ok (.iaload, 1) := by decide +kernel
theorem dX11_offeredAt_42 : decode cX11_offeredAt 42 = .ok (.iload_n 2, 1) := by decide +kernel
theorem dX11_offeredAt_43 : decode cX11_offeredAt 43 = .ok (.if_icmp .eq 6, 3) := by decide +kernel
theorem dX11_offeredAt_46 : decode cX11_offeredAt 46 = .ok (.goto 126, 3) := by decide +kernel
theorem dX11_offeredAt_49 : decode cX11_offeredAt 49 = .ok (.iconst 0, 1) := by decide +kernel
theorem dX11_offeredAt_50 : decode cX11_offeredAt 50 = .ok (.istore 5, 2) := by decide +kernel
theorem dX11_offeredAt_52 : decode cX11_offeredAt 52 = .ok (.iconst 1, 1) := by decide +kernel
theorem dX11_offeredAt_53 : decode cX11_offeredAt 53 = .ok (.istore 6, 2) := by decide +kernel
theorem dX11_offeredAt_55 : decode cX11_offeredAt 55 = .ok (.iconst 0, 1) := by decide +kernel
theorem dX11_offeredAt_56 : decode cX11_offeredAt 56 = .ok (.istore 7, 2) := by decide +kernel
theorem dX11_offeredAt_58 : decode cX11_offeredAt 58 = .ok (.iload 7, 2) := by decide +kernel
theorem dX11_offeredAt_60 : decode cX11_offeredAt 60 = .ok (.iload_n 2, 1) := by decide +kernel
theorem dX11_offeredAt_61 : decode cX11_offeredAt 61 = .ok (.if_icmp .ge 76, 3) := by decide +kernel
theorem dX11_offeredAt_64 : decode cX11_offeredAt 64 = .ok (.aload_n 0, 1) := by decide +kernel
theorem dX11_offeredAt_65 : decode cX11_offeredAt 65 = .ok (.getfield 70, 3) := by decide +kernel
theorem dX11_offeredAt_68 : decode cX11_offeredAt 68 = .ok (.bipush 12, 2) := by decide +kernel
theorem dX11_offeredAt_70 : decode cX11_offeredAt 70 = .ok (.iload 4, 2) := by decide +kernel
theorem dX11_offeredAt_72 : decode cX11_offeredAt 72 = .ok (.imul, 1) := by decide +kernel
theorem dX11_offeredAt_73 : decode cX11_offeredAt 73 = .ok (.iload 7, 2) := by decide +kernel
theorem dX11_offeredAt_75 : decode cX11_offeredAt 75 = .ok (.iadd, 1) := by decide +kernel
theorem dX11_offeredAt_76 : decode cX11_offeredAt 76 = .ok (.baload, 1) := by decide +kernel
theorem dX11_offeredAt_77 : decode cX11_offeredAt 77 = .ok (.istore 8, 2) := by decide +kernel
theorem dX11_offeredAt_79 : decode cX11_offeredAt 79 = .ok (.aload_n 0, 1) := by decide +kernel
theorem dX11_offeredAt_80 : decode cX11_offeredAt 80 = .ok (.getfield 45, 3) := by decide +kernel
theorem dX11_offeredAt_83 : decode cX11_offeredAt 83 = .ok (.aload_n 0, 1) := by decide +kernel
theorem dX11_offeredAt_84 : decode cX11_offeredAt 84 = .ok (.getfield 159, 3) := by decide +kernel
theorem dX11_offeredAt_87 : decode cX11_offeredAt 87 = .ok (.iload_n 2, 1) := by decide +kernel
theorem dX11_offeredAt_88 : decode cX11_offeredAt 88 = .ok (.isub, 1) := by decide +kernel
theorem dX11_offeredAt_89 : decode cX11_offeredAt 89 = .ok (.iload 7, 2) := by decide +kernel
theorem dX11_offeredAt_91 : decode cX11_offeredAt 91 = .ok (.iadd, 1) := by decide +kernel
theorem dX11_offeredAt_92 : decode cX11_offeredAt 92 = .ok (.baload, 1) := by decide +kernel
theorem dX11_offeredAt_93 : decode cX11_offeredAt 93 = .ok (.istore 9, 2) := by decide +kernel
theorem dX11_offeredAt_95 : decode cX11_offeredAt 95 = .ok (.iload 8, 2) := by decide +kernel
theorem dX11_offeredAt_97 : decode cX11_offeredAt 97 = .ok (.iload 9, 2) := by decide +kernel
theorem dX11_offeredAt_99 : decode cX11_offeredAt 99 = .ok (.if_icmp .ne 6, 3) := by decide +kernel
theorem dX11_offeredAt_102 : decode cX11_offeredAt 102 = .ok (.goto 29, 3) := by decide +kernel
theorem dX11_offeredAt_105 : decode cX11_offeredAt 105 = .ok (.iinc 5 1, 3) := by decide +kernel
theorem dX11_offeredAt_108 : decode cX11_offeredAt 108 = .ok (.iload 6, 2) := by decide +kernel
theorem dX11_offeredAt_110 : decode cX11_offeredAt 110 = .ok (.ifCond .eq 18, 3) := by decide +kernel
theorem dX11_offeredAt_113 : decode cX11_offeredAt 113 = .ok (.aload_n 0, 1) := by decide +kernel
theorem dX11_offeredAt_114 : decode cX11_offeredAt 114 = .ok (.iload 8, 2) := by decide +kernel
theorem dX11_offeredAt_116 : decode cX11_offeredAt 116 = .ok (.iload 9, 2) := by decide +kernel
theorem dX11_offeredAt_118 : decode cX11_offeredAt 118 = .ok (.invokevirtual 200, 3) := by decide +kernel
theorem dX11_offeredAt_121 : decode cX11_offeredAt 121 = .ok (.ifCond .eq 7, 3) := by decide +kernel
theorem dX11_offeredAt_124 : decode cX11_offeredAt 124 = .ok (.iconst 1, 1) := by decide +kernel
theorem dX11_offeredAt_125 : decode cX11_offeredAt 125 = .ok (.goto 4, 3) := by decide +kernel
theorem dX11_offeredAt_128 : decode cX11_offeredAt 128 = .ok (.iconst 0, 1) := by decide +kernel
theorem dX11_offeredAt_129 : decode cX11_offeredAt 129 = .ok (.istore 6, 2) := by decide +kernel
theorem dX11_offeredAt_131 : decode cX11_offeredAt 131 = .ok (.iinc 7 1, 3) := by decide +kernel
theorem dX11_offeredAt_134 : decode cX11_offeredAt 134 = .ok (.goto (-76), 3) := by decide +kernel
theorem dX11_offeredAt_137 : decode cX11_offeredAt 137 = .ok (.iload_n 3, 1) := by decide +kernel
theorem dX11_offeredAt_138 : decode cX11_offeredAt 138 = .ok (.ifCond .ne 8, 3) := by decide +kernel
theorem dX11_offeredAt_141 : decode cX11_offeredAt 141 = .ok (.iload 5, 2) := by decide +kernel
theorem dX11_offeredAt_143 : decode cX11_offeredAt 143 = .ok (.ifCond .ne 7, 3) := by decide +kernel
theorem dX11_offeredAt_146 : decode cX11_offeredAt 146 = .ok (.iconst 1, 1) := by decide +kernel
theorem dX11_offeredAt_147 : decode cX11_offeredAt 147 = .ok (.goto 4, 3) := by decide +kernel
theorem dX11_offeredAt_150 : decode cX11_offeredAt 150 = .ok (.iconst 0, 1) := by decide +kernel
theorem dX11_offeredAt_151 : decode cX11_offeredAt 151 = .ok (.istore_n 3, 1) := by decide +kernel
theorem dX11_offeredAt_152 : decode cX11_offeredAt 152 = .ok (.iload 6, 2) := by decide +kernel
theorem dX11_offeredAt_154 : decode cX11_offeredAt 154 = .ok (.ifCond .eq 18, 3) := by decide +kernel
theorem dX11_offeredAt_157 : decode cX11_offeredAt 157 = .ok (.iload 5, 2) := by decide +kernel
theorem dX11_offeredAt_159 : decode cX11_offeredAt 159 = .ok (.iconst 2, 1) := by decide +kernel
theorem dX11_offeredAt_160 : decode cX11_offeredAt 160 = .ok (.if_icmp .gt 12, 3) := by decide +kernel
theorem dX11_offeredAt_163 : decode cX11_offeredAt 163 = .ok (.aload_n 0, 1) := by decide +kernel
theorem dX11_offeredAt_164 : decode cX11_offeredAt 164 = .ok (.getfield 79, 3) := by decide +kernel
theorem dX11_offeredAt_167 : decode cX11_offeredAt 167 = .ok (.iload 4, 2) := by decide +kernel
theorem dX11_offeredAt_169 : decode cX11_offeredAt 169 = .ok (.iload 5, 2) := by decide +kernel
theorem dX11_offeredAt_171 : decode cX11_offeredAt 171 = .ok (.iastore, 1) := by decide +kernel
theorem dX11_offeredAt_172 : decode cX11_offeredAt 172 = .ok (.iinc 4 1, 3) := by decide +kernel
theorem dX11_offeredAt_175 : decode cX11_offeredAt 175 = .ok (.goto (-157), 3) := by decide +kernel
theorem dX11_offeredAt_178 : decode cX11_offeredAt 178 = .ok (.iload_n 3, 1) := by decide +kernel
theorem dX11_offeredAt_179 : decode cX11_offeredAt 179 = .ok (.ifCond .eq 7, 3) := by decide +kernel
theorem dX11_offeredAt_182 : decode cX11_offeredAt 182 = .ok (.iconst (-1), 1) := by decide +kernel
theorem dX11_offeredAt_183 : decode cX11_offeredAt 183 = .ok (.goto 8, 3) := by decide +kernel
theorem dX11_offeredAt_186 : decode cX11_offeredAt 186 = .ok (.aload_n 0, 1) := by decide +kernel
theorem dX11_offeredAt_187 : decode cX11_offeredAt 187 = .ok (.iload_n 1, 1) := by decide +kernel
theorem dX11_offeredAt_188 : decode cX11_offeredAt 188 = .ok (.invokevirtual 197, 3) := by decide +kernel
theorem dX11_offeredAt_191 : decode cX11_offeredAt 191 = .ok (.ireturn, 1) := by decide +kernel
theorem dX11_foreseen_0 : decode cX11_foreseen 0 = .ok (.aload_n 0, 1) := by decide +kernel
theorem dX11_foreseen_1 : decode cX11_foreseen 1 = .ok (.iconst 0, 1) := by decide +kernel
theorem dX11_foreseen_2 : decode cX11_foreseen 2 = .ok (.putfield 98, 3) := by decide +kernel
theorem dX11_foreseen_5 : decode cX11_foreseen 5 = .ok (.iload_n 1, 1) := by decide +kernel
theorem dX11_foreseen_6 : decode cX11_foreseen 6 = .ok (.ifCond .ge 7, 3) := by decide +kernel
theorem dX11_foreseen_9 : decode cX11_foreseen 9 = .ok (.iconst (-1), 1) := by decide +kernel
theorem dX11_foreseen_10 : decode cX11_foreseen 10 = .ok (.goto 8, 3) := by decide +kernel
theorem dX11_foreseen_13 : decode cX11_foreseen 13 = .ok (.aload_n 0, 1) := by decide +kernel
theorem dX11_foreseen_14 : decode cX11_foreseen 14 = .ok (.iload_n 1, 1) := by decide +kernel
theorem dX11_foreseen_15 : decode cX11_foreseen 15 = .ok (.invokevirtual 171, 3) := by decide +kernel
theorem dX11_foreseen_18 : decode cX11_foreseen 18 = .ok (.ireturn, 1) := by decide +kernel
theorem dX11_offered_0 : decode cX11_offered 0 = .ok (.aload_n 0, 1) := by decide +kernel
theorem dX11_offered_1 : decode cX11_offered 1 = .ok (.iconst 0, 1) := by decide +kernel
theorem dX11_offered_2 : decode cX11_offered 2 = .ok (.putfield 98, 3) := by decide +kernel
theorem dX11_offered_5 : decode cX11_offered 5 = .ok (.iload_n 1, 1) := by decide +kernel
theorem dX11_offered_6 : decode cX11_offered 6 = .ok (.ifCond .ge 7, 3) := by decide +kernel
theorem dX11_offered_9 : decode cX11_offered 9 = .ok (.iconst (-1), 1) := by decide +kernel
theorem dX11_offered_10 : decode cX11_offered 10 = .ok (.goto 8, 3) := by decide +kernel
theorem dX11_offered_13 : decode cX11_offered 13 = .ok (.aload_n 0, 1) := by decide +kernel
theorem dX11_offered_14 : decode cX11_offered 14 = .ok (.iload_n 1, 1) := by decide +kernel
theorem dX11_offered_15 : decode cX11_offered 15 = .ok (.invokevirtual 178, 3) := by decide +kernel
theorem dX11_offered_18 : decode cX11_offered 18 = .ok (.ireturn, 1) := by decide +kernel
theorem dX11_share_0 : decode cX11_share 0 = .ok (.aload_n 0, 1) := by decide +kernel
theorem dX11_share_1 : decode cX11_share 1 = .ok (.iconst 0, 1) := by decide +kernel
theorem dX11_share_2 : decode cX11_share 2 = .ok (.putfield 98, 3) := by decide +kernel
theorem dX11_share_5 : decode cX11_share 5 = .ok (.iload_n 1, 1) := by decide +kernel
theorem dX11_share_6 : decode cX11_share 6 = .ok (.invokestatic 124, 3) := by decide +kernel
theorem dX11_share_9 : decode cX11_share 9 = .ok (.ifCond .eq 14, 3) := by decide +kernel
theorem dX11_share_12 : decode cX11_share 12 = .ok (.iload_n 2, 1) := by decide +kernel
theorem dX11_share_13 : decode cX11_share 13 = .ok (.iconst 0, 1) := by decide +kernel
theorem dX11_share_14 : decode cX11_share 14 = .ok (.sipush 1000, 3) := by decide +kernel
theorem dX11_share_17 : decode cX11_share 17 = .ok (.invokestatic 120, 3) := by decide +kernel
theorem dX11_share_20 : decode cX11_share 20 = .ok (.ifCond .ne 5, 3) := by decide +kernel
theorem dX11_share_23 : decode cX11_share 23 = .ok (.iconst 0, 1) := by decide +kernel
theorem dX11_share_24 : decode cX11_share 24 = .ok (.ireturn, 1) := by decide +kernel
theorem dX11_share_25 : decode cX11_share 25 = .ok (.aload_n 0, 1) := by decide +kernel
theorem dX11_share_26 : decode cX11_share 26 = .ok (.getfield 82, 3) := by decide +kernel
theorem dX11_share_29 : decode cX11_share 29 = .ok (.iload_n 1, 1) := by decide +kernel
theorem dX11_share_30 : decode cX11_share 30 = .ok (.bipush 97, 2) := by decide +kernel
theorem dX11_share_32 : decode cX11_share 32 = .ok (.isub, 1) := by decide +kernel
theorem dX11_share_33 : decode cX11_share 33 = .ok (.iload_n 2, 1) := by decide +kernel
theorem dX11_share_34 : decode cX11_share 34 = .ok (.iastore, 1) := by decide +kernel
theorem dX11_share_35 : decode cX11_share 35 = .ok (.iconst 1, 1) := by decide +kernel
theorem dX11_share_36 : decode cX11_share 36 = .ok (.ireturn, 1) := by decide +kernel
theorem dX11_costOf_0 : decode cX11_costOf 0 = .ok (.iconst 0, 1) := by decide +kernel
theorem dX11_costOf_1 : decode cX11_costOf 1 = .ok (.istore_n 2, 1) := by decide +kernel
theorem dX11_costOf_2 : decode cX11_costOf 2 = .ok (.iload_n 1, 1) := by decide +kernel
theorem dX11_costOf_3 : decode cX11_costOf 3 = .ok (.istore_n 3, 1) := by decide +kernel
theorem dX11_costOf_4 : decode cX11_costOf 4 = .ok (.iload_n 3, 1) := by decide +kernel
theorem dX11_costOf_5 : decode cX11_costOf 5 = .ok (.ifCond .eq 35, 3) := by decide +kernel
theorem dX11_costOf_8 : decode cX11_costOf 8 = .ok (.iload_n 2, 1) := by decide +kernel
theorem dX11_costOf_9 : decode cX11_costOf 9 = .ok (.aload_n 0, 1) := by decide +kernel
theorem dX11_costOf_10 : decode cX11_costOf 10 = .ok (.getfield 19, 3) := by decide +kernel
theorem dX11_costOf_13 : decode cX11_costOf 13 = .ok (.iconst 0, 1) := by decide +kernel
theorem dX11_costOf_14 : decode cX11_costOf 14 = .ok (.iaload, 1) := by decide +kernel
theorem dX11_costOf_15 : decode cX11_costOf 15 = .ok (.aload_n 0, 1) := by decide +kernel
theorem dX11_costOf_16 : decode cX11_costOf 16 = .ok (.iload_n 3, 1) := by decide +kernel
theorem dX11_costOf_17 : decode cX11_costOf 17 = .ok (.invokevirtual 135, 3) := by decide +kernel
theorem dX11_costOf_20 : decode cX11_costOf 20 = .ok (.imul, 1) := by decide +kernel
theorem dX11_costOf_21 : decode cX11_costOf 21 = .ok (.aload_n 0, 1) := by decide +kernel
theorem dX11_costOf_22 : decode cX11_costOf 22 = .ok (.getfield 19, 3) := by decide +kernel
theorem dX11_costOf_25 : decode cX11_costOf 25 = .ok (.iconst 4, 1) := by decide +kernel
theorem dX11_costOf_26 : decode cX11_costOf 26 = .ok (.iaload, 1) := by decide +kernel
theorem dX11_costOf_27 : decode cX11_costOf 27 = .ok (.iadd, 1) := by decide +kernel
theorem dX11_costOf_28 : decode cX11_costOf 28 = .ok (.iadd, 1) := by decide +kernel
theorem dX11_costOf_29 : decode cX11_costOf 29 = .ok (.istore_n 2, 1) := by decide +kernel
theorem dX11_costOf_30 : decode cX11_costOf 30 = .ok (.aload_n 0, 1) := by decide +kernel
theorem dX11_costOf_31 : decode cX11_costOf 31 = .ok (.getfield 16, 3) := by decide +kernel
theorem dX11_costOf_34 : decode cX11_costOf 34 = .ok (.iload_n 3, 1) := by decide +kernel
theorem dX11_costOf_35 : decode cX11_costOf 35 = .ok (.iaload, 1) := by decide +kernel
theorem dX11_costOf_36 : decode cX11_costOf 36 = .ok (.istore_n 3, 1) := by decide +kernel
theorem dX11_costOf_37 : decode cX11_costOf 37 = .ok (.goto (-33), 3) := by decide +kernel
theorem dX11_costOf_40 : decode cX11_costOf 40 = .ok (.iload_n 2, 1) := by decide +kernel
theorem dX11_costOf_41 : decode cX11_costOf 41 = .ok (.ireturn, 1) := by decide +kernel
theorem dX11_cost_0 : decode cX11_cost 0 = .ok (.aload_n 0, 1) := by decide +kernel
theorem dX11_cost_1 : decode cX11_cost 1 = .ok (.iconst 0, 1) := by decide +kernel
theorem dX11_cost_2 : decode cX11_cost 2 = .ok (.putfield 98, 3) := by decide +kernel
theorem dX11_cost_5 : decode cX11_cost 5 = .ok (.aload_n 0, 1) := by decide +kernel
theorem dX11_cost_6 : decode cX11_cost 6 = .ok (.iload_n 1, 1) := by decide +kernel
theorem dX11_cost_7 : decode cX11_cost 7 = .ok (.invokevirtual 116, 3) := by decide +kernel
theorem dX11_cost_10 : decode cX11_cost 10 = .ok (.ifCond .eq 23, 3) := by decide +kernel
theorem dX11_cost_13 : decode cX11_cost 13 = .ok (.iload_n 1, 1) := by decide +kernel
theorem dX11_cost_14 : decode cX11_cost 14 = .ok (.ifCond .eq 19, 3) := by decide +kernel
theorem dX11_cost_17 : decode cX11_cost 17 = .ok (.aload_n 0, 1) := by decide +kernel
theorem dX11_cost_18 : decode cX11_cost 18 = .ok (.iload_n 1, 1) := by decide +kernel
theorem dX11_cost_19 : decode cX11_cost 19 = .ok (.invokevirtual 204, 3) := by decide +kernel
theorem dX11_cost_22 : decode cX11_cost 22 = .ok (.ifCond .eq 11, 3) := by decide +kernel
theorem dX11_cost_25 : decode cX11_cost 25 = .ok (.aload_n 0, 1) := by decide +kernel
theorem dX11_cost_26 : decode cX11_cost 26 = .ok (.iload_n 1, 1) := by decide +kernel
theorem dX11_cost_27 : decode cX11_cost 27 = .ok (.invokevirtual 207, 3) := by decide +kernel
theorem dX11_cost_30 : decode cX11_cost 30 = .ok (.goto 4, 3) := by decide +kernel
theorem dX11_cost_33 : decode cX11_cost 33 = .ok (.iconst (-1), 1) := by decide +kernel
theorem dX11_cost_34 : decode cX11_cost 34 = .ok (.ireturn, 1) := by decide +kernel
theorem dX11_mean_0 : decode cX11_mean 0 = .ok (.aload_n 0, 1) := by decide +kernel
theorem dX11_mean_1 : decode cX11_mean 1 = .ok (.iconst 0, 1) := by decide +kernel
theorem dX11_mean_2 : decode cX11_mean 2 = .ok (.putfield 98, 3) := by decide +kernel
theorem dX11_mean_5 : decode cX11_mean 5 = .ok (.iload_n 1, 1) := by decide +kernel
theorem dX11_mean_6 : decode cX11_mean 6 = .ok (.iconst 0, 1) := by decide +kernel
theorem dX11_mean_7 : decode cX11_mean 7 = .ok (.iconst 1, 1) := by decide +kernel
theorem dX11_mean_8 : decode cX11_mean 8 = .ok (.invokestatic 120, 3) := by decide +kernel
theorem dX11_mean_11 : decode cX11_mean 11 = .ok (.ifCond .ne 7, 3) := by decide +kernel
theorem dX11_mean_14 : decode cX11_mean 14 = .ok (.ldc2_w 210, 3) := by decide +kernel
theorem dX11_mean_17 : decode cX11_mean 17 = .ok (.lreturn, 1) := by decide +kernel
theorem dX11_mean_18 : decode cX11_mean 18 = .ok (.lconst 0, 1) := by decide +kernel
theorem dX11_mean_19 : decode cX11_mean 19 = .ok (.lstore_n 2, 1) := by decide +kernel
theorem dX11_mean_20 : decode cX11_mean 20 = .ok (.lconst 0, 1) := by decide +kernel
theorem dX11_mean_21 : decode cX11_mean 21 = .ok (.lstore 4, 2) := by decide +kernel
theorem dX11_mean_23 : decode cX11_mean 23 = .ok (.iconst 0, 1) := by decide +kernel
theorem dX11_mean_24 : decode cX11_mean 24 = .ok (.istore 6, 2) := by decide +kernel
theorem dX11_mean_26 : decode cX11_mean 26 = .ok (.iload 6, 2) := by decide +kernel
theorem dX11_mean_28 : decode cX11_mean 28 = .ok (.bipush 26, 2) := by decide +kernel
theorem dX11_mean_30 : decode cX11_mean 30 = .ok (.if_icmp .ge 132, 3) := by decide +kernel
theorem dX11_mean_33 : decode cX11_mean 33 = .ok (.aload_n 0, 1) := by decide +kernel
theorem dX11_mean_34 : decode cX11_mean 34 = .ok (.getfield 82, 3) := by decide +kernel
theorem dX11_mean_37 : decode cX11_mean 37 = .ok (.iload 6, 2) := by decide +kernel
theorem dX11_mean_39 : decode cX11_mean 39 = .ok (.iaload, 1) := by decide +kernel
theorem dX11_mean_40 : decode cX11_mean 40 = .ok (.ifCond .ne 6, 3) := by decide +kernel
theorem dX11_mean_43 : decode cX11_mean 43 = .ok (.goto 113, 3) := by decide +kernel
theorem dX11_mean_46 : decode cX11_mean 46 = .ok (.iconst (-1), 1) := by decide +kernel
theorem dX11_mean_47 : decode cX11_mean 47 = .ok (.istore 7, 2) := by decide +kernel
theorem dX11_mean_49 : decode cX11_mean 49 = .ok (.iconst 0, 1) := by decide +kernel
theorem dX11_mean_50 : decode cX11_mean 50 = .ok (.istore 8, 2) := by decide +kernel
theorem dX11_mean_52 : decode cX11_mean 52 = .ok (.iload 8, 2) := by decide +kernel
theorem dX11_mean_54 : decode cX11_mean 54 = .ok (.aload_n 0, 1) := by decide +kernel
theorem dX11_mean_55 : decode cX11_mean 55 = .ok (.getfield 22, 3) := by decide +kernel
theorem dX11_mean_58 : decode cX11_mean 58 = .ok (.if_icmp .ge 60, 3) := by decide +kernel
theorem dX11_mean_61 : decode cX11_mean 61 = .ok (.aload_n 0, 1) := by decide +kernel
theorem dX11_mean_62 : decode cX11_mean 62 = .ok (.getfield 9, 3) := by decide +kernel
theorem dX11_mean_65 : decode cX11_mean 65 = .ok (.iload 8, 2) := by decide +kernel
theorem dX11_mean_67 : decode cX11_mean 67 = .ok (.iaload, 1) := by decide +kernel
theorem dX11_mean_68 : decode cX11_mean 68 = .ok (.iconst 1, 1) := by decide +kernel
theorem dX11_mean_69 : decode cX11_mean 69 = .ok (.if_icmp .ne 43, 3) := by decide +kernel
theorem dX11_mean_72 : decode cX11_mean 72 = .ok (.aload_n 0, 1) := by decide +kernel
theorem dX11_mean_73 : decode cX11_mean 73 = .ok (.getfield 13, 3) := by decide +kernel
theorem dX11_mean_76 : decode cX11_mean 76 = .ok (.iload 8, 2) := by decide +kernel
theorem dX11_mean_78 : decode cX11_mean 78 = .ok (.iaload, 1) := by decide +kernel
theorem dX11_mean_79 : decode cX11_mean 79 = .ok (.bipush 97, 2) := by decide +kernel
theorem dX11_mean_81 : decode cX11_mean 81 = .ok (.iload 6, 2) := by decide +kernel
theorem dX11_mean_83 : decode cX11_mean 83 = .ok (.iadd, 1) := by decide +kernel
theorem dX11_mean_84 : decode cX11_mean 84 = .ok (.if_icmp .ne 28, 3) := by decide +kernel
theorem dX11_mean_87 : decode cX11_mean 87 = .ok (.iload 7, 2) := by decide +kernel
theorem dX11_mean_89 : decode cX11_mean 89 = .ok (.iconst (-1), 1) := by decide +kernel
theorem dX11_mean_90 : decode cX11_mean 90 = .ok (.if_icmp .eq 14, 3) := by decide +kernel
theorem dX11_mean_93 : decode cX11_mean 93 = .ok (.aload_n 0, 1) := by decide +kernel
theorem dX11_mean_94 : decode cX11_mean 94 = .ok (.iload 8, 2) := by decide +kernel
theorem dX11_mean_96 : decode cX11_mean 96 = .ok (.invokevirtual 207, 3) := by decide +kernel
theorem dX11_mean_99 : decode cX11_mean 99 = .ok (.iload 7, 2) := by decide +kernel
theorem dX11_mean_101 : decode cX11_mean 101 = .ok (.if_icmp .ge 11, 3) := by decide +kernel
theorem dX11_mean_104 : decode cX11_mean 104 = .ok (.aload_n 0, 1) := by decide +kernel
theorem dX11_mean_105 : decode cX11_mean 105 = .ok (.iload 8, 2) := by decide +kernel
theorem dX11_mean_107 : decode cX11_mean 107 = .ok (.invokevirtual 207, 3) := by decide +kernel
theorem dX11_mean_110 : decode cX11_mean 110 = .ok (.istore 7, 2) := by decide +kernel
theorem dX11_mean_112 : decode cX11_mean 112 = .ok (.iinc 8 1, 3) := by decide +kernel
theorem dX11_mean_115 : decode cX11_mean 115 = .ok (.goto (-63), 3) := by decide +kernel
theorem dX11_mean_118 : decode cX11_mean 118 = .ok (.iload 7, 2) := by decide +kernel
theorem dX11_mean_120 : decode cX11_mean 120 = .ok (.iconst (-1), 1) := by decide +kernel
theorem dX11_mean_121 : decode cX11_mean 121 = .ok (.if_icmp .ne 7, 3) := by decide +kernel
theorem dX11_mean_124 : decode cX11_mean 124 = .ok (.ldc2_w 210, 3) := by decide +kernel
theorem dX11_mean_127 : decode cX11_mean 127 = .ok (.lreturn, 1) := by decide +kernel
theorem dX11_mean_128 : decode cX11_mean 128 = .ok (.lload_n 2, 1) := by decide +kernel
theorem dX11_mean_129 : decode cX11_mean 129 = .ok (.aload_n 0, 1) := by decide +kernel
theorem dX11_mean_130 : decode cX11_mean 130 = .ok (.getfield 82, 3) := by decide +kernel
theorem dX11_mean_133 : decode cX11_mean 133 = .ok (.iload 6, 2) := by decide +kernel
theorem dX11_mean_135 : decode cX11_mean 135 = .ok (.iaload, 1) := by decide +kernel
theorem dX11_mean_136 : decode cX11_mean 136 = .ok (.i2l, 1) := by decide +kernel
theorem dX11_mean_137 : decode cX11_mean 137 = .ok (.iload 7, 2) := by decide +kernel
theorem dX11_mean_139 : decode cX11_mean 139 = .ok (.i2l, 1) := by decide +kernel
theorem dX11_mean_140 : decode cX11_mean 140 = .ok (.lmul, 1) := by decide +kernel
theorem dX11_mean_141 : decode cX11_mean 141 = .ok (.ladd, 1) := by decide +kernel
theorem dX11_mean_142 : decode cX11_mean 142 = .ok (.lstore_n 2, 1) := by decide +kernel
theorem dX11_mean_143 : decode cX11_mean 143 = .ok (.lload 4, 2) := by decide +kernel
theorem dX11_mean_145 : decode cX11_mean 145 = .ok (.aload_n 0, 1) := by decide +kernel
theorem dX11_mean_146 : decode cX11_mean 146 = .ok (.getfield 82, 3) := by decide +kernel
theorem dX11_mean_149 : decode cX11_mean 149 = .ok (.iload 6, 2) := by decide +kernel
theorem dX11_mean_151 : decode cX11_mean 151 = .ok (.iaload, 1) := by decide +kernel
theorem dX11_mean_152 : decode cX11_mean 152 = .ok (.i2l, 1) := by decide +kernel
theorem dX11_mean_153 : decode cX11_mean 153 = .ok (.ladd, 1) := by decide +kernel
theorem dX11_mean_154 : decode cX11_mean 154 = .ok (.lstore 4, 2) := by decide +kernel
theorem dX11_mean_156 : decode cX11_mean 156 = .ok (.iinc 6 1, 3) := by decide +kernel
theorem dX11_mean_159 : decode cX11_mean 159 = .ok (.goto (-133), 3) := by decide +kernel
theorem dX11_mean_162 : decode cX11_mean 162 = .ok (.lload 4, 2) := by decide +kernel
theorem dX11_mean_164 : decode cX11_mean 164 = .ok (.lconst 0, 1) := by decide +kernel
theorem dX11_mean_165 : decode cX11_mean 165 = .ok (.lcmp, 1) := by decide +kernel
theorem dX11_mean_166 : decode cX11_mean 166 = .ok (.ifCond .ne 7, 3) := by decide +kernel
theorem dX11_mean_169 : decode cX11_mean 169 = .ok (.ldc2_w 210, 3) := by decide +kernel
theorem dX11_mean_172 : decode cX11_mean 172 = .ok (.lreturn, 1) := by decide +kernel
theorem dX11_mean_173 : decode cX11_mean 173 = .ok (.lload_n 2, 1) := by decide +kernel
theorem dX11_mean_174 : decode cX11_mean 174 = .ok (.lstore 6, 2) := by decide +kernel
theorem dX11_mean_176 : decode cX11_mean 176 = .ok (.lload 4, 2) := by decide +kernel
theorem dX11_mean_178 : decode cX11_mean 178 = .ok (.lstore 8, 2) := by decide +kernel
theorem dX11_mean_180 : decode cX11_mean 180 = .ok (.lload 8, 2) := by decide +kernel
theorem dX11_mean_182 : decode cX11_mean 182 = .ok (.lconst 0, 1) := by decide +kernel
theorem dX11_mean_183 : decode cX11_mean 183 = .ok (.lcmp, 1) := by decide +kernel
theorem dX11_mean_184 : decode cX11_mean 184 = .ok (.ifCond .eq 21, 3) := by decide +kernel
theorem dX11_mean_187 : decode cX11_mean 187 = .ok (.lload 6, 2) := by decide +kernel
theorem dX11_mean_189 : decode cX11_mean 189 = .ok (.lload 8, 2) := by decide +kernel
theorem dX11_mean_191 : decode cX11_mean 191 = .ok (.lrem, 1) := by decide +kernel
theorem dX11_mean_192 : decode cX11_mean 192 = .ok (.lstore 10, 2) := by decide +kernel
theorem dX11_mean_194 : decode cX11_mean 194 = .ok (.lload 8, 2) := by decide +kernel
theorem dX11_mean_196 : decode cX11_mean 196 = .ok (.lstore 6, 2) := by decide +kernel
theorem dX11_mean_198 : decode cX11_mean 198 = .ok (.lload 10, 2) := by decide +kernel
theorem dX11_mean_200 : decode cX11_mean 200 = .ok (.lstore 8, 2) := by decide +kernel
theorem dX11_mean_202 : decode cX11_mean 202 = .ok (.goto (-22), 3) := by decide +kernel
theorem dX11_mean_205 : decode cX11_mean 205 = .ok (.iload_n 1, 1) := by decide +kernel
theorem dX11_mean_206 : decode cX11_mean 206 = .ok (.ifCond .ne 10, 3) := by decide +kernel
theorem dX11_mean_209 : decode cX11_mean 209 = .ok (.lload_n 2, 1) := by decide +kernel
theorem dX11_mean_210 : decode cX11_mean 210 = .ok (.lload 6, 2) := by decide +kernel
theorem dX11_mean_212 : decode cX11_mean 212 = .ok (.ldiv, 1) := by decide +kernel
theorem dX11_mean_213 : decode cX11_mean 213 = .ok (.goto 8, 3) := by decide +kernel
theorem dX11_mean_216 : decode cX11_mean 216 = .ok (.lload 4, 2) := by decide +kernel
theorem dX11_mean_218 : decode cX11_mean 218 = .ok (.lload 6, 2) := by decide +kernel
theorem dX11_mean_220 : decode cX11_mean 220 = .ok (.ldiv, 1) := by decide +kernel
theorem dX11_mean_221 : decode cX11_mean 221 = .ok (.lreturn, 1) := by decide +kernel
theorem dX11_weight_0 : decode cX11_weight 0 = .ok (.lconst 0, 1) := by decide +kernel
theorem dX11_weight_1 : decode cX11_weight 1 = .ok (.lstore_n 3, 1) := by decide +kernel
theorem dX11_weight_2 : decode cX11_weight 2 = .ok (.iload_n 1, 1) := by decide +kernel
theorem dX11_weight_3 : decode cX11_weight 3 = .ok (.istore 5, 2) := by decide +kernel
theorem dX11_weight_5 : decode cX11_weight 5 = .ok (.iload 5, 2) := by decide +kernel
theorem dX11_weight_7 : decode cX11_weight 7 = .ok (.iload_n 2, 1) := by decide +kernel
theorem dX11_weight_8 : decode cX11_weight 8 = .ok (.if_icmp .ge 30, 3) := by decide +kernel
theorem dX11_weight_11 : decode cX11_weight 11 = .ok (.lload_n 3, 1) := by decide +kernel
theorem dX11_weight_12 : decode cX11_weight 12 = .ok (.aload_n 0, 1) := by decide +kernel
theorem dX11_weight_13 : decode cX11_weight 13 = .ok (.getfield 82, 3) := by decide +kernel
theorem dX11_weight_16 : decode cX11_weight 16 = .ok (.aload_n 0, 1) := by decide +kernel
theorem dX11_weight_17 : decode cX11_weight 17 = .ok (.getfield 92, 3) := by decide +kernel
theorem dX11_weight_20 : decode cX11_weight 20 = .ok (.iload 5, 2) := by decide +kernel
theorem dX11_weight_22 : decode cX11_weight 22 = .ok (.baload, 1) := by decide +kernel
theorem dX11_weight_23 : decode cX11_weight 23 = .ok (.bipush 97, 2) := by decide +kernel
theorem dX11_weight_25 : decode cX11_weight 25 = .ok (.isub, 1) := by decide +kernel
theorem dX11_weight_26 : decode cX11_weight 26 = .ok (.iaload, 1) := by decide +kernel
theorem dX11_weight_27 : decode cX11_weight 27 = .ok (.iconst 1, 1) := by decide +kernel
theorem dX11_weight_28 : decode cX11_weight 28 = .ok (.iadd, 1) := by decide +kernel
theorem dX11_weight_29 : decode cX11_weight 29 = .ok (.i2l, 1) := by decide +kernel
theorem dX11_weight_30 : decode cX11_weight 30 = .ok (.ladd, 1) := by decide +kernel
theorem dX11_weight_31 : decode cX11_weight 31 = .ok (.lstore_n 3, 1) := by decide +kernel
theorem dX11_weight_32 : decode cX11_weight 32 = .ok (.iinc 5 1, 3) := by decide +kernel
theorem dX11_weight_35 : decode cX11_weight 35 = .ok (.goto (-30), 3) := by decide +kernel
theorem dX11_weight_38 : decode cX11_weight 38 = .ok (.lload_n 3, 1) := by decide +kernel
theorem dX11_weight_39 : decode cX11_weight 39 = .ok (.lreturn, 1) := by decide +kernel
theorem dX11_index_0 : decode cX11_index 0 = .ok (.bipush 27, 2) := by decide +kernel
theorem dX11_index_2 : decode cX11_index 2 = .ok (.iload_n 0, 1) := by decide +kernel
theorem dX11_index_3 : decode cX11_index 3 = .ok (.imul, 1) := by decide +kernel
theorem dX11_index_4 : decode cX11_index 4 = .ok (.iload_n 1, 1) := by decide +kernel
theorem dX11_index_5 : decode cX11_index 5 = .ok (.iadd, 1) := by decide +kernel
theorem dX11_index_6 : decode cX11_index 6 = .ok (.bipush 28, 2) := by decide +kernel
theorem dX11_index_8 : decode cX11_index 8 = .ok (.imul, 1) := by decide +kernel
theorem dX11_index_9 : decode cX11_index 9 = .ok (.iload_n 2, 1) := by decide +kernel
theorem dX11_index_10 : decode cX11_index 10 = .ok (.iadd, 1) := by decide +kernel
theorem dX11_index_11 : decode cX11_index 11 = .ok (.ireturn, 1) := by decide +kernel
theorem dX11_item_0 : decode cX11_item 0 = .ok (.aload_n 0, 1) := by decide +kernel
theorem dX11_item_1 : decode cX11_item 1 = .ok (.iload_n 1, 1) := by decide +kernel
theorem dX11_item_2 : decode cX11_item 2 = .ok (.iload_n 2, 1) := by decide +kernel
theorem dX11_item_3 : decode cX11_item 3 = .ok (.invokevirtual 212, 3) := by decide +kernel
theorem dX11_item_6 : decode cX11_item 6 = .ok (.aload_n 0, 1) := by decide +kernel
theorem dX11_item_7 : decode cX11_item 7 = .ok (.getfield 19, 3) := by decide +kernel
theorem dX11_item_10 : decode cX11_item 10 = .ok (.iconst 0, 1) := by decide +kernel
theorem dX11_item_11 : decode cX11_item 11 = .ok (.iaload, 1) := by decide +kernel
theorem dX11_item_12 : decode cX11_item 12 = .ok (.iload_n 3, 1) := by decide +kernel
theorem dX11_item_13 : decode cX11_item 13 = .ok (.imul, 1) := by decide +kernel
theorem dX11_item_14 : decode cX11_item 14 = .ok (.aload_n 0, 1) := by decide +kernel
theorem dX11_item_15 : decode cX11_item 15 = .ok (.getfield 19, 3) := by decide +kernel
theorem dX11_item_18 : decode cX11_item 18 = .ok (.iconst 4, 1) := by decide +kernel
theorem dX11_item_19 : decode cX11_item 19 = .ok (.iaload, 1) := by decide +kernel
theorem dX11_item_20 : decode cX11_item 20 = .ok (.iadd, 1) := by decide +kernel
theorem dX11_item_21 : decode cX11_item 21 = .ok (.i2l, 1) := by decide +kernel
theorem dX11_item_22 : decode cX11_item 22 = .ok (.lmul, 1) := by decide +kernel
theorem dX11_item_23 : decode cX11_item 23 = .ok (.iload_n 2, 1) := by decide +kernel
theorem dX11_item_24 : decode cX11_item 24 = .ok (.iload_n 1, 1) := by decide +kernel
theorem dX11_item_25 : decode cX11_item 25 = .ok (.isub, 1) := by decide +kernel
theorem dX11_item_26 : decode cX11_item 26 = .ok (.iconst 1, 1) := by decide +kernel
theorem dX11_item_27 : decode cX11_item 27 = .ok (.if_icmp .le 17, 3) := by decide +kernel
theorem dX11_item_30 : decode cX11_item 30 = .ok (.aload_n 0, 1) := by decide +kernel
theorem dX11_item_31 : decode cX11_item 31 = .ok (.getfield 89, 3) := by decide +kernel
theorem dX11_item_34 : decode cX11_item 34 = .ok (.bipush 27, 2) := by decide +kernel
theorem dX11_item_36 : decode cX11_item 36 = .ok (.iload_n 1, 1) := by decide +kernel
theorem dX11_item_37 : decode cX11_item 37 = .ok (.imul, 1) := by decide +kernel
theorem dX11_item_38 : decode cX11_item 38 = .ok (.iload_n 2, 1) := by decide +kernel
theorem dX11_item_39 : decode cX11_item 39 = .ok (.iadd, 1) := by decide +kernel
theorem dX11_item_40 : decode cX11_item 40 = .ok (.laload, 1) := by decide +kernel
theorem dX11_item_41 : decode cX11_item 41 = .ok (.goto 4, 3) := by decide +kernel
theorem dX11_item_44 : decode cX11_item 44 = .ok (.lconst 0, 1) := by decide +kernel
theorem dX11_item_45 : decode cX11_item 45 = .ok (.ladd, 1) := by decide +kernel
theorem dX11_item_46 : decode cX11_item 46 = .ok (.lreturn, 1) := by decide +kernel
theorem dX11_sums_0 : decode cX11_sums 0 = .ok (.iconst 0, 1) := by decide +kernel
theorem dX11_sums_1 : decode cX11_sums 1 = .ok (.istore_n 2, 1) := by decide +kernel
theorem dX11_sums_2 : decode cX11_sums 2 = .ok (.iload_n 2, 1) := by decide +kernel
theorem dX11_sums_3 : decode cX11_sums 3 = .ok (.iload_n 1, 1) := by decide +kernel
theorem dX11_sums_4 : decode cX11_sums 4 = .ok (.if_icmp .gt 219, 3) := by decide +kernel
theorem dX11_sums_7 : decode cX11_sums 7 = .ok (.iconst 0, 1) := by decide +kernel
theorem dX11_sums_8 : decode cX11_sums 8 = .ok (.istore_n 3, 1) := by decide +kernel
theorem dX11_sums_9 : decode cX11_sums 9 = .ok (.iload_n 3, 1) := by decide +kernel
theorem dX11_sums_10 : decode cX11_sums 10 = .ok (.iload_n 2, 1) := by decide +kernel
theorem dX11_sums_11 : decode cX11_sums 11 = .ok (.iadd, 1) := by decide +kernel
theorem dX11_sums_12 : decode cX11_sums 12 = .ok (.iload_n 1, 1) := by decide +kernel
theorem dX11_sums_13 : decode cX11_sums 13 = .ok (.if_icmp .gt 204, 3) := by decide +kernel
theorem dX11_sums_16 : decode cX11_sums 16 = .ok (.iload_n 3, 1) := by decide +kernel
theorem dX11_sums_17 : decode cX11_sums 17 = .ok (.iload_n 2, 1) := by decide +kernel
theorem dX11_sums_18 : decode cX11_sums 18 = .ok (.iadd, 1) := by decide +kernel
theorem dX11_sums_19 : decode cX11_sums 19 = .ok (.istore 4, 2) := by decide +kernel
theorem dX11_sums_21 : decode cX11_sums 21 = .ok (.iload_n 2, 1) := by decide +kernel
theorem dX11_sums_22 : decode cX11_sums 22 = .ok (.iconst 1, 1) := by decide +kernel
theorem dX11_sums_23 : decode cX11_sums 23 = .ok (.if_icmp .le 69, 3) := by decide +kernel
theorem dX11_sums_26 : decode cX11_sums 26 = .ok (.ldc2_w 218, 3) := by decide +kernel
theorem dX11_sums_29 : decode cX11_sums 29 = .ok (.lstore 5, 2) := by decide +kernel
theorem dX11_sums_31 : decode cX11_sums 31 = .ok (.iload_n 3, 1) := by decide +kernel
theorem dX11_sums_32 : decode cX11_sums 32 = .ok (.iconst 1, 1) := by decide +kernel
theorem dX11_sums_33 : decode cX11_sums 33 = .ok (.iadd, 1) := by decide +kernel
theorem dX11_sums_34 : decode cX11_sums 34 = .ok (.istore 7, 2) := by decide +kernel
theorem dX11_sums_36 : decode cX11_sums 36 = .ok (.iload 7, 2) := by decide +kernel
theorem dX11_sums_38 : decode cX11_sums 38 = .ok (.iload 4, 2) := by decide +kernel
theorem dX11_sums_40 : decode cX11_sums 40 = .ok (.if_icmp .ge 38, 3) := by decide +kernel
theorem dX11_sums_43 : decode cX11_sums 43 = .ok (.lload 5, 2) := by decide +kernel
theorem dX11_sums_45 : decode cX11_sums 45 = .ok (.aload_n 0, 1) := by decide +kernel
theorem dX11_sums_46 : decode cX11_sums 46 = .ok (.iload_n 3, 1) := by decide +kernel
theorem dX11_sums_47 : decode cX11_sums 47 = .ok (.iload 7, 2) := by decide +kernel
theorem dX11_sums_49 : decode cX11_sums 49 = .ok (.iconst 1, 1) := by decide +kernel
theorem dX11_sums_50 : decode cX11_sums 50 = .ok (.invokevirtual 220, 3) := by decide +kernel
theorem dX11_sums_53 : decode cX11_sums 53 = .ok (.aload_n 0, 1) := by decide +kernel
theorem dX11_sums_54 : decode cX11_sums 54 = .ok (.getfield 85, 3) := by decide +kernel
theorem dX11_sums_57 : decode cX11_sums 57 = .ok (.iload 7, 2) := by decide +kernel
theorem dX11_sums_59 : decode cX11_sums 59 = .ok (.iload 4, 2) := by decide +kernel
theorem dX11_sums_61 : decode cX11_sums 61 = .ok (.iconst 2, 1) := by decide +kernel
theorem dX11_sums_62 : decode cX11_sums 62 = .ok (.invokestatic 224, 3) := by decide +kernel
theorem dX11_sums_65 : decode cX11_sums 65 = .ok (.laload, 1) := by decide +kernel
theorem dX11_sums_66 : decode cX11_sums 66 = .ok (.ladd, 1) := by decide +kernel
theorem dX11_sums_67 : decode cX11_sums 67 = .ok (.invokestatic 227, 3) := by decide +kernel
theorem dX11_sums_70 : decode cX11_sums 70 = .ok (.lstore 5, 2) := by decide +kernel
theorem dX11_sums_72 : decode cX11_sums 72 = .ok (.iinc 7 1, 3) := by decide +kernel
theorem dX11_sums_75 : decode cX11_sums 75 = .ok (.goto (-39), 3) := by decide +kernel
theorem dX11_sums_78 : decode cX11_sums 78 = .ok (.aload_n 0, 1) := by decide +kernel
theorem dX11_sums_79 : decode cX11_sums 79 = .ok (.getfield 89, 3) := by decide +kernel
theorem dX11_sums_82 : decode cX11_sums 82 = .ok (.bipush 27, 2) := by decide +kernel
theorem dX11_sums_84 : decode cX11_sums 84 = .ok (.iload_n 3, 1) := by decide +kernel
theorem dX11_sums_85 : decode cX11_sums 85 = .ok (.imul, 1) := by decide +kernel
theorem dX11_sums_86 : decode cX11_sums 86 = .ok (.iload 4, 2) := by decide +kernel
theorem dX11_sums_88 : decode cX11_sums 88 = .ok (.iadd, 1) := by decide +kernel
theorem dX11_sums_89 : decode cX11_sums 89 = .ok (.lload 5, 2) := by decide +kernel
theorem dX11_sums_91 : decode cX11_sums 91 = .ok (.lastore, 1) := by decide +kernel
theorem dX11_sums_92 : decode cX11_sums 92 = .ok (.bipush 27, 2) := by decide +kernel
theorem dX11_sums_94 : decode cX11_sums 94 = .ok (.istore 5, 2) := by decide +kernel
theorem dX11_sums_96 : decode cX11_sums 96 = .ok (.iload 5, 2) := by decide +kernel
theorem dX11_sums_98 : decode cX11_sums 98 = .ok (.iconst 1, 1) := by decide +kernel
theorem dX11_sums_99 : decode cX11_sums 99 = .ok (.if_icmp .lt 112, 3) := by decide +kernel
theorem dX11_sums_102 : decode cX11_sums 102 = .ok (.iload_n 2, 1) := by decide +kernel
theorem dX11_sums_103 : decode cX11_sums 103 = .ok (.ifCond .ne 7, 3) := by decide +kernel
theorem dX11_sums_106 : decode cX11_sums 106 = .ok (.lconst 0, 1) := by decide +kernel
theorem dX11_sums_107 : decode cX11_sums 107 = .ok (.goto 6, 3) := by decide +kernel
theorem dX11_sums_110 : decode cX11_sums 110 = .ok (.ldc2_w 218, 3) := by decide +kernel
theorem dX11_sums_113 : decode cX11_sums 113 = .ok (.lstore 6, 2) := by decide +kernel
theorem dX11_sums_115 : decode cX11_sums 115 = .ok (.iload_n 3, 1) := by decide +kernel
theorem dX11_sums_116 : decode cX11_sums 116 = .ok (.iconst 1, 1) := by decide +kernel
theorem dX11_sums_117 : decode cX11_sums 117 = .ok (.iadd, 1) := by decide +kernel
theorem dX11_sums_118 : decode cX11_sums 118 = .ok (.istore 8, 2) := by decide +kernel
theorem dX11_sums_120 : decode cX11_sums 120 = .ok (.iload 8, 2) := by decide +kernel
theorem dX11_sums_122 : decode cX11_sums 122 = .ok (.iload 4, 2) := by decide +kernel
theorem dX11_sums_124 : decode cX11_sums 124 = .ok (.if_icmp .gt 49, 3) := by decide +kernel
theorem dX11_sums_127 : decode cX11_sums 127 = .ok (.iload 5, 2) := by decide +kernel
theorem dX11_sums_129 : decode cX11_sums 129 = .ok (.bipush 27, 2) := by decide +kernel
theorem dX11_sums_131 : decode cX11_sums 131 = .ok (.if_icmp .ge 42, 3) := by decide +kernel
theorem dX11_sums_134 : decode cX11_sums 134 = .ok (.lload 6, 2) := by decide +kernel
theorem dX11_sums_136 : decode cX11_sums 136 = .ok (.aload_n 0, 1) := by decide +kernel
theorem dX11_sums_137 : decode cX11_sums 137 = .ok (.iload_n 3, 1) := by decide +kernel
theorem dX11_sums_138 : decode cX11_sums 138 = .ok (.iload 8, 2) := by decide +kernel
theorem dX11_sums_140 : decode cX11_sums 140 = .ok (.iload 5, 2) := by decide +kernel
theorem dX11_sums_142 : decode cX11_sums 142 = .ok (.invokevirtual 220, 3) := by decide +kernel
theorem dX11_sums_145 : decode cX11_sums 145 = .ok (.aload_n 0, 1) := by decide +kernel
theorem dX11_sums_146 : decode cX11_sums 146 = .ok (.getfield 85, 3) := by decide +kernel
theorem dX11_sums_149 : decode cX11_sums 149 = .ok (.iload 8, 2) := by decide +kernel
theorem dX11_sums_151 : decode cX11_sums 151 = .ok (.iload 4, 2) := by decide +kernel
theorem dX11_sums_153 : decode cX11_sums 153 = .ok (.iload 5, 2) := by decide +kernel
theorem dX11_sums_155 : decode cX11_sums 155 = .ok (.iconst 1, 1) := by decide +kernel
theorem dX11_sums_156 : decode cX11_sums 156 = .ok (.iadd, 1) := by decide +kernel
theorem dX11_sums_157 : decode cX11_sums 157 = .ok (.invokestatic 224, 3) := by decide +kernel
theorem dX11_sums_160 : decode cX11_sums 160 = .ok (.laload, 1) := by decide +kernel
theorem dX11_sums_161 : decode cX11_sums 161 = .ok (.ladd, 1) := by decide +kernel
theorem dX11_sums_162 : decode cX11_sums 162 = .ok (.invokestatic 227, 3) := by decide +kernel
theorem dX11_sums_165 : decode cX11_sums 165 = .ok (.lstore 6, 2) := by decide +kernel
theorem dX11_sums_167 : decode cX11_sums 167 = .ok (.iinc 8 1, 3) := by decide +kernel
theorem dX11_sums_170 : decode cX11_sums 170 = .ok (.goto (-50), 3) := by decide +kernel
theorem dX11_sums_173 : decode cX11_sums 173 = .ok (.aload_n 0, 1) := by decide +kernel
theorem dX11_sums_174 : decode cX11_sums 174 = .ok (.getfield 85, 3) := by decide +kernel
theorem dX11_sums_177 : decode cX11_sums 177 = .ok (.iload_n 3, 1) := by decide +kernel
theorem dX11_sums_178 : decode cX11_sums 178 = .ok (.iload 4, 2) := by decide +kernel
theorem dX11_sums_180 : decode cX11_sums 180 = .ok (.iload 5, 2) := by decide +kernel
theorem dX11_sums_182 : decode cX11_sums 182 = .ok (.invokestatic 224, 3) := by decide +kernel
theorem dX11_sums_185 : decode cX11_sums 185 = .ok (.iload 5, 2) := by decide +kernel
theorem dX11_sums_187 : decode cX11_sums 187 = .ok (.bipush 27, 2) := by decide +kernel
theorem dX11_sums_189 : decode cX11_sums 189 = .ok (.if_icmp .ne 13, 3) := by decide +kernel
theorem dX11_sums_192 : decode cX11_sums 192 = .ok (.iload_n 2, 1) := by decide +kernel
theorem dX11_sums_193 : decode cX11_sums 193 = .ok (.ifCond .le 9, 3) := by decide +kernel
theorem dX11_sums_196 : decode cX11_sums 196 = .ok (.ldc2_w 233, 3) := by decide +kernel
theorem dX11_sums_199 : decode cX11_sums 199 = .ok (.goto 5, 3) := by decide +kernel
theorem dX11_sums_202 : decode cX11_sums 202 = .ok (.lload 6, 2) := by decide +kernel
theorem dX11_sums_204 : decode cX11_sums 204 = .ok (.lastore, 1) := by decide +kernel
theorem dX11_sums_205 : decode cX11_sums 205 = .ok (.iinc 5 (-1), 3) := by decide +kernel
theorem dX11_sums_208 : decode cX11_sums 208 = .ok (.goto (-112), 3) := by decide +kernel
theorem dX11_sums_211 : decode cX11_sums 211 = .ok (.iinc 3 1, 3) := by decide +kernel
theorem dX11_sums_214 : decode cX11_sums 214 = .ok (.goto (-205), 3) := by decide +kernel
theorem dX11_sums_217 : decode cX11_sums 217 = .ok (.iinc 2 1, 3) := by decide +kernel
theorem dX11_sums_220 : decode cX11_sums 220 = .ok (.goto (-218), 3) := by decide +kernel
theorem dX11_sums_223 : decode cX11_sums 223 = .ok (.return_, 1) := by decide +kernel
theorem dX11_lays_0 : decode cX11_lays 0 = .ok (.iload_n 2, 1) := by decide +kernel
theorem dX11_lays_1 : decode cX11_lays 1 = .ok (.istore 6, 2) := by decide +kernel
theorem dX11_lays_3 : decode cX11_lays 3 = .ok (.iload 4, 2) := by decide +kernel
theorem dX11_lays_5 : decode cX11_lays 5 = .ok (.istore 7, 2) := by decide +kernel
theorem dX11_lays_7 : decode cX11_lays 7 = .ok (.iload 5, 2) := by decide +kernel
theorem dX11_lays_9 : decode cX11_lays 9 = .ok (.istore 8, 2) := by decide +kernel
theorem dX11_lays_11 : decode cX11_lays 11 = .ok (.iload 6, 2) := by decide +kernel
theorem dX11_lays_13 : decode cX11_lays 13 = .ok (.iload_n 3, 1) := by decide +kernel
theorem dX11_lays_14 : decode cX11_lays 14 = .ok (.if_icmp .ge 143, 3) := by decide +kernel
theorem dX11_lays_17 : decode cX11_lays 17 = .ok (.iload 8, 2) := by decide +kernel
theorem dX11_lays_19 : decode cX11_lays 19 = .ok (.ifCond .eq 18, 3) := by decide +kernel
theorem dX11_lays_22 : decode cX11_lays 22 = .ok (.aload_n 0, 1) := by decide +kernel
theorem dX11_lays_23 : decode cX11_lays 23 = .ok (.getfield 89, 3) := by decide +kernel
theorem dX11_lays_26 : decode cX11_lays 26 = .ok (.bipush 27, 2) := by decide +kernel
theorem dX11_lays_28 : decode cX11_lays 28 = .ok (.iload 6, 2) := by decide +kernel
theorem dX11_lays_30 : decode cX11_lays 30 = .ok (.imul, 1) := by decide +kernel
theorem dX11_lays_31 : decode cX11_lays 31 = .ok (.iload_n 3, 1) := by decide +kernel
theorem dX11_lays_32 : decode cX11_lays 32 = .ok (.iadd, 1) := by decide +kernel
theorem dX11_lays_33 : decode cX11_lays 33 = .ok (.laload, 1) := by decide +kernel
theorem dX11_lays_34 : decode cX11_lays 34 = .ok (.goto 16, 3) := by decide +kernel
theorem dX11_lays_37 : decode cX11_lays 37 = .ok (.aload_n 0, 1) := by decide +kernel
theorem dX11_lays_38 : decode cX11_lays 38 = .ok (.getfield 85, 3) := by decide +kernel
theorem dX11_lays_41 : decode cX11_lays 41 = .ok (.iload 6, 2) := by decide +kernel
theorem dX11_lays_43 : decode cX11_lays 43 = .ok (.iload_n 3, 1) := by decide +kernel
theorem dX11_lays_44 : decode cX11_lays 44 = .ok (.iload 7, 2) := by decide +kernel
theorem dX11_lays_46 : decode cX11_lays 46 = .ok (.invokestatic 224, 3) := by decide +kernel
theorem dX11_lays_49 : decode cX11_lays 49 = .ok (.laload, 1) := by decide +kernel
theorem dX11_lays_50 : decode cX11_lays 50 = .ok (.lstore 9, 2) := by decide +kernel
theorem dX11_lays_52 : decode cX11_lays 52 = .ok (.iload 6, 2) := by decide +kernel
theorem dX11_lays_54 : decode cX11_lays 54 = .ok (.iconst 1, 1) := by decide +kernel
theorem dX11_lays_55 : decode cX11_lays 55 = .ok (.iadd, 1) := by decide +kernel
theorem dX11_lays_56 : decode cX11_lays 56 = .ok (.istore 11, 2) := by decide +kernel
theorem dX11_lays_58 : decode cX11_lays 58 = .ok (.aload_n 0, 1) := by decide +kernel
theorem dX11_lays_59 : decode cX11_lays 59 = .ok (.iload 6, 2) := by decide +kernel
theorem dX11_lays_61 : decode cX11_lays 61 = .ok (.iload 11, 2) := by decide +kernel
theorem dX11_lays_63 : decode cX11_lays 63 = .ok (.iload 7, 2) := by decide +kernel
theorem dX11_lays_65 : decode cX11_lays 65 = .ok (.invokevirtual 220, 3) := by decide +kernel
theorem dX11_lays_68 : decode cX11_lays 68 = .ok (.aload_n 0, 1) := by decide +kernel
theorem dX11_lays_69 : decode cX11_lays 69 = .ok (.getfield 85, 3) := by decide +kernel
theorem dX11_lays_72 : decode cX11_lays 72 = .ok (.iload 11, 2) := by decide +kernel
theorem dX11_lays_74 : decode cX11_lays 74 = .ok (.iload_n 3, 1) := by decide +kernel
theorem dX11_lays_75 : decode cX11_lays 75 = .ok (.iload 7, 2) := by decide +kernel
theorem dX11_lays_77 : decode cX11_lays 77 = .ok (.iconst 1, 1) := by decide +kernel
theorem dX11_lays_78 : decode cX11_lays 78 = .ok (.iadd, 1) := by decide +kernel
theorem dX11_lays_79 : decode cX11_lays 79 = .ok (.invokestatic 224, 3) := by decide +kernel
theorem dX11_lays_82 : decode cX11_lays 82 = .ok (.laload, 1) := by decide +kernel
theorem dX11_lays_83 : decode cX11_lays 83 = .ok (.ladd, 1) := by decide +kernel
theorem dX11_lays_84 : decode cX11_lays 84 = .ok (.lload 9, 2) := by decide +kernel
theorem dX11_lays_86 : decode cX11_lays 86 = .ok (.lcmp, 1) := by decide +kernel
theorem dX11_lays_87 : decode cX11_lays 87 = .ok (.ifCond .eq 9, 3) := by decide +kernel
theorem dX11_lays_90 : decode cX11_lays 90 = .ok (.iinc 11 1, 3) := by decide +kernel
theorem dX11_lays_93 : decode cX11_lays 93 = .ok (.goto (-35), 3) := by decide +kernel
theorem dX11_lays_96 : decode cX11_lays 96 = .ok (.iload 11, 2) := by decide +kernel
theorem dX11_lays_98 : decode cX11_lays 98 = .ok (.iload 6, 2) := by decide +kernel
theorem dX11_lays_100 : decode cX11_lays 100 = .ok (.isub, 1) := by decide +kernel
theorem dX11_lays_101 : decode cX11_lays 101 = .ok (.iconst 1, 1) := by decide +kernel
theorem dX11_lays_102 : decode cX11_lays 102 = .ok (.if_icmp .ne 21, 3) := by decide +kernel
theorem dX11_lays_105 : decode cX11_lays 105 = .ok (.aload_n 0, 1) := by decide +kernel
theorem dX11_lays_106 : decode cX11_lays 106 = .ok (.iload_n 1, 1) := by decide +kernel
theorem dX11_lays_107 : decode cX11_lays 107 = .ok (.iconst 1, 1) := by decide +kernel
theorem dX11_lays_108 : decode cX11_lays 108 = .ok (.aload_n 0, 1) := by decide +kernel
theorem dX11_lays_109 : decode cX11_lays 109 = .ok (.getfield 92, 3) := by decide +kernel
theorem dX11_lays_112 : decode cX11_lays 112 = .ok (.iload 6, 2) := by decide +kernel
theorem dX11_lays_114 : decode cX11_lays 114 = .ok (.baload, 1) := by decide +kernel
theorem dX11_lays_115 : decode cX11_lays 115 = .ok (.invokevirtual 127, 3) := by decide +kernel
theorem dX11_lays_118 : decode cX11_lays 118 = .ok (.istore 12, 2) := by decide +kernel
theorem dX11_lays_120 : decode cX11_lays 120 = .ok (.goto 24, 3) := by decide +kernel
theorem dX11_lays_123 : decode cX11_lays 123 = .ok (.aload_n 0, 1) := by decide +kernel
theorem dX11_lays_124 : decode cX11_lays 124 = .ok (.iload_n 1, 1) := by decide +kernel
theorem dX11_lays_125 : decode cX11_lays 125 = .ok (.iconst 0, 1) := by decide +kernel
theorem dX11_lays_126 : decode cX11_lays 126 = .ok (.iconst (-1), 1) := by decide +kernel
theorem dX11_lays_127 : decode cX11_lays 127 = .ok (.invokevirtual 127, 3) := by decide +kernel
theorem dX11_lays_130 : decode cX11_lays 130 = .ok (.istore 12, 2) := by decide +kernel
theorem dX11_lays_132 : decode cX11_lays 132 = .ok (.aload_n 0, 1) := by decide +kernel
theorem dX11_lays_133 : decode cX11_lays 133 = .ok (.iload 12, 2) := by decide +kernel
theorem dX11_lays_135 : decode cX11_lays 135 = .ok (.iload 6, 2) := by decide +kernel
theorem dX11_lays_137 : decode cX11_lays 137 = .ok (.iload 11, 2) := by decide +kernel
theorem dX11_lays_139 : decode cX11_lays 139 = .ok (.iconst 1, 1) := by decide +kernel
theorem dX11_lays_140 : decode cX11_lays 140 = .ok (.iconst 1, 1) := by decide +kernel
theorem dX11_lays_141 : decode cX11_lays 141 = .ok (.invokevirtual 235, 3) := by decide +kernel
theorem dX11_lays_144 : decode cX11_lays 144 = .ok (.iconst 0, 1) := by decide +kernel
theorem dX11_lays_145 : decode cX11_lays 145 = .ok (.istore 8, 2) := by decide +kernel
theorem dX11_lays_147 : decode cX11_lays 147 = .ok (.iload 11, 2) := by decide +kernel
theorem dX11_lays_149 : decode cX11_lays 149 = .ok (.istore 6, 2) := by decide +kernel
theorem dX11_lays_151 : decode cX11_lays 151 = .ok (.iinc 7 1, 3) := by decide +kernel
theorem dX11_lays_154 : decode cX11_lays 154 = .ok (.goto (-143), 3) := by decide +kernel
theorem dX11_lays_157 : decode cX11_lays 157 = .ok (.return_, 1) := by decide +kernel
theorem dX11_lay_0 : decode cX11_lay 0 = .ok (.aload_n 0, 1) := by decide +kernel
theorem dX11_lay_1 : decode cX11_lay 1 = .ok (.iconst 0, 1) := by decide +kernel
theorem dX11_lay_2 : decode cX11_lay 2 = .ok (.putfield 98, 3) := by decide +kernel
theorem dX11_lay_5 : decode cX11_lay 5 = .ok (.aload_n 0, 1) := by decide +kernel
theorem dX11_lay_6 : decode cX11_lay 6 = .ok (.invokevirtual 187, 3) := by decide +kernel
theorem dX11_lay_9 : decode cX11_lay 9 = .ok (.ifCond .ne 5, 3) := by decide +kernel
theorem dX11_lay_12 : decode cX11_lay 12 = .ok (.iconst (-1), 1) := by decide +kernel
theorem dX11_lay_13 : decode cX11_lay 13 = .ok (.ireturn, 1) := by decide +kernel
theorem dX11_lay_14 : decode cX11_lay 14 = .ok (.iconst 0, 1) := by decide +kernel
theorem dX11_lay_15 : decode cX11_lay 15 = .ok (.istore_n 1, 1) := by decide +kernel
theorem dX11_lay_16 : decode cX11_lay 16 = .ok (.iload_n 1, 1) := by decide +kernel
theorem dX11_lay_17 : decode cX11_lay 17 = .ok (.aload_n 0, 1) := by decide +kernel
theorem dX11_lay_18 : decode cX11_lay 18 = .ok (.getfield 181, 3) := by decide +kernel
theorem dX11_lay_21 : decode cX11_lay 21 = .ok (.if_icmp .ge 39, 3) := by decide +kernel
theorem dX11_lay_24 : decode cX11_lay 24 = .ok (.iconst 0, 1) := by decide +kernel
theorem dX11_lay_25 : decode cX11_lay 25 = .ok (.istore_n 2, 1) := by decide +kernel
theorem dX11_lay_26 : decode cX11_lay 26 = .ok (.iload_n 2, 1) := by decide +kernel
theorem dX11_lay_27 : decode cX11_lay 27 = .ok (.iload_n 1, 1) := by decide +kernel
theorem dX11_lay_28 : decode cX11_lay 28 = .ok (.if_icmp .ge 26, 3) := by decide +kernel
theorem dX11_lay_31 : decode cX11_lay 31 = .ok (.aload_n 0, 1) := by decide +kernel
theorem dX11_lay_32 : decode cX11_lay 32 = .ok (.getfield 67, 3) := by decide +kernel
theorem dX11_lay_35 : decode cX11_lay 35 = .ok (.iload_n 1, 1) := by decide +kernel
theorem dX11_lay_36 : decode cX11_lay 36 = .ok (.baload, 1) := by decide +kernel
theorem dX11_lay_37 : decode cX11_lay 37 = .ok (.aload_n 0, 1) := by decide +kernel
theorem dX11_lay_38 : decode cX11_lay 38 = .ok (.getfield 67, 3) := by decide +kernel
theorem dX11_lay_41 : decode cX11_lay 41 = .ok (.iload_n 2, 1) := by decide +kernel
theorem dX11_lay_42 : decode cX11_lay 42 = .ok (.baload, 1) := by decide +kernel
theorem dX11_lay_43 : decode cX11_lay 43 = .ok (.if_icmp .ne 5, 3) := by decide +kernel
theorem dX11_lay_46 : decode cX11_lay 46 = .ok (.iconst (-1), 1) := by decide +kernel
theorem dX11_lay_47 : decode cX11_lay 47 = .ok (.ireturn, 1) := by decide +kernel
theorem dX11_lay_48 : decode cX11_lay 48 = .ok (.iinc 2 1, 3) := by decide +kernel
theorem dX11_lay_51 : decode cX11_lay 51 = .ok (.goto (-25), 3) := by decide +kernel
theorem dX11_lay_54 : decode cX11_lay 54 = .ok (.iinc 1 1, 3) := by decide +kernel
theorem dX11_lay_57 : decode cX11_lay 57 = .ok (.goto (-41), 3) := by decide +kernel
theorem dX11_lay_60 : decode cX11_lay 60 = .ok (.aload_n 0, 1) := by decide +kernel
theorem dX11_lay_61 : decode cX11_lay 61 = .ok (.getfield 181, 3) := by decide +kernel
theorem dX11_lay_64 : decode cX11_lay 64 = .ok (.istore_n 1, 1) := by decide +kernel
theorem dX11_lay_65 : decode cX11_lay 65 = .ok (.iconst 0, 1) := by decide +kernel
theorem dX11_lay_66 : decode cX11_lay 66 = .ok (.istore_n 2, 1) := by decide +kernel
theorem dX11_lay_67 : decode cX11_lay 67 = .ok (.iload_n 2, 1) := by decide +kernel
theorem dX11_lay_68 : decode cX11_lay 68 = .ok (.iload_n 1, 1) := by decide +kernel
theorem dX11_lay_69 : decode cX11_lay 69 = .ok (.if_icmp .ge 21, 3) := by decide +kernel
theorem dX11_lay_72 : decode cX11_lay 72 = .ok (.aload_n 0, 1) := by decide +kernel
theorem dX11_lay_73 : decode cX11_lay 73 = .ok (.getfield 92, 3) := by decide +kernel
theorem dX11_lay_76 : decode cX11_lay 76 = .ok (.iload_n 2, 1) := by decide +kernel
theorem dX11_lay_77 : decode cX11_lay 77 = .ok (.aload_n 0, 1) := by decide +kernel
theorem dX11_lay_78 : decode cX11_lay 78 = .ok (.getfield 67, 3) := by decide +kernel
theorem dX11_lay_81 : decode cX11_lay 81 = .ok (.iload_n 2, 1) := by decide +kernel
theorem dX11_lay_82 : decode cX11_lay 82 = .ok (.baload, 1) := by decide +kernel
theorem dX11_lay_83 : decode cX11_lay 83 = .ok (.bastore, 1) := by decide +kernel
theorem dX11_lay_84 : decode cX11_lay 84 = .ok (.iinc 2 1, 3) := by decide +kernel
theorem dX11_lay_87 : decode cX11_lay 87 = .ok (.goto (-20), 3) := by decide +kernel
theorem dX11_lay_90 : decode cX11_lay 90 = .ok (.aload_n 0, 1) := by decide +kernel
theorem dX11_lay_91 : decode cX11_lay 91 = .ok (.iconst 0, 1) := by decide +kernel
theorem dX11_lay_92 : decode cX11_lay 92 = .ok (.putfield 181, 3) := by decide +kernel
theorem dX11_lay_95 : decode cX11_lay 95 = .ok (.aload_n 0, 1) := by decide +kernel
theorem dX11_lay_96 : decode cX11_lay 96 = .ok (.iload_n 1, 1) := by decide +kernel
theorem dX11_lay_97 : decode cX11_lay 97 = .ok (.invokevirtual 239, 3) := by decide +kernel
theorem dX11_lay_100 : decode cX11_lay 100 = .ok (.aload_n 0, 1) := by decide +kernel
theorem dX11_lay_101 : decode cX11_lay 101 = .ok (.iconst 1, 1) := by decide +kernel
theorem dX11_lay_102 : decode cX11_lay 102 = .ok (.putfield 22, 3) := by decide +kernel
theorem dX11_lay_105 : decode cX11_lay 105 = .ok (.aload_n 0, 1) := by decide +kernel
theorem dX11_lay_106 : decode cX11_lay 106 = .ok (.iconst 0, 1) := by decide +kernel
theorem dX11_lay_107 : decode cX11_lay 107 = .ok (.iconst 0, 1) := by decide +kernel
theorem dX11_lay_108 : decode cX11_lay 108 = .ok (.iload_n 1, 1) := by decide +kernel
theorem dX11_lay_109 : decode cX11_lay 109 = .ok (.iconst 1, 1) := by decide +kernel
theorem dX11_lay_110 : decode cX11_lay 110 = .ok (.iload_n 1, 1) := by decide +kernel
theorem dX11_lay_111 : decode cX11_lay 111 = .ok (.iconst 1, 1) := by decide +kernel
theorem dX11_lay_112 : decode cX11_lay 112 = .ok (.if_icmp .le 7, 3) := by decide +kernel
theorem dX11_lay_115 : decode cX11_lay 115 = .ok (.iconst 1, 1) := by decide +kernel
theorem dX11_lay_116 : decode cX11_lay 116 = .ok (.goto 4, 3) := by decide +kernel
theorem dX11_lay_119 : decode cX11_lay 119 = .ok (.iconst 0, 1) := by decide +kernel
theorem dX11_lay_120 : decode cX11_lay 120 = .ok (.invokevirtual 235, 3) := by decide +kernel
theorem dX11_lay_123 : decode cX11_lay 123 = .ok (.aload_n 0, 1) := by decide +kernel
theorem dX11_lay_124 : decode cX11_lay 124 = .ok (.invokevirtual 95, 3) := by decide +kernel
theorem dX11_lay_127 : decode cX11_lay 127 = .ok (.aload_n 0, 1) := by decide +kernel
theorem dX11_lay_128 : decode cX11_lay 128 = .ok (.iconst 0, 1) := by decide +kernel
theorem dX11_lay_129 : decode cX11_lay 129 = .ok (.invokevirtual 131, 3) := by decide +kernel
theorem dX11_lay_132 : decode cX11_lay 132 = .ok (.iload_n 1, 1) := by decide +kernel
theorem dX11_lay_133 : decode cX11_lay 133 = .ok (.iconst 1, 1) := by decide +kernel
theorem dX11_lay_134 : decode cX11_lay 134 = .ok (.if_icmp .le 12, 3) := by decide +kernel
theorem dX11_lay_137 : decode cX11_lay 137 = .ok (.aload_n 0, 1) := by decide +kernel
theorem dX11_lay_138 : decode cX11_lay 138 = .ok (.getfield 89, 3) := by decide +kernel
theorem dX11_lay_141 : decode cX11_lay 141 = .ok (.iload_n 1, 1) := by decide +kernel
theorem dX11_lay_142 : decode cX11_lay 142 = .ok (.laload, 1) := by decide +kernel
theorem dX11_lay_143 : decode cX11_lay 143 = .ok (.goto 14, 3) := by decide +kernel
theorem dX11_lay_146 : decode cX11_lay 146 = .ok (.aload_n 0, 1) := by decide +kernel
theorem dX11_lay_147 : decode cX11_lay 147 = .ok (.getfield 85, 3) := by decide +kernel
theorem dX11_lay_150 : decode cX11_lay 150 = .ok (.iconst 0, 1) := by decide +kernel
theorem dX11_lay_151 : decode cX11_lay 151 = .ok (.iconst 1, 1) := by decide +kernel
theorem dX11_lay_152 : decode cX11_lay 152 = .ok (.iconst 1, 1) := by decide +kernel
theorem dX11_lay_153 : decode cX11_lay 153 = .ok (.invokestatic 224, 3) := by decide +kernel
theorem dX11_lay_156 : decode cX11_lay 156 = .ok (.laload, 1) := by decide +kernel
theorem dX11_lay_157 : decode cX11_lay 157 = .ok (.l2i, 1) := by decide +kernel
theorem dX11_lay_158 : decode cX11_lay 158 = .ok (.ireturn, 1) := by decide +kernel
theorem dX11_count_0 : decode cX11_count 0 = .ok (.aload_n 0, 1) := by decide +kernel
theorem dX11_count_1 : decode cX11_count 1 = .ok (.iconst 0, 1) := by decide +kernel
theorem dX11_count_2 : decode cX11_count 2 = .ok (.putfield 98, 3) := by decide +kernel
theorem dX11_count_5 : decode cX11_count 5 = .ok (.iconst 0, 1) := by decide +kernel
theorem dX11_count_6 : decode cX11_count 6 = .ok (.istore_n 2, 1) := by decide +kernel
theorem dX11_count_7 : decode cX11_count 7 = .ok (.iload_n 1, 1) := by decide +kernel
theorem dX11_count_8 : decode cX11_count 8 = .ok (.tableswitch 94 0 5 #[40, 45, 50, 55, 60, 77], 40) := by decide +kernel
theorem dX11_count_48 : decode cX11_count 48 = .ok (.aload_n 0, 1) := by decide +kernel
theorem dX11_count_49 : decode cX11_count 49 = .ok (.getfield 22, 3) := by decide +kernel
theorem dX11_count_52 : decode cX11_count 52 = .ok (.ireturn, 1) := by decide +kernel
theorem dX11_count_53 : decode cX11_count 53 = .ok (.aload_n 0, 1) := by decide +kernel
theorem dX11_count_54 : decode cX11_count 54 = .ok (.getfield 191, 3) := by decide +kernel
theorem dX11_count_57 : decode cX11_count 57 = .ok (.ireturn, 1) := by decide +kernel
theorem dX11_count_58 : decode cX11_count 58 = .ok (.aload_n 0, 1) := by decide +kernel
theorem dX11_count_59 : decode cX11_count 59 = .ok (.getfield 181, 3) := by decide +kernel
theorem dX11_count_62 : decode cX11_count 62 = .ok (.ireturn, 1) := by decide +kernel
theorem dX11_count_63 : decode cX11_count 63 = .ok (.aload_n 0, 1) := by decide +kernel
theorem dX11_count_64 : decode cX11_count 64 = .ok (.invokevirtual 174, 3) := by decide +kernel
theorem dX11_count_67 : decode cX11_count 67 = .ok (.ireturn, 1) := by decide +kernel
theorem dX11_count_68 : decode cX11_count 68 = .ok (.aload_n 0, 1) := by decide +kernel
theorem dX11_count_69 : decode cX11_count 69 = .ok (.iload_n 2, 1) := by decide +kernel
theorem dX11_count_70 : decode cX11_count 70 = .ok (.invokevirtual 171, 3) := by decide +kernel
theorem dX11_count_73 : decode cX11_count 73 = .ok (.iconst (-1), 1) := by decide +kernel
theorem dX11_count_74 : decode cX11_count 74 = .ok (.if_icmp .eq 9, 3) := by decide +kernel
theorem dX11_count_77 : decode cX11_count 77 = .ok (.iinc 2 1, 3) := by decide +kernel
theorem dX11_count_80 : decode cX11_count 80 = .ok (.goto (-12), 3) := by decide +kernel
theorem dX11_count_83 : decode cX11_count 83 = .ok (.iload_n 2, 1) := by decide +kernel
theorem dX11_count_84 : decode cX11_count 84 = .ok (.ireturn, 1) := by decide +kernel
theorem dX11_count_85 : decode cX11_count 85 = .ok (.aload_n 0, 1) := by decide +kernel
theorem dX11_count_86 : decode cX11_count 86 = .ok (.iload_n 2, 1) := by decide +kernel
theorem dX11_count_87 : decode cX11_count 87 = .ok (.invokevirtual 178, 3) := by decide +kernel
theorem dX11_count_90 : decode cX11_count 90 = .ok (.iconst (-1), 1) := by decide +kernel
theorem dX11_count_91 : decode cX11_count 91 = .ok (.if_icmp .eq 9, 3) := by decide +kernel
theorem dX11_count_94 : decode cX11_count 94 = .ok (.iinc 2 1, 3) := by decide +kernel
theorem dX11_count_97 : decode cX11_count 97 = .ok (.goto (-12), 3) := by decide +kernel
theorem dX11_count_100 : decode cX11_count 100 = .ok (.iload_n 2, 1) := by decide +kernel
theorem dX11_count_101 : decode cX11_count 101 = .ok (.ireturn, 1) := by decide +kernel
theorem dX11_count_102 : decode cX11_count 102 = .ok (.iconst (-1), 1) := by decide +kernel
theorem dX11_count_103 : decode cX11_count 103 = .ok (.ireturn, 1) := by decide +kernel
