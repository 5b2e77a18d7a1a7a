theorem dX7_texts_0 : decode cX7_texts 0 = .ok (.aload_n 0, 1) := by decide +kernel
theorem dX7_texts_1 : decode cX7_texts 1 = .ok (.getfield 135, 3) := by decide +kernel
theorem dX7_texts_4 : decode cX7_texts 4 = .ok (.ireturn, 1) := by decide +kernel
theorem dX7_letter_0 : decode cX7_letter 0 = .ok (.aload_n 0, 1) := by decide +kernel
theorem dX7_letter_1 : decode cX7_letter 1 = .ok (.iload_n 1, 1) := by decide +kernel
theorem dX7_letter_2 : decode cX7_letter 2 = .ok (.invokevirtual 144, 3) := by decide +kernel
theorem dX7_letter_5 : decode cX7_letter 5 = .ok (.ifCond .ne 5, 3) := by decide +kernel
theorem dX7_letter_8 : decode cX7_letter 8 = .ok (.iconst (-1), 1) := by decide +kernel
theorem dX7_letter_9 : decode cX7_letter 9 = .ok (.ireturn, 1) := by decide +kernel
theorem dX7_letter_10 : decode cX7_letter 10 = .ok (.iload_n 2, 1) := by decide +kernel
theorem dX7_letter_11 : decode cX7_letter 11 = .ok (.ifCond .lt 18, 3) := by decide +kernel
theorem dX7_letter_14 : decode cX7_letter 14 = .ok (.iload_n 2, 1) := by decide +kernel
theorem dX7_letter_15 : decode cX7_letter 15 = .ok (.aload_n 0, 1) := by decide +kernel
theorem dX7_letter_16 : decode cX7_letter 16 = .ok (.getfield 13, 3) := by decide +kernel
theorem dX7_letter_19 : decode cX7_letter 19 = .ok (.aload_n 0, 1) := by decide +kernel
theorem dX7_letter_20 : decode cX7_letter 20 = .ok (.getfield 16, 3) := by decide +kernel
theorem dX7_letter_23 : decode cX7_letter 23 = .ok (.iload_n 1, 1) := by decide +kernel
theorem dX7_letter_24 : decode cX7_letter 24 = .ok (.iaload, 1) := by decide +kernel
theorem dX7_letter_25 : decode cX7_letter 25 = .ok (.iaload, 1) := by decide +kernel
theorem dX7_letter_26 : decode cX7_letter 26 = .ok (.if_icmp .lt 7, 3) := by decide +kernel
theorem dX7_letter_29 : decode cX7_letter 29 = .ok (.iconst 0, 1) := by decide +kernel
theorem dX7_letter_30 : decode cX7_letter 30 = .ok (.goto 18, 3) := by decide +kernel
theorem dX7_letter_33 : decode cX7_letter 33 = .ok (.aload_n 0, 1) := by decide +kernel
theorem dX7_letter_34 : decode cX7_letter 34 = .ok (.getfield 13, 3) := by decide +kernel
theorem dX7_letter_37 : decode cX7_letter 37 = .ok (.aload_n 0, 1) := by decide +kernel
theorem dX7_letter_38 : decode cX7_letter 38 = .ok (.getfield 16, 3) := by decide +kernel
theorem dX7_letter_41 : decode cX7_letter 41 = .ok (.iload_n 1, 1) := by decide +kernel
theorem dX7_letter_42 : decode cX7_letter 42 = .ok (.iaload, 1) := by decide +kernel
theorem dX7_letter_43 : decode cX7_letter 43 = .ok (.iconst 1, 1) := by decide +kernel
theorem dX7_letter_44 : decode cX7_letter 44 = .ok (.iadd, 1) := by decide +kernel
theorem dX7_letter_45 : decode cX7_letter 45 = .ok (.iload_n 2, 1) := by decide +kernel
theorem dX7_letter_46 : decode cX7_letter 46 = .ok (.iadd, 1) := by decide +kernel
theorem dX7_letter_47 : decode cX7_letter 47 = .ok (.iaload, 1) := by decide +kernel
theorem dX7_letter_48 : decode cX7_letter 48 = .ok (.ireturn, 1) := by decide +kernel
theorem dX7_find_0 : decode cX7_find 0 = .ok (.iconst 0, 1) := by decide +kernel
theorem dX7_find_1 : decode cX7_find 1 = .ok (.istore_n 2, 1) := by decide +kernel
theorem dX7_find_2 : decode cX7_find 2 = .ok (.iload_n 2, 1) := by decide +kernel
theorem dX7_find_3 : decode cX7_find 3 = .ok (.aload_n 0, 1) := by decide +kernel
theorem dX7_find_4 : decode cX7_find 4 = .ok (.getfield 116, 3) := by decide +kernel
theorem dX7_find_7 : decode cX7_find 7 = .ok (.if_icmp .ge 21, 3) := by decide +kernel
theorem dX7_find_10 : decode cX7_find 10 = .ok (.aload_n 0, 1) := by decide +kernel
theorem dX7_find_11 : decode cX7_find 11 = .ok (.getfield 31, 3) := by decide +kernel
theorem dX7_find_14 : decode cX7_find 14 = .ok (.iload_n 2, 1) := by decide +kernel
theorem dX7_find_15 : decode cX7_find 15 = .ok (.iaload, 1) := by decide +kernel
theorem dX7_find_16 : decode cX7_find 16 = .ok (.iload_n 1, 1) := by decide +kernel
theorem dX7_find_17 : decode cX7_find 17 = .ok (.if_icmp .ne 5, 3) := by decide +kernel
theorem dX7_find_20 : decode cX7_find 20 = .ok (.iload_n 2, 1) := by decide +kernel
theorem dX7_find_21 : decode cX7_find 21 = .ok (.ireturn, 1) := by decide +kernel
theorem dX7_find_22 : decode cX7_find 22 = .ok (.iinc 2 1, 3) := by decide +kernel
theorem dX7_find_25 : decode cX7_find 25 = .ok (.goto (-23), 3) := by decide +kernel
theorem dX7_find_28 : decode cX7_find 28 = .ok (.iconst (-1), 1) := by decide +kernel
theorem dX7_find_29 : decode cX7_find 29 = .ok (.ireturn, 1) := by decide +kernel
theorem dX7_name_0 : decode cX7_name 0 = .ok (.aload_n 0, 1) := by decide +kernel
theorem dX7_name_1 : decode cX7_name 1 = .ok (.iload_n 1, 1) := by decide +kernel
theorem dX7_name_2 : decode cX7_name 2 = .ok (.invokevirtual 147, 3) := by decide +kernel
theorem dX7_name_5 : decode cX7_name 5 = .ok (.ifCond .eq 12, 3) := by decide +kernel
theorem dX7_name_8 : decode cX7_name 8 = .ok (.aload_n 0, 1) := by decide +kernel
theorem dX7_name_9 : decode cX7_name 9 = .ok (.getfield 31, 3) := by decide +kernel
theorem dX7_name_12 : decode cX7_name 12 = .ok (.iload_n 1, 1) := by decide +kernel
theorem dX7_name_13 : decode cX7_name 13 = .ok (.iaload, 1) := by decide +kernel
theorem dX7_name_14 : decode cX7_name 14 = .ok (.goto 4, 3) := by decide +kernel
theorem dX7_name_17 : decode cX7_name 17 = .ok (.iconst (-1), 1) := by decide +kernel
theorem dX7_name_18 : decode cX7_name 18 = .ok (.ireturn, 1) := by decide +kernel
theorem dX7_flags_0 : decode cX7_flags 0 = .ok (.aload_n 0, 1) := by decide +kernel
theorem dX7_flags_1 : decode cX7_flags 1 = .ok (.iload_n 1, 1) := by decide +kernel
theorem dX7_flags_2 : decode cX7_flags 2 = .ok (.invokevirtual 147, 3) := by decide +kernel
theorem dX7_flags_5 : decode cX7_flags 5 = .ok (.ifCond .eq 12, 3) := by decide +kernel
theorem dX7_flags_8 : decode cX7_flags 8 = .ok (.aload_n 0, 1) := by decide +kernel
theorem dX7_flags_9 : decode cX7_flags 9 = .ok (.getfield 28, 3) := by decide +kernel
theorem dX7_flags_12 : decode cX7_flags 12 = .ok (.iload_n 1, 1) := by decide +kernel
theorem dX7_flags_13 : decode cX7_flags 13 = .ok (.iaload, 1) := by decide +kernel
theorem dX7_flags_14 : decode cX7_flags 14 = .ok (.goto 4, 3) := by decide +kernel
theorem dX7_flags_17 : decode cX7_flags 17 = .ok (.iconst (-1), 1) := by decide +kernel
theorem dX7_flags_18 : decode cX7_flags 18 = .ok (.ireturn, 1) := by decide +kernel
theorem dX7_superName_0 : decode cX7_superName 0 = .ok (.aload_n 0, 1) := by decide +kernel
theorem dX7_superName_1 : decode cX7_superName 1 = .ok (.iload_n 1, 1) := by decide +kernel
theorem dX7_superName_2 : decode cX7_superName 2 = .ok (.invokevirtual 147, 3) := by decide +kernel
theorem dX7_superName_5 : decode cX7_superName 5 = .ok (.ifCond .eq 12, 3) := by decide +kernel
theorem dX7_superName_8 : decode cX7_superName 8 = .ok (.aload_n 0, 1) := by decide +kernel
theorem dX7_superName_9 : decode cX7_superName 9 = .ok (.getfield 34, 3) := by decide +kernel
theorem dX7_superName_12 : decode cX7_superName 12 = .ok (.iload_n 1, 1) := by decide +kernel
theorem dX7_superName_13 : decode cX7_superName 13 = .ok (.iaload, 1) := by decide +kernel
theorem dX7_superName_14 : decode cX7_superName 14 = .ok (.goto 4, 3) := by decide +kernel
theorem dX7_superName_17 : decode cX7_superName 17 = .ok (.iconst (-1), 1) := by decide +kernel
theorem dX7_superName_18 : decode cX7_superName 18 = .ok (.ireturn, 1) := by decide +kernel
theorem dX7_typeOf_0 : decode cX7_typeOf 0 = .ok (.aload_n 0, 1) := by decide +kernel
theorem dX7_typeOf_1 : decode cX7_typeOf 1 = .ok (.getfield 25, 3) := by decide +kernel
theorem dX7_typeOf_4 : decode cX7_typeOf 4 = .ok (.bipush 13, 2) := by decide +kernel
theorem dX7_typeOf_6 : decode cX7_typeOf 6 = .ok (.iload_n 1, 1) := by decide +kernel
theorem dX7_typeOf_7 : decode cX7_typeOf 7 = .ok (.imul, 1) := by decide +kernel
theorem dX7_typeOf_8 : decode cX7_typeOf 8 = .ok (.aload_n 0, 1) := by decide +kernel
theorem dX7_typeOf_9 : decode cX7_typeOf 9 = .ok (.getfield 13, 3) := by decide +kernel
theorem dX7_typeOf_12 : decode cX7_typeOf 12 = .ok (.aload_n 0, 1) := by decide +kernel
theorem dX7_typeOf_13 : decode cX7_typeOf 13 = .ok (.getfield 49, 3) := by decide +kernel
theorem dX7_typeOf_16 : decode cX7_typeOf 16 = .ok (.iconst 4, 1) := by decide +kernel
theorem dX7_typeOf_17 : decode cX7_typeOf 17 = .ok (.iload_n 1, 1) := by decide +kernel
theorem dX7_typeOf_18 : decode cX7_typeOf 18 = .ok (.imul, 1) := by decide +kernel
theorem dX7_typeOf_19 : decode cX7_typeOf 19 = .ok (.iload_n 2, 1) := by decide +kernel
theorem dX7_typeOf_20 : decode cX7_typeOf 20 = .ok (.iadd, 1) := by decide +kernel
theorem dX7_typeOf_21 : decode cX7_typeOf 21 = .ok (.iaload, 1) := by decide +kernel
theorem dX7_typeOf_22 : decode cX7_typeOf 22 = .ok (.iaload, 1) := by decide +kernel
theorem dX7_typeOf_23 : decode cX7_typeOf 23 = .ok (.iadd, 1) := by decide +kernel
theorem dX7_typeOf_24 : decode cX7_typeOf 24 = .ok (.iaload, 1) := by decide +kernel
theorem dX7_typeOf_25 : decode cX7_typeOf 25 = .ok (.ireturn, 1) := by decide +kernel
theorem dX7_markAbove_0 : decode cX7_markAbove 0 = .ok (.iconst 0, 1) := by decide +kernel
theorem dX7_markAbove_1 : decode cX7_markAbove 1 = .ok (.istore_n 3, 1) := by decide +kernel
theorem dX7_markAbove_2 : decode cX7_markAbove 2 = .ok (.iload_n 2, 1) := by decide +kernel
theorem dX7_markAbove_3 : decode cX7_markAbove 3 = .ok (.ifCond .eq 12, 3) := by decide +kernel
theorem dX7_markAbove_6 : decode cX7_markAbove 6 = .ok (.aload_n 0, 1) := by decide +kernel
theorem dX7_markAbove_7 : decode cX7_markAbove 7 = .ok (.getfield 46, 3) := by decide +kernel
theorem dX7_markAbove_10 : decode cX7_markAbove 10 = .ok (.iload_n 1, 1) := by decide +kernel
theorem dX7_markAbove_11 : decode cX7_markAbove 11 = .ok (.iaload, 1) := by decide +kernel
theorem dX7_markAbove_12 : decode cX7_markAbove 12 = .ok (.goto 9, 3) := by decide +kernel
theorem dX7_markAbove_15 : decode cX7_markAbove 15 = .ok (.aload_n 0, 1) := by decide +kernel
theorem dX7_markAbove_16 : decode cX7_markAbove 16 = .ok (.getfield 40, 3) := by decide +kernel
theorem dX7_markAbove_19 : decode cX7_markAbove 19 = .ok (.iload_n 1, 1) := by decide +kernel
theorem dX7_markAbove_20 : decode cX7_markAbove 20 = .ok (.iaload, 1) := by decide +kernel
theorem dX7_markAbove_21 : decode cX7_markAbove 21 = .ok (.istore 4, 2) := by decide +kernel
theorem dX7_markAbove_23 : decode cX7_markAbove 23 = .ok (.iconst 0, 1) := by decide +kernel
theorem dX7_markAbove_24 : decode cX7_markAbove 24 = .ok (.istore 5, 2) := by decide +kernel
theorem dX7_markAbove_26 : decode cX7_markAbove 26 = .ok (.iload 5, 2) := by decide +kernel
theorem dX7_markAbove_28 : decode cX7_markAbove 28 = .ok (.iload 4, 2) := by decide +kernel
theorem dX7_markAbove_30 : decode cX7_markAbove 30 = .ok (.if_icmp .ge 64, 3) := by decide +kernel
theorem dX7_markAbove_33 : decode cX7_markAbove 33 = .ok (.iload_n 2, 1) := by decide +kernel
theorem dX7_markAbove_34 : decode cX7_markAbove 34 = .ok (.ifCond .eq 13, 3) := by decide +kernel
theorem dX7_markAbove_37 : decode cX7_markAbove 37 = .ok (.aload_n 0, 1) := by decide +kernel
theorem dX7_markAbove_38 : decode cX7_markAbove 38 = .ok (.iload_n 1, 1) := by decide +kernel
theorem dX7_markAbove_39 : decode cX7_markAbove 39 = .ok (.iload 5, 2) := by decide +kernel
theorem dX7_markAbove_41 : decode cX7_markAbove 41 = .ok (.invokevirtual 150, 3) := by decide +kernel
theorem dX7_markAbove_44 : decode cX7_markAbove 44 = .ok (.goto 14, 3) := by decide +kernel
theorem dX7_markAbove_47 : decode cX7_markAbove 47 = .ok (.aload_n 0, 1) := by decide +kernel
theorem dX7_markAbove_48 : decode cX7_markAbove 48 = .ok (.getfield 43, 3) := by decide +kernel
theorem dX7_markAbove_51 : decode cX7_markAbove 51 = .ok (.iconst 4, 1) := by decide +kernel
theorem dX7_markAbove_52 : decode cX7_markAbove 52 = .ok (.iload_n 1, 1) := by decide +kernel
theorem dX7_markAbove_53 : decode cX7_markAbove 53 = .ok (.imul, 1) := by decide +kernel
theorem dX7_markAbove_54 : decode cX7_markAbove 54 = .ok (.iload 5, 2) := by decide +kernel
theorem dX7_markAbove_56 : decode cX7_markAbove 56 = .ok (.iadd, 1) := by decide +kernel
theorem dX7_markAbove_57 : decode cX7_markAbove 57 = .ok (.iaload, 1) := by decide +kernel
theorem dX7_markAbove_58 : decode cX7_markAbove 58 = .ok (.istore 6, 2) := by decide +kernel
theorem dX7_markAbove_60 : decode cX7_markAbove 60 = .ok (.iload_n 3, 1) := by decide +kernel
theorem dX7_markAbove_61 : decode cX7_markAbove 61 = .ok (.ifCond .ne 13, 3) := by decide +kernel
theorem dX7_markAbove_64 : decode cX7_markAbove 64 = .ok (.aload_n 0, 1) := by decide +kernel
theorem dX7_markAbove_65 : decode cX7_markAbove 65 = .ok (.getfield 62, 3) := by decide +kernel
theorem dX7_markAbove_68 : decode cX7_markAbove 68 = .ok (.iload 6, 2) := by decide +kernel
theorem dX7_markAbove_70 : decode cX7_markAbove 70 = .ok (.baload, 1) := by decide +kernel
theorem dX7_markAbove_71 : decode cX7_markAbove 71 = .ok (.ifCond .ne 7, 3) := by decide +kernel
theorem dX7_markAbove_74 : decode cX7_markAbove 74 = .ok (.iconst 1, 1) := by decide +kernel
theorem dX7_markAbove_75 : decode cX7_markAbove 75 = .ok (.goto 4, 3) := by decide +kernel
theorem dX7_markAbove_78 : decode cX7_markAbove 78 = .ok (.iconst 0, 1) := by decide +kernel
theorem dX7_markAbove_79 : decode cX7_markAbove 79 = .ok (.istore_n 3, 1) := by decide +kernel
theorem dX7_markAbove_80 : decode cX7_markAbove 80 = .ok (.aload_n 0, 1) := by decide +kernel
theorem dX7_markAbove_81 : decode cX7_markAbove 81 = .ok (.getfield 62, 3) := by decide +kernel
theorem dX7_markAbove_84 : decode cX7_markAbove 84 = .ok (.iload 6, 2) := by decide +kernel
theorem dX7_markAbove_86 : decode cX7_markAbove 86 = .ok (.iconst 1, 1) := by decide +kernel
theorem dX7_markAbove_87 : decode cX7_markAbove 87 = .ok (.bastore, 1) := by decide +kernel
theorem dX7_markAbove_88 : decode cX7_markAbove 88 = .ok (.iinc 5 1, 3) := by decide +kernel
theorem dX7_markAbove_91 : decode cX7_markAbove 91 = .ok (.goto (-65), 3) := by decide +kernel
theorem dX7_markAbove_94 : decode cX7_markAbove 94 = .ok (.iload_n 2, 1) := by decide +kernel
theorem dX7_markAbove_95 : decode cX7_markAbove 95 = .ok (.ifCond .ne 48, 3) := by decide +kernel
theorem dX7_markAbove_98 : decode cX7_markAbove 98 = .ok (.aload_n 0, 1) := by decide +kernel
theorem dX7_markAbove_99 : decode cX7_markAbove 99 = .ok (.getfield 34, 3) := by decide +kernel
theorem dX7_markAbove_102 : decode cX7_markAbove 102 = .ok (.iload_n 1, 1) := by decide +kernel
theorem dX7_markAbove_103 : decode cX7_markAbove 103 = .ok (.iaload, 1) := by decide +kernel
theorem dX7_markAbove_104 : decode cX7_markAbove 104 = .ok (.ifCond .lt 39, 3) := by decide +kernel
theorem dX7_markAbove_107 : decode cX7_markAbove 107 = .ok (.iload_n 3, 1) := by decide +kernel
theorem dX7_markAbove_108 : decode cX7_markAbove 108 = .ok (.ifCond .ne 17, 3) := by decide +kernel
theorem dX7_markAbove_111 : decode cX7_markAbove 111 = .ok (.aload_n 0, 1) := by decide +kernel
theorem dX7_markAbove_112 : decode cX7_markAbove 112 = .ok (.getfield 62, 3) := by decide +kernel
theorem dX7_markAbove_115 : decode cX7_markAbove 115 = .ok (.aload_n 0, 1) := by decide +kernel
theorem dX7_markAbove_116 : decode cX7_markAbove 116 = .ok (.getfield 34, 3) := by decide +kernel
theorem dX7_markAbove_119 : decode cX7_markAbove 119 = .ok (.iload_n 1, 1) := by decide +kernel
theorem dX7_markAbove_120 : decode cX7_markAbove 120 = .ok (.iaload, 1) := by decide +kernel
theorem dX7_markAbove_121 : decode cX7_markAbove 121 = .ok (.baload, 1) := by decide +kernel
theorem dX7_markAbove_122 : decode cX7_markAbove 122 = .ok (.ifCond .ne 7, 3) := by decide +kernel
theorem dX7_markAbove_125 : decode cX7_markAbove 125 = .ok (.iconst 1, 1) := by decide +kernel
theorem dX7_markAbove_126 : decode cX7_markAbove 126 = .ok (.goto 4, 3) := by decide +kernel
theorem dX7_markAbove_129 : decode cX7_markAbove 129 = .ok (.iconst 0, 1) := by decide +kernel
theorem dX7_markAbove_130 : decode cX7_markAbove 130 = .ok (.istore_n 3, 1) := by decide +kernel
theorem dX7_markAbove_131 : decode cX7_markAbove 131 = .ok (.aload_n 0, 1) := by decide +kernel
theorem dX7_markAbove_132 : decode cX7_markAbove 132 = .ok (.getfield 62, 3) := by decide +kernel
theorem dX7_markAbove_135 : decode cX7_markAbove 135 = .ok (.aload_n 0, 1) := by decide +kernel
theorem dX7_markAbove_136 : decode cX7_markAbove 136 = .ok (.getfield 34, 3) := by decide +kernel
theorem dX7_markAbove_139 : decode cX7_markAbove 139 = .ok (.iload_n 1, 1) := by decide +kernel
theorem dX7_markAbove_140 : decode cX7_markAbove 140 = .ok (.iaload, 1) := by decide +kernel
theorem dX7_markAbove_141 : decode cX7_markAbove 141 = .ok (.iconst 1, 1) := by decide +kernel
theorem dX7_markAbove_142 : decode cX7_markAbove 142 = .ok (.bastore, 1) := by decide +kernel
theorem dX7_markAbove_143 : decode cX7_markAbove 143 = .ok (.iload_n 3, 1) := by decide +kernel
theorem dX7_markAbove_144 : decode cX7_markAbove 144 = .ok (.ireturn, 1) := by decide +kernel
theorem dX7_reaches_0 : decode cX7_reaches 0 = .ok (.iconst 0, 1) := by decide +kernel
theorem dX7_reaches_1 : decode cX7_reaches 1 = .ok (.istore 4, 2) := by decide +kernel
theorem dX7_reaches_3 : decode cX7_reaches 3 = .ok (.iload 4, 2) := by decide +kernel
theorem dX7_reaches_5 : decode cX7_reaches 5 = .ok (.aload_n 0, 1) := by decide +kernel
theorem dX7_reaches_6 : decode cX7_reaches 6 = .ok (.getfield 135, 3) := by decide +kernel
theorem dX7_reaches_9 : decode cX7_reaches 9 = .ok (.if_icmp .ge 17, 3) := by decide +kernel
theorem dX7_reaches_12 : decode cX7_reaches 12 = .ok (.aload_n 0, 1) := by decide +kernel
theorem dX7_reaches_13 : decode cX7_reaches 13 = .ok (.getfield 62, 3) := by decide +kernel
theorem dX7_reaches_16 : decode cX7_reaches 16 = .ok (.iload 4, 2) := by decide +kernel
theorem dX7_reaches_18 : decode cX7_reaches 18 = .ok (.iconst 0, 1) := by decide +kernel
theorem dX7_reaches_19 : decode cX7_reaches 19 = .ok (.bastore, 1) := by decide +kernel
theorem dX7_reaches_20 : decode cX7_reaches 20 = .ok (.iinc 4 1, 3) := by decide +kernel
theorem dX7_reaches_23 : decode cX7_reaches 23 = .ok (.goto (-20), 3) := by decide +kernel
theorem dX7_reaches_26 : decode cX7_reaches 26 = .ok (.aload_n 0, 1) := by decide +kernel
theorem dX7_reaches_27 : decode cX7_reaches 27 = .ok (.iload_n 1, 1) := by decide +kernel
theorem dX7_reaches_28 : decode cX7_reaches 28 = .ok (.iload_n 3, 1) := by decide +kernel
theorem dX7_reaches_29 : decode cX7_reaches 29 = .ok (.invokevirtual 154, 3) := by decide +kernel
theorem dX7_reaches_32 : decode cX7_reaches 32 = .ok (.istore 4, 2) := by decide +kernel
theorem dX7_reaches_34 : decode cX7_reaches 34 = .ok (.iconst 0, 1) := by decide +kernel
theorem dX7_reaches_35 : decode cX7_reaches 35 = .ok (.istore 5, 2) := by decide +kernel
theorem dX7_reaches_37 : decode cX7_reaches 37 = .ok (.iload 5, 2) := by decide +kernel
theorem dX7_reaches_39 : decode cX7_reaches 39 = .ok (.sipush 192, 3) := by decide +kernel
theorem dX7_reaches_42 : decode cX7_reaches 42 = .ok (.if_icmp .gt 84, 3) := by decide +kernel
theorem dX7_reaches_45 : decode cX7_reaches 45 = .ok (.iload 4, 2) := by decide +kernel
theorem dX7_reaches_47 : decode cX7_reaches 47 = .ok (.ifCond .eq 79, 3) := by decide +kernel
theorem dX7_reaches_50 : decode cX7_reaches 50 = .ok (.iconst 0, 1) := by decide +kernel
theorem dX7_reaches_51 : decode cX7_reaches 51 = .ok (.istore 4, 2) := by decide +kernel
theorem dX7_reaches_53 : decode cX7_reaches 53 = .ok (.iconst 0, 1) := by decide +kernel
theorem dX7_reaches_54 : decode cX7_reaches 54 = .ok (.istore 6, 2) := by decide +kernel
theorem dX7_reaches_56 : decode cX7_reaches 56 = .ok (.iload 6, 2) := by decide +kernel
theorem dX7_reaches_58 : decode cX7_reaches 58 = .ok (.aload_n 0, 1) := by decide +kernel
theorem dX7_reaches_59 : decode cX7_reaches 59 = .ok (.getfield 116, 3) := by decide +kernel
theorem dX7_reaches_62 : decode cX7_reaches 62 = .ok (.if_icmp .ge 58, 3) := by decide +kernel
theorem dX7_reaches_65 : decode cX7_reaches 65 = .ok (.aload_n 0, 1) := by decide +kernel
theorem dX7_reaches_66 : decode cX7_reaches 66 = .ok (.getfield 62, 3) := by decide +kernel
theorem dX7_reaches_69 : decode cX7_reaches 69 = .ok (.aload_n 0, 1) := by decide +kernel
theorem dX7_reaches_70 : decode cX7_reaches 70 = .ok (.getfield 31, 3) := by decide +kernel
theorem dX7_reaches_73 : decode cX7_reaches 73 = .ok (.iload 6, 2) := by decide +kernel
theorem dX7_reaches_75 : decode cX7_reaches 75 = .ok (.iaload, 1) := by decide +kernel
theorem dX7_reaches_76 : decode cX7_reaches 76 = .ok (.baload, 1) := by decide +kernel
theorem dX7_reaches_77 : decode cX7_reaches 77 = .ok (.ifCond .eq 17, 3) := by decide +kernel
theorem dX7_reaches_80 : decode cX7_reaches 80 = .ok (.aload_n 0, 1) := by decide +kernel
theorem dX7_reaches_81 : decode cX7_reaches 81 = .ok (.iload 6, 2) := by decide +kernel
theorem dX7_reaches_83 : decode cX7_reaches 83 = .ok (.iload_n 3, 1) := by decide +kernel
theorem dX7_reaches_84 : decode cX7_reaches 84 = .ok (.invokevirtual 154, 3) := by decide +kernel
theorem dX7_reaches_87 : decode cX7_reaches 87 = .ok (.ifCond .eq 7, 3) := by decide +kernel
theorem dX7_reaches_90 : decode cX7_reaches 90 = .ok (.iconst 1, 1) := by decide +kernel
theorem dX7_reaches_91 : decode cX7_reaches 91 = .ok (.goto 4, 3) := by decide +kernel
theorem dX7_reaches_94 : decode cX7_reaches 94 = .ok (.iconst 0, 1) := by decide +kernel
theorem dX7_reaches_95 : decode cX7_reaches 95 = .ok (.istore 7, 2) := by decide +kernel
theorem dX7_reaches_97 : decode cX7_reaches 97 = .ok (.iload 4, 2) := by decide +kernel
theorem dX7_reaches_99 : decode cX7_reaches 99 = .ok (.ifCond .ne 8, 3) := by decide +kernel
theorem dX7_reaches_102 : decode cX7_reaches 102 = .ok (.iload 7, 2) := by decide +kernel
theorem dX7_reaches_104 : decode cX7_reaches 104 = .ok (.ifCond .eq 7, 3) := by decide +kernel
theorem dX7_reaches_107 : decode cX7_reaches 107 = .ok (.iconst 1, 1) := by decide +kernel
theorem dX7_reaches_108 : decode cX7_reaches 108 = .ok (.goto 4, 3) := by decide +kernel
theorem dX7_reaches_111 : decode cX7_reaches 111 = .ok (.iconst 0, 1) := by decide +kernel
theorem dX7_reaches_112 : decode cX7_reaches 112 = .ok (.istore 4, 2) := by decide +kernel
theorem dX7_reaches_114 : decode cX7_reaches 114 = .ok (.iinc 6 1, 3) := by decide +kernel
theorem dX7_reaches_117 : decode cX7_reaches 117 = .ok (.goto (-61), 3) := by decide +kernel
theorem dX7_reaches_120 : decode cX7_reaches 120 = .ok (.iinc 5 1, 3) := by decide +kernel
theorem dX7_reaches_123 : decode cX7_reaches 123 = .ok (.goto (-86), 3) := by decide +kernel
theorem dX7_reaches_126 : decode cX7_reaches 126 = .ok (.aload_n 0, 1) := by decide +kernel
theorem dX7_reaches_127 : decode cX7_reaches 127 = .ok (.getfield 62, 3) := by decide +kernel
theorem dX7_reaches_130 : decode cX7_reaches 130 = .ok (.iload_n 2, 1) := by decide +kernel
theorem dX7_reaches_131 : decode cX7_reaches 131 = .ok (.baload, 1) := by decide +kernel
theorem dX7_reaches_132 : decode cX7_reaches 132 = .ok (.ireturn, 1) := by decide +kernel
theorem dX7_subtype_0 : decode cX7_subtype 0 = .ok (.aload_n 0, 1) := by decide +kernel
theorem dX7_subtype_1 : decode cX7_subtype 1 = .ok (.iload_n 1, 1) := by decide +kernel
theorem dX7_subtype_2 : decode cX7_subtype 2 = .ok (.invokevirtual 147, 3) := by decide +kernel
theorem dX7_subtype_5 : decode cX7_subtype 5 = .ok (.ifCond .eq 25, 3) := by decide +kernel
theorem dX7_subtype_8 : decode cX7_subtype 8 = .ok (.aload_n 0, 1) := by decide +kernel
theorem dX7_subtype_9 : decode cX7_subtype 9 = .ok (.iload_n 2, 1) := by decide +kernel
theorem dX7_subtype_10 : decode cX7_subtype 10 = .ok (.invokevirtual 144, 3) := by decide +kernel
theorem dX7_subtype_13 : decode cX7_subtype 13 = .ok (.ifCond .eq 17, 3) := by decide +kernel
theorem dX7_subtype_16 : decode cX7_subtype 16 = .ok (.aload_n 0, 1) := by decide +kernel
theorem dX7_subtype_17 : decode cX7_subtype 17 = .ok (.iload_n 1, 1) := by decide +kernel
theorem dX7_subtype_18 : decode cX7_subtype 18 = .ok (.iload_n 2, 1) := by decide +kernel
theorem dX7_subtype_19 : decode cX7_subtype 19 = .ok (.iconst 0, 1) := by decide +kernel
theorem dX7_subtype_20 : decode cX7_subtype 20 = .ok (.invokevirtual 158, 3) := by decide +kernel
theorem dX7_subtype_23 : decode cX7_subtype 23 = .ok (.ifCond .eq 7, 3) := by decide +kernel
theorem dX7_subtype_26 : decode cX7_subtype 26 = .ok (.iconst 1, 1) := by decide +kernel
theorem dX7_subtype_27 : decode cX7_subtype 27 = .ok (.goto 4, 3) := by decide +kernel
theorem dX7_subtype_30 : decode cX7_subtype 30 = .ok (.iconst 0, 1) := by decide +kernel
theorem dX7_subtype_31 : decode cX7_subtype 31 = .ok (.ireturn, 1) := by decide +kernel
theorem dX7_subtypeAt_0 : decode cX7_subtypeAt 0 = .ok (.aload_n 0, 1) := by decide +kernel
theorem dX7_subtypeAt_1 : decode cX7_subtypeAt 1 = .ok (.iload_n 1, 1) := by decide +kernel
theorem dX7_subtypeAt_2 : decode cX7_subtypeAt 2 = .ok (.invokevirtual 144, 3) := by decide +kernel
theorem dX7_subtypeAt_5 : decode cX7_subtypeAt 5 = .ok (.ifCond .eq 7, 3) := by decide +kernel
theorem dX7_subtypeAt_8 : decode cX7_subtypeAt 8 = .ok (.iload_n 2, 1) := by decide +kernel
theorem dX7_subtypeAt_9 : decode cX7_subtypeAt 9 = .ok (.ifCond .ge 5, 3) := by decide +kernel
theorem dX7_subtypeAt_12 : decode cX7_subtypeAt 12 = .ok (.iconst (-1), 1) := by decide +kernel
theorem dX7_subtypeAt_13 : decode cX7_subtypeAt 13 = .ok (.ireturn, 1) := by decide +kernel
theorem dX7_subtypeAt_14 : decode cX7_subtypeAt 14 = .ok (.iconst 0, 1) := by decide +kernel
theorem dX7_subtypeAt_15 : decode cX7_subtypeAt 15 = .ok (.istore_n 3, 1) := by decide +kernel
theorem dX7_subtypeAt_16 : decode cX7_subtypeAt 16 = .ok (.iconst 0, 1) := by decide +kernel
theorem dX7_subtypeAt_17 : decode cX7_subtypeAt 17 = .ok (.istore 4, 2) := by decide +kernel
theorem dX7_subtypeAt_19 : decode cX7_subtypeAt 19 = .ok (.iload 4, 2) := by decide +kernel
theorem dX7_subtypeAt_21 : decode cX7_subtypeAt 21 = .ok (.aload_n 0, 1) := by decide +kernel
theorem dX7_subtypeAt_22 : decode cX7_subtypeAt 22 = .ok (.getfield 116, 3) := by decide +kernel
theorem dX7_subtypeAt_25 : decode cX7_subtypeAt 25 = .ok (.if_icmp .ge 31, 3) := by decide +kernel
theorem dX7_subtypeAt_28 : decode cX7_subtypeAt 28 = .ok (.aload_n 0, 1) := by decide +kernel
theorem dX7_subtypeAt_29 : decode cX7_subtypeAt 29 = .ok (.iload 4, 2) := by decide +kernel
theorem dX7_subtypeAt_31 : decode cX7_subtypeAt 31 = .ok (.iload_n 1, 1) := by decide +kernel
theorem dX7_subtypeAt_32 : decode cX7_subtypeAt 32 = .ok (.iconst 0, 1) := by decide +kernel
theorem dX7_subtypeAt_33 : decode cX7_subtypeAt 33 = .ok (.invokevirtual 158, 3) := by decide +kernel
theorem dX7_subtypeAt_36 : decode cX7_subtypeAt 36 = .ok (.ifCond .eq 14, 3) := by decide +kernel
theorem dX7_subtypeAt_39 : decode cX7_subtypeAt 39 = .ok (.iload_n 3, 1) := by decide +kernel
theorem dX7_subtypeAt_40 : decode cX7_subtypeAt 40 = .ok (.iload_n 2, 1) := by decide +kernel
theorem dX7_subtypeAt_41 : decode cX7_subtypeAt 41 = .ok (.if_icmp .ne 6, 3) := by decide +kernel
theorem dX7_subtypeAt_44 : decode cX7_subtypeAt 44 = .ok (.iload 4, 2) := by decide +kernel
theorem dX7_subtypeAt_46 : decode cX7_subtypeAt 46 = .ok (.ireturn, 1) := by decide +kernel
theorem dX7_subtypeAt_47 : decode cX7_subtypeAt 47 = .ok (.iinc 3 1, 3) := by decide +kernel
theorem dX7_subtypeAt_50 : decode cX7_subtypeAt 50 = .ok (.iinc 4 1, 3) := by decide +kernel
theorem dX7_subtypeAt_53 : decode cX7_subtypeAt 53 = .ok (.goto (-34), 3) := by decide +kernel
theorem dX7_subtypeAt_56 : decode cX7_subtypeAt 56 = .ok (.iconst (-1), 1) := by decide +kernel
theorem dX7_subtypeAt_57 : decode cX7_subtypeAt 57 = .ok (.ireturn, 1) := by decide +kernel
theorem dX7_meta_0 : decode cX7_meta 0 = .ok (.aload_n 0, 1) := by decide +kernel
theorem dX7_meta_1 : decode cX7_meta 1 = .ok (.iload_n 1, 1) := by decide +kernel
theorem dX7_meta_2 : decode cX7_meta 2 = .ok (.invokevirtual 147, 3) := by decide +kernel
theorem dX7_meta_5 : decode cX7_meta 5 = .ok (.ifCond .eq 25, 3) := by decide +kernel
theorem dX7_meta_8 : decode cX7_meta 8 = .ok (.aload_n 0, 1) := by decide +kernel
theorem dX7_meta_9 : decode cX7_meta 9 = .ok (.iload_n 2, 1) := by decide +kernel
theorem dX7_meta_10 : decode cX7_meta 10 = .ok (.invokevirtual 144, 3) := by decide +kernel
theorem dX7_meta_13 : decode cX7_meta 13 = .ok (.ifCond .eq 17, 3) := by decide +kernel
theorem dX7_meta_16 : decode cX7_meta 16 = .ok (.aload_n 0, 1) := by decide +kernel
theorem dX7_meta_17 : decode cX7_meta 17 = .ok (.iload_n 1, 1) := by decide +kernel
theorem dX7_meta_18 : decode cX7_meta 18 = .ok (.iload_n 2, 1) := by decide +kernel
theorem dX7_meta_19 : decode cX7_meta 19 = .ok (.iconst 1, 1) := by decide +kernel
theorem dX7_meta_20 : decode cX7_meta 20 = .ok (.invokevirtual 158, 3) := by decide +kernel
theorem dX7_meta_23 : decode cX7_meta 23 = .ok (.ifCond .eq 7, 3) := by decide +kernel
theorem dX7_meta_26 : decode cX7_meta 26 = .ok (.iconst 1, 1) := by decide +kernel
theorem dX7_meta_27 : decode cX7_meta 27 = .ok (.goto 4, 3) := by decide +kernel
theorem dX7_meta_30 : decode cX7_meta 30 = .ok (.iconst 0, 1) := by decide +kernel
theorem dX7_meta_31 : decode cX7_meta 31 = .ok (.ireturn, 1) := by decide +kernel
theorem dX7_inherited_0 : decode cX7_inherited 0 = .ok (.aload_n 0, 1) := by decide +kernel
theorem dX7_inherited_1 : decode cX7_inherited 1 = .ok (.iload_n 1, 1) := by decide +kernel
theorem dX7_inherited_2 : decode cX7_inherited 2 = .ok (.invokevirtual 162, 3) := by decide +kernel
theorem dX7_inherited_5 : decode cX7_inherited 5 = .ok (.istore_n 2, 1) := by decide +kernel
theorem dX7_inherited_6 : decode cX7_inherited 6 = .ok (.iload_n 2, 1) := by decide +kernel
theorem dX7_inherited_7 : decode cX7_inherited 7 = .ok (.ifCond .lt 18, 3) := by decide +kernel
theorem dX7_inherited_10 : decode cX7_inherited 10 = .ok (.aload_n 0, 1) := by decide +kernel
theorem dX7_inherited_11 : decode cX7_inherited 11 = .ok (.getfield 28, 3) := by decide +kernel
theorem dX7_inherited_14 : decode cX7_inherited 14 = .ok (.iload_n 2, 1) := by decide +kernel
theorem dX7_inherited_15 : decode cX7_inherited 15 = .ok (.iaload, 1) := by decide +kernel
theorem dX7_inherited_16 : decode cX7_inherited 16 = .ok (.iconst 2, 1) := by decide +kernel
theorem dX7_inherited_17 : decode cX7_inherited 17 = .ok (.iand, 1) := by decide +kernel
theorem dX7_inherited_18 : decode cX7_inherited 18 = .ok (.ifCond .eq 7, 3) := by decide +kernel
theorem dX7_inherited_21 : decode cX7_inherited 21 = .ok (.iconst 1, 1) := by decide +kernel
theorem dX7_inherited_22 : decode cX7_inherited 22 = .ok (.goto 4, 3) := by decide +kernel
theorem dX7_inherited_25 : decode cX7_inherited 25 = .ok (.iconst 0, 1) := by decide +kernel
theorem dX7_inherited_26 : decode cX7_inherited 26 = .ok (.ireturn, 1) := by decide +kernel
theorem dX7_firstNote_0 : decode cX7_firstNote 0 = .ok (.iconst 0, 1) := by decide +kernel
theorem dX7_firstNote_1 : decode cX7_firstNote 1 = .ok (.istore_n 3, 1) := by decide +kernel
theorem dX7_firstNote_2 : decode cX7_firstNote 2 = .ok (.iload_n 3, 1) := by decide +kernel
theorem dX7_firstNote_3 : decode cX7_firstNote 3 = .ok (.aload_n 0, 1) := by decide +kernel
theorem dX7_firstNote_4 : decode cX7_firstNote 4 = .ok (.getfield 46, 3) := by decide +kernel
theorem dX7_firstNote_7 : decode cX7_firstNote 7 = .ok (.iload_n 1, 1) := by decide +kernel
theorem dX7_firstNote_8 : decode cX7_firstNote 8 = .ok (.iaload, 1) := by decide +kernel
theorem dX7_firstNote_9 : decode cX7_firstNote 9 = .ok (.if_icmp .ge 21, 3) := by decide +kernel
theorem dX7_firstNote_12 : decode cX7_firstNote 12 = .ok (.aload_n 0, 1) := by decide +kernel
theorem dX7_firstNote_13 : decode cX7_firstNote 13 = .ok (.iload_n 1, 1) := by decide +kernel
theorem dX7_firstNote_14 : decode cX7_firstNote 14 = .ok (.iload_n 3, 1) := by decide +kernel
theorem dX7_firstNote_15 : decode cX7_firstNote 15 = .ok (.invokevirtual 150, 3) := by decide +kernel
theorem dX7_firstNote_18 : decode cX7_firstNote 18 = .ok (.iload_n 2, 1) := by decide +kernel
theorem dX7_firstNote_19 : decode cX7_firstNote 19 = .ok (.if_icmp .ne 5, 3) := by decide +kernel
theorem dX7_firstNote_22 : decode cX7_firstNote 22 = .ok (.iload_n 3, 1) := by decide +kernel
theorem dX7_firstNote_23 : decode cX7_firstNote 23 = .ok (.ireturn, 1) := by decide +kernel
theorem dX7_firstNote_24 : decode cX7_firstNote 24 = .ok (.iinc 3 1, 3) := by decide +kernel
theorem dX7_firstNote_27 : decode cX7_firstNote 27 = .ok (.goto (-25), 3) := by decide +kernel
theorem dX7_firstNote_30 : decode cX7_firstNote 30 = .ok (.iconst (-1), 1) := by decide +kernel
theorem dX7_firstNote_31 : decode cX7_firstNote 31 = .ok (.ireturn, 1) := by decide +kernel
theorem dX7_holder_0 : decode cX7_holder 0 = .ok (.aload_n 0, 1) := by decide +kernel
theorem dX7_holder_1 : decode cX7_holder 1 = .ok (.iload_n 1, 1) := by decide +kernel
theorem dX7_holder_2 : decode cX7_holder 2 = .ok (.invokevirtual 147, 3) := by decide +kernel
theorem dX7_holder_5 : decode cX7_holder 5 = .ok (.ifCond .eq 11, 3) := by decide +kernel
theorem dX7_holder_8 : decode cX7_holder 8 = .ok (.aload_n 0, 1) := by decide +kernel
theorem dX7_holder_9 : decode cX7_holder 9 = .ok (.iload_n 2, 1) := by decide +kernel
theorem dX7_holder_10 : decode cX7_holder 10 = .ok (.invokevirtual 144, 3) := by decide +kernel
theorem dX7_holder_13 : decode cX7_holder 13 = .ok (.ifCond .ne 5, 3) := by decide +kernel
theorem dX7_holder_16 : decode cX7_holder 16 = .ok (.iconst (-1), 1) := by decide +kernel
theorem dX7_holder_17 : decode cX7_holder 17 = .ok (.ireturn, 1) := by decide +kernel
theorem dX7_holder_18 : decode cX7_holder 18 = .ok (.aload_n 0, 1) := by decide +kernel
theorem dX7_holder_19 : decode cX7_holder 19 = .ok (.iload_n 2, 1) := by decide +kernel
theorem dX7_holder_20 : decode cX7_holder 20 = .ok (.invokevirtual 165, 3) := by decide +kernel
theorem dX7_holder_23 : decode cX7_holder 23 = .ok (.istore_n 3, 1) := by decide +kernel
theorem dX7_holder_24 : decode cX7_holder 24 = .ok (.iload_n 1, 1) := by decide +kernel
theorem dX7_holder_25 : decode cX7_holder 25 = .ok (.istore 4, 2) := by decide +kernel
theorem dX7_holder_27 : decode cX7_holder 27 = .ok (.iconst 0, 1) := by decide +kernel
theorem dX7_holder_28 : decode cX7_holder 28 = .ok (.istore 5, 2) := by decide +kernel
theorem dX7_holder_30 : decode cX7_holder 30 = .ok (.iload 5, 2) := by decide +kernel
theorem dX7_holder_32 : decode cX7_holder 32 = .ok (.bipush 16, 2) := by decide +kernel
theorem dX7_holder_34 : decode cX7_holder 34 = .ok (.if_icmp .gt 58, 3) := by decide +kernel
theorem dX7_holder_37 : decode cX7_holder 37 = .ok (.iload 4, 2) := by decide +kernel
theorem dX7_holder_39 : decode cX7_holder 39 = .ok (.ifCond .lt 53, 3) := by decide +kernel
theorem dX7_holder_42 : decode cX7_holder 42 = .ok (.aload_n 0, 1) := by decide +kernel
theorem dX7_holder_43 : decode cX7_holder 43 = .ok (.iload 4, 2) := by decide +kernel
theorem dX7_holder_45 : decode cX7_holder 45 = .ok (.iload_n 2, 1) := by decide +kernel
theorem dX7_holder_46 : decode cX7_holder 46 = .ok (.invokevirtual 168, 3) := by decide +kernel
theorem dX7_holder_49 : decode cX7_holder 49 = .ok (.ifCond .lt 6, 3) := by decide +kernel
theorem dX7_holder_52 : decode cX7_holder 52 = .ok (.iload 4, 2) := by decide +kernel
theorem dX7_holder_54 : decode cX7_holder 54 = .ok (.ireturn, 1) := by decide +kernel
theorem dX7_holder_55 : decode cX7_holder 55 = .ok (.iload_n 3, 1) := by decide +kernel
theorem dX7_holder_56 : decode cX7_holder 56 = .ok (.ifCond .eq 27, 3) := by decide +kernel
theorem dX7_holder_59 : decode cX7_holder 59 = .ok (.aload_n 0, 1) := by decide +kernel
theorem dX7_holder_60 : decode cX7_holder 60 = .ok (.getfield 34, 3) := by decide +kernel
theorem dX7_holder_63 : decode cX7_holder 63 = .ok (.iload 4, 2) := by decide +kernel
theorem dX7_holder_65 : decode cX7_holder 65 = .ok (.iaload, 1) := by decide +kernel
theorem dX7_holder_66 : decode cX7_holder 66 = .ok (.ifCond .lt 17, 3) := by decide +kernel
theorem dX7_holder_69 : decode cX7_holder 69 = .ok (.aload_n 0, 1) := by decide +kernel
theorem dX7_holder_70 : decode cX7_holder 70 = .ok (.aload_n 0, 1) := by decide +kernel
theorem dX7_holder_71 : decode cX7_holder 71 = .ok (.getfield 34, 3) := by decide +kernel
theorem dX7_holder_74 : decode cX7_holder 74 = .ok (.iload 4, 2) := by decide +kernel
theorem dX7_holder_76 : decode cX7_holder 76 = .ok (.iaload, 1) := by decide +kernel
theorem dX7_holder_77 : decode cX7_holder 77 = .ok (.invokevirtual 162, 3) := by decide +kernel
theorem dX7_holder_80 : decode cX7_holder 80 = .ok (.goto 4, 3) := by decide +kernel
theorem dX7_holder_83 : decode cX7_holder 83 = .ok (.iconst (-1), 1) := by decide +kernel
theorem dX7_holder_84 : decode cX7_holder 84 = .ok (.istore 4, 2) := by decide +kernel
theorem dX7_holder_86 : decode cX7_holder 86 = .ok (.iinc 5 1, 3) := by decide +kernel
theorem dX7_holder_89 : decode cX7_holder 89 = .ok (.goto (-59), 3) := by decide +kernel
theorem dX7_holder_92 : decode cX7_holder 92 = .ok (.iconst (-1), 1) := by decide +kernel
theorem dX7_holder_93 : decode cX7_holder 93 = .ok (.ireturn, 1) := by decide +kernel
theorem dX7_behind_0 : decode cX7_behind 0 = .ok (.iload_n 1, 1) := by decide +kernel
theorem dX7_behind_1 : decode cX7_behind 1 = .ok (.istore_n 2, 1) := by decide +kernel
theorem dX7_behind_2 : decode cX7_behind 2 = .ok (.iconst 1, 1) := by decide +kernel
theorem dX7_behind_3 : decode cX7_behind 3 = .ok (.istore_n 3, 1) := by decide +kernel
theorem dX7_behind_4 : decode cX7_behind 4 = .ok (.aload_n 0, 1) := by decide +kernel
theorem dX7_behind_5 : decode cX7_behind 5 = .ok (.getfield 55, 3) := by decide +kernel
theorem dX7_behind_8 : decode cX7_behind 8 = .ok (.iconst 1, 1) := by decide +kernel
theorem dX7_behind_9 : decode cX7_behind 9 = .ok (.iconst 1, 1) := by decide +kernel
theorem dX7_behind_10 : decode cX7_behind 10 = .ok (.iastore, 1) := by decide +kernel
theorem dX7_behind_11 : decode cX7_behind 11 = .ok (.aload_n 0, 1) := by decide +kernel
theorem dX7_behind_12 : decode cX7_behind 12 = .ok (.getfield 58, 3) := by decide +kernel
theorem dX7_behind_15 : decode cX7_behind 15 = .ok (.iconst 1, 1) := by decide +kernel
theorem dX7_behind_16 : decode cX7_behind 16 = .ok (.iconst 0, 1) := by decide +kernel
theorem dX7_behind_17 : decode cX7_behind 17 = .ok (.bastore, 1) := by decide +kernel
theorem dX7_behind_18 : decode cX7_behind 18 = .ok (.iload_n 3, 1) := by decide +kernel
theorem dX7_behind_19 : decode cX7_behind 19 = .ok (.ifCond .le 129, 3) := by decide +kernel
theorem dX7_behind_22 : decode cX7_behind 22 = .ok (.aload_n 0, 1) := by decide +kernel
theorem dX7_behind_23 : decode cX7_behind 23 = .ok (.getfield 55, 3) := by decide +kernel
theorem dX7_behind_26 : decode cX7_behind 26 = .ok (.iload_n 3, 1) := by decide +kernel
theorem dX7_behind_27 : decode cX7_behind 27 = .ok (.iaload, 1) := by decide +kernel
theorem dX7_behind_28 : decode cX7_behind 28 = .ok (.ifCond .ne 9, 3) := by decide +kernel
theorem dX7_behind_31 : decode cX7_behind 31 = .ok (.iinc 3 (-1), 3) := by decide +kernel
theorem dX7_behind_34 : decode cX7_behind 34 = .ok (.goto (-16), 3) := by decide +kernel
theorem dX7_behind_37 : decode cX7_behind 37 = .ok (.aload_n 0, 1) := by decide +kernel
theorem dX7_behind_38 : decode cX7_behind 38 = .ok (.getfield 55, 3) := by decide +kernel
theorem dX7_behind_41 : decode cX7_behind 41 = .ok (.iload_n 3, 1) := by decide +kernel
theorem dX7_behind_42 : decode cX7_behind 42 = .ok (.dup2, 1) := by decide +kernel
theorem dX7_behind_43 : decode cX7_behind 43 = .ok (.iaload, 1) := by decide +kernel
theorem dX7_behind_44 : decode cX7_behind 44 = .ok (.iconst 1, 1) := by decide +kernel
theorem dX7_behind_45 : decode cX7_behind 45 = .ok (.isub, 1) := by decide +kernel
theorem dX7_behind_46 : decode cX7_behind 46 = .ok (.iastore, 1) := by decide +kernel
theorem dX7_behind_47 : decode cX7_behind 47 = .ok (.aload_n 0, 1) := by decide +kernel
theorem dX7_behind_48 : decode cX7_behind 48 = .ok (.getfield 58, 3) := by decide +kernel
theorem dX7_behind_51 : decode cX7_behind 51 = .ok (.iload_n 3, 1) := by decide +kernel
theorem dX7_behind_52 : decode cX7_behind 52 = .ok (.baload, 1) := by decide +kernel
theorem dX7_behind_53 : decode cX7_behind 53 = .ok (.ifCond .eq 9, 3) := by decide +kernel
theorem dX7_behind_56 : decode cX7_behind 56 = .ok (.iload_n 2, 1) := by decide +kernel
theorem dX7_behind_57 : decode cX7_behind 57 = .ok (.iconst 1, 1) := by decide +kernel
theorem dX7_behind_58 : decode cX7_behind 58 = .ok (.iadd, 1) := by decide +kernel
theorem dX7_behind_59 : decode cX7_behind 59 = .ok (.goto 4, 3) := by decide +kernel
theorem dX7_behind_62 : decode cX7_behind 62 = .ok (.iload_n 2, 1) := by decide +kernel
theorem dX7_behind_63 : decode cX7_behind 63 = .ok (.istore_n 2, 1) := by decide +kernel
theorem dX7_behind_64 : decode cX7_behind 64 = .ok (.aload_n 0, 1) := by decide +kernel
theorem dX7_behind_65 : decode cX7_behind 65 = .ok (.getfield 13, 3) := by decide +kernel
theorem dX7_behind_68 : decode cX7_behind 68 = .ok (.iload_n 2, 1) := by decide +kernel
theorem dX7_behind_69 : decode cX7_behind 69 = .ok (.iaload, 1) := by decide +kernel
theorem dX7_behind_70 : decode cX7_behind 70 = .ok (.istore 4, 2) := by decide +kernel
theorem dX7_behind_72 : decode cX7_behind 72 = .ok (.iload 4, 2) := by decide +kernel
theorem dX7_behind_74 : decode cX7_behind 74 = .ok (.bipush 91, 2) := by decide +kernel
theorem dX7_behind_76 : decode cX7_behind 76 = .ok (.if_icmp .eq 10, 3) := by decide +kernel
theorem dX7_behind_79 : decode cX7_behind 79 = .ok (.iload 4, 2) := by decide +kernel
theorem dX7_behind_81 : decode cX7_behind 81 = .ok (.bipush 64, 2) := by decide +kernel
theorem dX7_behind_83 : decode cX7_behind 83 = .ok (.if_icmp .ne 59, 3) := by decide +kernel
theorem dX7_behind_86 : decode cX7_behind 86 = .ok (.iload 4, 2) := by decide +kernel
theorem dX7_behind_88 : decode cX7_behind 88 = .ok (.bipush 64, 2) := by decide +kernel
theorem dX7_behind_90 : decode cX7_behind 90 = .ok (.if_icmp .ne 9, 3) := by decide +kernel
theorem dX7_behind_93 : decode cX7_behind 93 = .ok (.iload_n 2, 1) := by decide +kernel
theorem dX7_behind_94 : decode cX7_behind 94 = .ok (.iconst 2, 1) := by decide +kernel
theorem dX7_behind_95 : decode cX7_behind 95 = .ok (.iadd, 1) := by decide +kernel
theorem dX7_behind_96 : decode cX7_behind 96 = .ok (.goto 6, 3) := by decide +kernel
theorem dX7_behind_99 : decode cX7_behind 99 = .ok (.iload_n 2, 1) := by decide +kernel
theorem dX7_behind_100 : decode cX7_behind 100 = .ok (.iconst 1, 1) := by decide +kernel
theorem dX7_behind_101 : decode cX7_behind 101 = .ok (.iadd, 1) := by decide +kernel
theorem dX7_behind_102 : decode cX7_behind 102 = .ok (.istore_n 2, 1) := by decide +kernel
theorem dX7_behind_103 : decode cX7_behind 103 = .ok (.iinc 3 1, 3) := by decide +kernel
theorem dX7_behind_106 : decode cX7_behind 106 = .ok (.aload_n 0, 1) := by decide +kernel
theorem dX7_behind_107 : decode cX7_behind 107 = .ok (.getfield 55, 3) := by decide +kernel
theorem dX7_behind_110 : decode cX7_behind 110 = .ok (.iload_n 3, 1) := by decide +kernel
theorem dX7_behind_111 : decode cX7_behind 111 = .ok (.aload_n 0, 1) := by decide +kernel
theorem dX7_behind_112 : decode cX7_behind 112 = .ok (.getfield 13, 3) := by decide +kernel
theorem dX7_behind_115 : decode cX7_behind 115 = .ok (.iload_n 2, 1) := by decide +kernel
theorem dX7_behind_116 : decode cX7_behind 116 = .ok (.iaload, 1) := by decide +kernel
theorem dX7_behind_117 : decode cX7_behind 117 = .ok (.iastore, 1) := by decide +kernel
theorem dX7_behind_118 : decode cX7_behind 118 = .ok (.aload_n 0, 1) := by decide +kernel
theorem dX7_behind_119 : decode cX7_behind 119 = .ok (.getfield 58, 3) := by decide +kernel
theorem dX7_behind_122 : decode cX7_behind 122 = .ok (.iload_n 3, 1) := by decide +kernel
theorem dX7_behind_123 : decode cX7_behind 123 = .ok (.iload 4, 2) := by decide +kernel
theorem dX7_behind_125 : decode cX7_behind 125 = .ok (.bipush 64, 2) := by decide +kernel
theorem dX7_behind_127 : decode cX7_behind 127 = .ok (.if_icmp .ne 7, 3) := by decide +kernel
theorem dX7_behind_130 : decode cX7_behind 130 = .ok (.iconst 1, 1) := by decide +kernel
theorem dX7_behind_131 : decode cX7_behind 131 = .ok (.goto 4, 3) := by decide +kernel
theorem dX7_behind_134 : decode cX7_behind 134 = .ok (.iconst 0, 1) := by decide +kernel
theorem dX7_behind_135 : decode cX7_behind 135 = .ok (.bastore, 1) := by decide +kernel
theorem dX7_behind_136 : decode cX7_behind 136 = .ok (.iinc 2 1, 3) := by decide +kernel
theorem dX7_behind_139 : decode cX7_behind 139 = .ok (.goto 6, 3) := by decide +kernel
theorem dX7_behind_142 : decode cX7_behind 142 = .ok (.iinc 2 2, 3) := by decide +kernel
theorem dX7_behind_145 : decode cX7_behind 145 = .ok (.goto (-127), 3) := by decide +kernel
theorem dX7_behind_148 : decode cX7_behind 148 = .ok (.iload_n 2, 1) := by decide +kernel
theorem dX7_behind_149 : decode cX7_behind 149 = .ok (.ireturn, 1) := by decide +kernel
theorem dX7_inRow_0 : decode cX7_inRow 0 = .ok (.aload_n 0, 1) := by decide +kernel
theorem dX7_inRow_1 : decode cX7_inRow 1 = .ok (.getfield 49, 3) := by decide +kernel
theorem dX7_inRow_4 : decode cX7_inRow 4 = .ok (.iconst 4, 1) := by decide +kernel
theorem dX7_inRow_5 : decode cX7_inRow 5 = .ok (.iload_n 1, 1) := by decide +kernel
theorem dX7_inRow_6 : decode cX7_inRow 6 = .ok (.imul, 1) := by decide +kernel
theorem dX7_inRow_7 : decode cX7_inRow 7 = .ok (.iload_n 2, 1) := by decide +kernel
theorem dX7_inRow_8 : decode cX7_inRow 8 = .ok (.iadd, 1) := by decide +kernel
theorem dX7_inRow_9 : decode cX7_inRow 9 = .ok (.iaload, 1) := by decide +kernel
theorem dX7_inRow_10 : decode cX7_inRow 10 = .ok (.istore 4, 2) := by decide +kernel
theorem dX7_inRow_12 : decode cX7_inRow 12 = .ok (.aload_n 0, 1) := by decide +kernel
theorem dX7_inRow_13 : decode cX7_inRow 13 = .ok (.getfield 13, 3) := by decide +kernel
theorem dX7_inRow_16 : decode cX7_inRow 16 = .ok (.iload 4, 2) := by decide +kernel
theorem dX7_inRow_18 : decode cX7_inRow 18 = .ok (.iconst 1, 1) := by decide +kernel
theorem dX7_inRow_19 : decode cX7_inRow 19 = .ok (.iadd, 1) := by decide +kernel
theorem dX7_inRow_20 : decode cX7_inRow 20 = .ok (.iaload, 1) := by decide +kernel
theorem dX7_inRow_21 : decode cX7_inRow 21 = .ok (.ifCond .eq 17, 3) := by decide +kernel
theorem dX7_inRow_24 : decode cX7_inRow 24 = .ok (.aload_n 0, 1) := by decide +kernel
theorem dX7_inRow_25 : decode cX7_inRow 25 = .ok (.getfield 13, 3) := by decide +kernel
theorem dX7_inRow_28 : decode cX7_inRow 28 = .ok (.iload 4, 2) := by decide +kernel
theorem dX7_inRow_30 : decode cX7_inRow 30 = .ok (.iconst 3, 1) := by decide +kernel
theorem dX7_inRow_31 : decode cX7_inRow 31 = .ok (.iadd, 1) := by decide +kernel
theorem dX7_inRow_32 : decode cX7_inRow 32 = .ok (.iaload, 1) := by decide +kernel
theorem dX7_inRow_33 : decode cX7_inRow 33 = .ok (.bipush 91, 2) := by decide +kernel
theorem dX7_inRow_35 : decode cX7_inRow 35 = .ok (.if_icmp .eq 5, 3) := by decide +kernel
theorem dX7_inRow_38 : decode cX7_inRow 38 = .ok (.iconst 0, 1) := by decide +kernel
theorem dX7_inRow_39 : decode cX7_inRow 39 = .ok (.ireturn, 1) := by decide +kernel
theorem dX7_inRow_40 : decode cX7_inRow 40 = .ok (.iconst 0, 1) := by decide +kernel
theorem dX7_inRow_41 : decode cX7_inRow 41 = .ok (.istore 5, 2) := by decide +kernel
theorem dX7_inRow_43 : decode cX7_inRow 43 = .ok (.iload 4, 2) := by decide +kernel
theorem dX7_inRow_45 : decode cX7_inRow 45 = .ok (.iconst 5, 1) := by decide +kernel
theorem dX7_inRow_46 : decode cX7_inRow 46 = .ok (.iadd, 1) := by decide +kernel
theorem dX7_inRow_47 : decode cX7_inRow 47 = .ok (.istore 6, 2) := by decide +kernel
theorem dX7_inRow_49 : decode cX7_inRow 49 = .ok (.iconst 0, 1) := by decide +kernel
theorem dX7_inRow_50 : decode cX7_inRow 50 = .ok (.istore 7, 2) := by decide +kernel
theorem dX7_inRow_52 : decode cX7_inRow 52 = .ok (.iload 7, 2) := by decide +kernel
theorem dX7_inRow_54 : decode cX7_inRow 54 = .ok (.aload_n 0, 1) := by decide +kernel
theorem dX7_inRow_55 : decode cX7_inRow 55 = .ok (.getfield 13, 3) := by decide +kernel
theorem dX7_inRow_58 : decode cX7_inRow 58 = .ok (.iload 4, 2) := by decide +kernel
theorem dX7_inRow_60 : decode cX7_inRow 60 = .ok (.iconst 4, 1) := by decide +kernel
theorem dX7_inRow_61 : decode cX7_inRow 61 = .ok (.iadd, 1) := by decide +kernel
theorem dX7_inRow_62 : decode cX7_inRow 62 = .ok (.iaload, 1) := by decide +kernel
theorem dX7_inRow_63 : decode cX7_inRow 63 = .ok (.if_icmp .ge 55, 3) := by decide +kernel
theorem dX7_inRow_66 : decode cX7_inRow 66 = .ok (.aload_n 0, 1) := by decide +kernel
theorem dX7_inRow_67 : decode cX7_inRow 67 = .ok (.getfield 13, 3) := by decide +kernel
theorem dX7_inRow_70 : decode cX7_inRow 70 = .ok (.iload 6, 2) := by decide +kernel
theorem dX7_inRow_72 : decode cX7_inRow 72 = .ok (.iaload, 1) := by decide +kernel
theorem dX7_inRow_73 : decode cX7_inRow 73 = .ok (.bipush 64, 2) := by decide +kernel
theorem dX7_inRow_75 : decode cX7_inRow 75 = .ok (.if_icmp .ne 29, 3) := by decide +kernel
theorem dX7_inRow_78 : decode cX7_inRow 78 = .ok (.aload_n 0, 1) := by decide +kernel
theorem dX7_inRow_79 : decode cX7_inRow 79 = .ok (.getfield 25, 3) := by decide +kernel
theorem dX7_inRow_82 : decode cX7_inRow 82 = .ok (.bipush 13, 2) := by decide +kernel
theorem dX7_inRow_84 : decode cX7_inRow 84 = .ok (.iload_n 1, 1) := by decide +kernel
theorem dX7_inRow_85 : decode cX7_inRow 85 = .ok (.imul, 1) := by decide +kernel
theorem dX7_inRow_86 : decode cX7_inRow 86 = .ok (.aload_n 0, 1) := by decide +kernel
theorem dX7_inRow_87 : decode cX7_inRow 87 = .ok (.getfield 13, 3) := by decide +kernel
theorem dX7_inRow_90 : decode cX7_inRow 90 = .ok (.iload 6, 2) := by decide +kernel
theorem dX7_inRow_92 : decode cX7_inRow 92 = .ok (.iconst 1, 1) := by decide +kernel
theorem dX7_inRow_93 : decode cX7_inRow 93 = .ok (.iadd, 1) := by decide +kernel
theorem dX7_inRow_94 : decode cX7_inRow 94 = .ok (.iaload, 1) := by decide +kernel
theorem dX7_inRow_95 : decode cX7_inRow 95 = .ok (.iadd, 1) := by decide +kernel
theorem dX7_inRow_96 : decode cX7_inRow 96 = .ok (.iaload, 1) := by decide +kernel
theorem dX7_inRow_97 : decode cX7_inRow 97 = .ok (.iload_n 3, 1) := by decide +kernel
theorem dX7_inRow_98 : decode cX7_inRow 98 = .ok (.if_icmp .ne 6, 3) := by decide +kernel
theorem dX7_inRow_101 : decode cX7_inRow 101 = .ok (.iinc 5 1, 3) := by decide +kernel
theorem dX7_inRow_104 : decode cX7_inRow 104 = .ok (.aload_n 0, 1) := by decide +kernel
theorem dX7_inRow_105 : decode cX7_inRow 105 = .ok (.iload 6, 2) := by decide +kernel
theorem dX7_inRow_107 : decode cX7_inRow 107 = .ok (.invokevirtual 171, 3) := by decide +kernel
theorem dX7_inRow_110 : decode cX7_inRow 110 = .ok (.istore 6, 2) := by decide +kernel
theorem dX7_inRow_112 : decode cX7_inRow 112 = .ok (.iinc 7 1, 3) := by decide +kernel
theorem dX7_inRow_115 : decode cX7_inRow 115 = .ok (.goto (-63), 3) := by decide +kernel
theorem dX7_inRow_118 : decode cX7_inRow 118 = .ok (.iload 5, 2) := by decide +kernel
theorem dX7_inRow_120 : decode cX7_inRow 120 = .ok (.ireturn, 1) := by decide +kernel
theorem dX7_countAt_0 : decode cX7_countAt 0 = .ok (.aload_n 0, 1) := by decide +kernel
theorem dX7_countAt_1 : decode cX7_countAt 1 = .ok (.iload_n 2, 1) := by decide +kernel
theorem dX7_countAt_2 : decode cX7_countAt 2 = .ok (.invokevirtual 162, 3) := by decide +kernel
theorem dX7_countAt_5 : decode cX7_countAt 5 = .ok (.istore_n 3, 1) := by decide +kernel
theorem dX7_countAt_6 : decode cX7_countAt 6 = .ok (.iconst 0, 1) := by decide +kernel
theorem dX7_countAt_7 : decode cX7_countAt 7 = .ok (.istore 4, 2) := by decide +kernel
theorem dX7_countAt_9 : decode cX7_countAt 9 = .ok (.iconst 0, 1) := by decide +kernel
theorem dX7_countAt_10 : decode cX7_countAt 10 = .ok (.istore 5, 2) := by decide +kernel
theorem dX7_countAt_12 : decode cX7_countAt 12 = .ok (.iload 5, 2) := by decide +kernel
theorem dX7_countAt_14 : decode cX7_countAt 14 = .ok (.aload_n 0, 1) := by decide +kernel
theorem dX7_countAt_15 : decode cX7_countAt 15 = .ok (.getfield 46, 3) := by decide +kernel
theorem dX7_countAt_18 : decode cX7_countAt 18 = .ok (.iload_n 1, 1) := by decide +kernel
theorem dX7_countAt_19 : decode cX7_countAt 19 = .ok (.iaload, 1) := by decide +kernel
theorem dX7_countAt_20 : decode cX7_countAt 20 = .ok (.if_icmp .ge 55, 3) := by decide +kernel
theorem dX7_countAt_23 : decode cX7_countAt 23 = .ok (.aload_n 0, 1) := by decide +kernel
theorem dX7_countAt_24 : decode cX7_countAt 24 = .ok (.iload_n 1, 1) := by decide +kernel
theorem dX7_countAt_25 : decode cX7_countAt 25 = .ok (.iload 5, 2) := by decide +kernel
theorem dX7_countAt_27 : decode cX7_countAt 27 = .ok (.invokevirtual 150, 3) := by decide +kernel
theorem dX7_countAt_30 : decode cX7_countAt 30 = .ok (.istore 6, 2) := by decide +kernel
theorem dX7_countAt_32 : decode cX7_countAt 32 = .ok (.iload 6, 2) := by decide +kernel
theorem dX7_countAt_34 : decode cX7_countAt 34 = .ok (.iload_n 2, 1) := by decide +kernel
theorem dX7_countAt_35 : decode cX7_countAt 35 = .ok (.if_icmp .ne 6, 3) := by decide +kernel
theorem dX7_countAt_38 : decode cX7_countAt 38 = .ok (.iinc 4 1, 3) := by decide +kernel
theorem dX7_countAt_41 : decode cX7_countAt 41 = .ok (.iload_n 3, 1) := by decide +kernel
theorem dX7_countAt_42 : decode cX7_countAt 42 = .ok (.ifCond .lt 27, 3) := by decide +kernel
theorem dX7_countAt_45 : decode cX7_countAt 45 = .ok (.aload_n 0, 1) := by decide +kernel
theorem dX7_countAt_46 : decode cX7_countAt 46 = .ok (.getfield 37, 3) := by decide +kernel
theorem dX7_countAt_49 : decode cX7_countAt 49 = .ok (.iload_n 3, 1) := by decide +kernel
theorem dX7_countAt_50 : decode cX7_countAt 50 = .ok (.iaload, 1) := by decide +kernel
theorem dX7_countAt_51 : decode cX7_countAt 51 = .ok (.iload 6, 2) := by decide +kernel
theorem dX7_countAt_53 : decode cX7_countAt 53 = .ok (.if_icmp .ne 16, 3) := by decide +kernel
theorem dX7_countAt_56 : decode cX7_countAt 56 = .ok (.iload 4, 2) := by decide +kernel
theorem dX7_countAt_58 : decode cX7_countAt 58 = .ok (.aload_n 0, 1) := by decide +kernel
theorem dX7_countAt_59 : decode cX7_countAt 59 = .ok (.iload_n 1, 1) := by decide +kernel
theorem dX7_countAt_60 : decode cX7_countAt 60 = .ok (.iload 5, 2) := by decide +kernel
theorem dX7_countAt_62 : decode cX7_countAt 62 = .ok (.iload_n 2, 1) := by decide +kernel
theorem dX7_countAt_63 : decode cX7_countAt 63 = .ok (.invokevirtual 174, 3) := by decide +kernel
theorem dX7_countAt_66 : decode cX7_countAt 66 = .ok (.iadd, 1) := by decide +kernel
theorem dX7_countAt_67 : decode cX7_countAt 67 = .ok (.istore 4, 2) := by decide +kernel
theorem dX7_countAt_69 : decode cX7_countAt 69 = .ok (.iinc 5 1, 3) := by decide +kernel
theorem dX7_countAt_72 : decode cX7_countAt 72 = .ok (.goto (-60), 3) := by decide +kernel
theorem dX7_countAt_75 : decode cX7_countAt 75 = .ok (.iload 4, 2) := by decide +kernel
theorem dX7_countAt_77 : decode cX7_countAt 77 = .ok (.ireturn, 1) := by decide +kernel
