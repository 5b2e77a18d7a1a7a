theorem dX7_sameText_0 : decode cX7_sameText 0 = .ok (.aload_n 0, 1) := by decide +kernel
theorem dX7_sameText_1 : decode cX7_sameText 1 = .ok (.getfield 13, 3) := by decide +kernel
theorem dX7_sameText_4 : decode cX7_sameText 4 = .ok (.iload_n 1, 1) := by decide +kernel
theorem dX7_sameText_5 : decode cX7_sameText 5 = .ok (.iaload, 1) := by decide +kernel
theorem dX7_sameText_6 : decode cX7_sameText 6 = .ok (.aload_n 0, 1) := by decide +kernel
theorem dX7_sameText_7 : decode cX7_sameText 7 = .ok (.getfield 13, 3) := by decide +kernel
theorem dX7_sameText_10 : decode cX7_sameText 10 = .ok (.iload_n 2, 1) := by decide +kernel
theorem dX7_sameText_11 : decode cX7_sameText 11 = .ok (.iaload, 1) := by decide +kernel
theorem dX7_sameText_12 : decode cX7_sameText 12 = .ok (.if_icmp .ne 7, 3) := by decide +kernel
theorem dX7_sameText_15 : decode cX7_sameText 15 = .ok (.iconst 1, 1) := by decide +kernel
theorem dX7_sameText_16 : decode cX7_sameText 16 = .ok (.goto 4, 3) := by decide +kernel
theorem dX7_sameText_19 : decode cX7_sameText 19 = .ok (.iconst 0, 1) := by decide +kernel
theorem dX7_sameText_20 : decode cX7_sameText 20 = .ok (.istore_n 3, 1) := by decide +kernel
theorem dX7_sameText_21 : decode cX7_sameText 21 = .ok (.iconst 1, 1) := by decide +kernel
theorem dX7_sameText_22 : decode cX7_sameText 22 = .ok (.istore 4, 2) := by decide +kernel
theorem dX7_sameText_24 : decode cX7_sameText 24 = .ok (.iload 4, 2) := by decide +kernel
theorem dX7_sameText_26 : decode cX7_sameText 26 = .ok (.aload_n 0, 1) := by decide +kernel
theorem dX7_sameText_27 : decode cX7_sameText 27 = .ok (.getfield 13, 3) := by decide +kernel
theorem dX7_sameText_30 : decode cX7_sameText 30 = .ok (.iload_n 1, 1) := by decide +kernel
theorem dX7_sameText_31 : decode cX7_sameText 31 = .ok (.iaload, 1) := by decide +kernel
theorem dX7_sameText_32 : decode cX7_sameText 32 = .ok (.if_icmp .gt 40, 3) := by decide +kernel
theorem dX7_sameText_35 : decode cX7_sameText 35 = .ok (.iload_n 3, 1) := by decide +kernel
theorem dX7_sameText_36 : decode cX7_sameText 36 = .ok (.ifCond .eq 36, 3) := by decide +kernel
theorem dX7_sameText_39 : decode cX7_sameText 39 = .ok (.aload_n 0, 1) := by decide +kernel
theorem dX7_sameText_40 : decode cX7_sameText 40 = .ok (.getfield 13, 3) := by decide +kernel
theorem dX7_sameText_43 : decode cX7_sameText 43 = .ok (.iload_n 1, 1) := by decide +kernel
theorem dX7_sameText_44 : decode cX7_sameText 44 = .ok (.iload 4, 2) := by decide +kernel
theorem dX7_sameText_46 : decode cX7_sameText 46 = .ok (.iadd, 1) := by decide +kernel
theorem dX7_sameText_47 : decode cX7_sameText 47 = .ok (.iaload, 1) := by decide +kernel
theorem dX7_sameText_48 : decode cX7_sameText 48 = .ok (.aload_n 0, 1) := by decide +kernel
theorem dX7_sameText_49 : decode cX7_sameText 49 = .ok (.getfield 13, 3) := by decide +kernel
theorem dX7_sameText_52 : decode cX7_sameText 52 = .ok (.iload_n 2, 1) := by decide +kernel
theorem dX7_sameText_53 : decode cX7_sameText 53 = .ok (.iload 4, 2) := by decide +kernel
theorem dX7_sameText_55 : decode cX7_sameText 55 = .ok (.iadd, 1) := by decide +kernel
theorem dX7_sameText_56 : decode cX7_sameText 56 = .ok (.iaload, 1) := by decide +kernel
theorem dX7_sameText_57 : decode cX7_sameText 57 = .ok (.if_icmp .ne 7, 3) := by decide +kernel
theorem dX7_sameText_60 : decode cX7_sameText 60 = .ok (.iconst 1, 1) := by decide +kernel
theorem dX7_sameText_61 : decode cX7_sameText 61 = .ok (.goto 4, 3) := by decide +kernel
theorem dX7_sameText_64 : decode cX7_sameText 64 = .ok (.iconst 0, 1) := by decide +kernel
theorem dX7_sameText_65 : decode cX7_sameText 65 = .ok (.istore_n 3, 1) := by decide +kernel
theorem dX7_sameText_66 : decode cX7_sameText 66 = .ok (.iinc 4 1, 3) := by decide +kernel
theorem dX7_sameText_69 : decode cX7_sameText 69 = .ok (.goto (-45), 3) := by decide +kernel
theorem dX7_sameText_72 : decode cX7_sameText 72 = .ok (.iload_n 3, 1) := by decide +kernel
theorem dX7_sameText_73 : decode cX7_sameText 73 = .ok (.ireturn, 1) := by decide +kernel
theorem dX7_textPlace_0 : decode cX7_textPlace 0 = .ok (.aload_n 0, 1) := by decide +kernel
theorem dX7_textPlace_1 : decode cX7_textPlace 1 = .ok (.getfield 22, 3) := by decide +kernel
theorem dX7_textPlace_4 : decode cX7_textPlace 4 = .ok (.bipush 13, 2) := by decide +kernel
theorem dX7_textPlace_6 : decode cX7_textPlace 6 = .ok (.aload_n 0, 1) := by decide +kernel
theorem dX7_textPlace_7 : decode cX7_textPlace 7 = .ok (.getfield 95, 3) := by decide +kernel
theorem dX7_textPlace_10 : decode cX7_textPlace 10 = .ok (.imul, 1) := by decide +kernel
theorem dX7_textPlace_11 : decode cX7_textPlace 11 = .ok (.iload_n 1, 1) := by decide +kernel
theorem dX7_textPlace_12 : decode cX7_textPlace 12 = .ok (.iadd, 1) := by decide +kernel
theorem dX7_textPlace_13 : decode cX7_textPlace 13 = .ok (.iaload, 1) := by decide +kernel
theorem dX7_textPlace_14 : decode cX7_textPlace 14 = .ok (.istore_n 2, 1) := by decide +kernel
theorem dX7_textPlace_15 : decode cX7_textPlace 15 = .ok (.aload_n 0, 1) := by decide +kernel
theorem dX7_textPlace_16 : decode cX7_textPlace 16 = .ok (.getfield 19, 3) := by decide +kernel
theorem dX7_textPlace_19 : decode cX7_textPlace 19 = .ok (.bipush 13, 2) := by decide +kernel
theorem dX7_textPlace_21 : decode cX7_textPlace 21 = .ok (.aload_n 0, 1) := by decide +kernel
theorem dX7_textPlace_22 : decode cX7_textPlace 22 = .ok (.getfield 95, 3) := by decide +kernel
theorem dX7_textPlace_25 : decode cX7_textPlace 25 = .ok (.imul, 1) := by decide +kernel
theorem dX7_textPlace_26 : decode cX7_textPlace 26 = .ok (.iload_n 1, 1) := by decide +kernel
theorem dX7_textPlace_27 : decode cX7_textPlace 27 = .ok (.iadd, 1) := by decide +kernel
theorem dX7_textPlace_28 : decode cX7_textPlace 28 = .ok (.iaload, 1) := by decide +kernel
theorem dX7_textPlace_29 : decode cX7_textPlace 29 = .ok (.iconst 1, 1) := by decide +kernel
theorem dX7_textPlace_30 : decode cX7_textPlace 30 = .ok (.if_icmp .ne 9, 3) := by decide +kernel
theorem dX7_textPlace_33 : decode cX7_textPlace 33 = .ok (.iload_n 2, 1) := by decide +kernel
theorem dX7_textPlace_34 : decode cX7_textPlace 34 = .ok (.iconst 1, 1) := by decide +kernel
theorem dX7_textPlace_35 : decode cX7_textPlace 35 = .ok (.iadd, 1) := by decide +kernel
theorem dX7_textPlace_36 : decode cX7_textPlace 36 = .ok (.goto 26, 3) := by decide +kernel
theorem dX7_textPlace_39 : decode cX7_textPlace 39 = .ok (.aload_n 0, 1) := by decide +kernel
theorem dX7_textPlace_40 : decode cX7_textPlace 40 = .ok (.getfield 22, 3) := by decide +kernel
theorem dX7_textPlace_43 : decode cX7_textPlace 43 = .ok (.bipush 13, 2) := by decide +kernel
theorem dX7_textPlace_45 : decode cX7_textPlace 45 = .ok (.aload_n 0, 1) := by decide +kernel
theorem dX7_textPlace_46 : decode cX7_textPlace 46 = .ok (.getfield 95, 3) := by decide +kernel
theorem dX7_textPlace_49 : decode cX7_textPlace 49 = .ok (.imul, 1) := by decide +kernel
theorem dX7_textPlace_50 : decode cX7_textPlace 50 = .ok (.aload_n 0, 1) := by decide +kernel
theorem dX7_textPlace_51 : decode cX7_textPlace 51 = .ok (.getfield 13, 3) := by decide +kernel
theorem dX7_textPlace_54 : decode cX7_textPlace 54 = .ok (.iload_n 2, 1) := by decide +kernel
theorem dX7_textPlace_55 : decode cX7_textPlace 55 = .ok (.iconst 1, 1) := by decide +kernel
theorem dX7_textPlace_56 : decode cX7_textPlace 56 = .ok (.iadd, 1) := by decide +kernel
theorem dX7_textPlace_57 : decode cX7_textPlace 57 = .ok (.iaload, 1) := by decide +kernel
theorem dX7_textPlace_58 : decode cX7_textPlace 58 = .ok (.iadd, 1) := by decide +kernel
theorem dX7_textPlace_59 : decode cX7_textPlace 59 = .ok (.iaload, 1) := by decide +kernel
theorem dX7_textPlace_60 : decode cX7_textPlace 60 = .ok (.iconst 1, 1) := by decide +kernel
theorem dX7_textPlace_61 : decode cX7_textPlace 61 = .ok (.iadd, 1) := by decide +kernel
theorem dX7_textPlace_62 : decode cX7_textPlace 62 = .ok (.ireturn, 1) := by decide +kernel
theorem dX7_taken_0 : decode cX7_taken 0 = .ok (.aload_n 0, 1) := by decide +kernel
theorem dX7_taken_1 : decode cX7_taken 1 = .ok (.iload_n 1, 1) := by decide +kernel
theorem dX7_taken_2 : decode cX7_taken 2 = .ok (.invokevirtual 113, 3) := by decide +kernel
theorem dX7_taken_5 : decode cX7_taken 5 = .ok (.istore_n 2, 1) := by decide +kernel
theorem dX7_taken_6 : decode cX7_taken 6 = .ok (.iconst 0, 1) := by decide +kernel
theorem dX7_taken_7 : decode cX7_taken 7 = .ok (.istore_n 3, 1) := by decide +kernel
theorem dX7_taken_8 : decode cX7_taken 8 = .ok (.iload_n 3, 1) := by decide +kernel
theorem dX7_taken_9 : decode cX7_taken 9 = .ok (.aload_n 0, 1) := by decide +kernel
theorem dX7_taken_10 : decode cX7_taken 10 = .ok (.getfield 116, 3) := by decide +kernel
theorem dX7_taken_13 : decode cX7_taken 13 = .ok (.if_icmp .ge 30, 3) := by decide +kernel
theorem dX7_taken_16 : decode cX7_taken 16 = .ok (.aload_n 0, 1) := by decide +kernel
theorem dX7_taken_17 : decode cX7_taken 17 = .ok (.aload_n 0, 1) := by decide +kernel
theorem dX7_taken_18 : decode cX7_taken 18 = .ok (.getfield 16, 3) := by decide +kernel
theorem dX7_taken_21 : decode cX7_taken 21 = .ok (.aload_n 0, 1) := by decide +kernel
theorem dX7_taken_22 : decode cX7_taken 22 = .ok (.getfield 31, 3) := by decide +kernel
theorem dX7_taken_25 : decode cX7_taken 25 = .ok (.iload_n 3, 1) := by decide +kernel
theorem dX7_taken_26 : decode cX7_taken 26 = .ok (.iaload, 1) := by decide +kernel
theorem dX7_taken_27 : decode cX7_taken 27 = .ok (.iaload, 1) := by decide +kernel
theorem dX7_taken_28 : decode cX7_taken 28 = .ok (.iload_n 2, 1) := by decide +kernel
theorem dX7_taken_29 : decode cX7_taken 29 = .ok (.invokevirtual 119, 3) := by decide +kernel
theorem dX7_taken_32 : decode cX7_taken 32 = .ok (.ifCond .eq 5, 3) := by decide +kernel
theorem dX7_taken_35 : decode cX7_taken 35 = .ok (.iconst 1, 1) := by decide +kernel
theorem dX7_taken_36 : decode cX7_taken 36 = .ok (.ireturn, 1) := by decide +kernel
theorem dX7_taken_37 : decode cX7_taken 37 = .ok (.iinc 3 1, 3) := by decide +kernel
theorem dX7_taken_40 : decode cX7_taken 40 = .ok (.goto (-32), 3) := by decide +kernel
theorem dX7_taken_43 : decode cX7_taken 43 = .ok (.iconst 0, 1) := by decide +kernel
theorem dX7_taken_44 : decode cX7_taken 44 = .ok (.ireturn, 1) := by decide +kernel
theorem dX7_wholeFile_0 : decode cX7_wholeFile 0 = .ok (.aload_n 0, 1) := by decide +kernel
theorem dX7_wholeFile_1 : decode cX7_wholeFile 1 = .ok (.invokevirtual 88, 3) := by decide +kernel
theorem dX7_wholeFile_4 : decode cX7_wholeFile 4 = .ok (.istore_n 1, 1) := by decide +kernel
theorem dX7_wholeFile_5 : decode cX7_wholeFile 5 = .ok (.aload_n 0, 1) := by decide +kernel
theorem dX7_wholeFile_6 : decode cX7_wholeFile 6 = .ok (.getfield 69, 3) := by decide +kernel
theorem dX7_wholeFile_9 : decode cX7_wholeFile 9 = .ok (.ifCond .ne 16, 3) := by decide +kernel
theorem dX7_wholeFile_12 : decode cX7_wholeFile 12 = .ok (.iload_n 1, 1) := by decide +kernel
theorem dX7_wholeFile_13 : decode cX7_wholeFile 13 = .ok (.sipush 202, 3) := by decide +kernel
theorem dX7_wholeFile_16 : decode cX7_wholeFile 16 = .ok (.if_icmp .eq 9, 3) := by decide +kernel
theorem dX7_wholeFile_19 : decode cX7_wholeFile 19 = .ok (.aload_n 0, 1) := by decide +kernel
theorem dX7_wholeFile_20 : decode cX7_wholeFile 20 = .ok (.iconst 2, 1) := by decide +kernel
theorem dX7_wholeFile_21 : decode cX7_wholeFile 21 = .ok (.iconst 0, 1) := by decide +kernel
theorem dX7_wholeFile_22 : decode cX7_wholeFile 22 = .ok (.invokevirtual 81, 3) := by decide +kernel
theorem dX7_wholeFile_25 : decode cX7_wholeFile 25 = .ok (.aload_n 0, 1) := by decide +kernel
theorem dX7_wholeFile_26 : decode cX7_wholeFile 26 = .ok (.invokevirtual 88, 3) := by decide +kernel
theorem dX7_wholeFile_29 : decode cX7_wholeFile 29 = .ok (.istore_n 2, 1) := by decide +kernel
theorem dX7_wholeFile_30 : decode cX7_wholeFile 30 = .ok (.aload_n 0, 1) := by decide +kernel
theorem dX7_wholeFile_31 : decode cX7_wholeFile 31 = .ok (.getfield 69, 3) := by decide +kernel
theorem dX7_wholeFile_34 : decode cX7_wholeFile 34 = .ok (.ifCond .ne 16, 3) := by decide +kernel
theorem dX7_wholeFile_37 : decode cX7_wholeFile 37 = .ok (.iload_n 2, 1) := by decide +kernel
theorem dX7_wholeFile_38 : decode cX7_wholeFile 38 = .ok (.sipush 254, 3) := by decide +kernel
theorem dX7_wholeFile_41 : decode cX7_wholeFile 41 = .ok (.if_icmp .eq 9, 3) := by decide +kernel
theorem dX7_wholeFile_44 : decode cX7_wholeFile 44 = .ok (.aload_n 0, 1) := by decide +kernel
theorem dX7_wholeFile_45 : decode cX7_wholeFile 45 = .ok (.iconst 2, 1) := by decide +kernel
theorem dX7_wholeFile_46 : decode cX7_wholeFile 46 = .ok (.iconst 1, 1) := by decide +kernel
theorem dX7_wholeFile_47 : decode cX7_wholeFile 47 = .ok (.invokevirtual 81, 3) := by decide +kernel
theorem dX7_wholeFile_50 : decode cX7_wholeFile 50 = .ok (.aload_n 0, 1) := by decide +kernel
theorem dX7_wholeFile_51 : decode cX7_wholeFile 51 = .ok (.invokevirtual 123, 3) := by decide +kernel
theorem dX7_wholeFile_54 : decode cX7_wholeFile 54 = .ok (.aload_n 0, 1) := by decide +kernel
theorem dX7_wholeFile_55 : decode cX7_wholeFile 55 = .ok (.getfield 28, 3) := by decide +kernel
theorem dX7_wholeFile_58 : decode cX7_wholeFile 58 = .ok (.aload_n 0, 1) := by decide +kernel
theorem dX7_wholeFile_59 : decode cX7_wholeFile 59 = .ok (.getfield 95, 3) := by decide +kernel
theorem dX7_wholeFile_62 : decode cX7_wholeFile 62 = .ok (.aload_n 0, 1) := by decide +kernel
theorem dX7_wholeFile_63 : decode cX7_wholeFile 63 = .ok (.iconst 3, 1) := by decide +kernel
theorem dX7_wholeFile_64 : decode cX7_wholeFile 64 = .ok (.invokevirtual 98, 3) := by decide +kernel
theorem dX7_wholeFile_67 : decode cX7_wholeFile 67 = .ok (.iastore, 1) := by decide +kernel
theorem dX7_wholeFile_68 : decode cX7_wholeFile 68 = .ok (.aload_n 0, 1) := by decide +kernel
theorem dX7_wholeFile_69 : decode cX7_wholeFile 69 = .ok (.getfield 75, 3) := by decide +kernel
theorem dX7_wholeFile_72 : decode cX7_wholeFile 72 = .ok (.istore_n 3, 1) := by decide +kernel
theorem dX7_wholeFile_73 : decode cX7_wholeFile 73 = .ok (.aload_n 0, 1) := by decide +kernel
theorem dX7_wholeFile_74 : decode cX7_wholeFile 74 = .ok (.getfield 31, 3) := by decide +kernel
theorem dX7_wholeFile_77 : decode cX7_wholeFile 77 = .ok (.aload_n 0, 1) := by decide +kernel
theorem dX7_wholeFile_78 : decode cX7_wholeFile 78 = .ok (.getfield 95, 3) := by decide +kernel
theorem dX7_wholeFile_81 : decode cX7_wholeFile 81 = .ok (.aload_n 0, 1) := by decide +kernel
theorem dX7_wholeFile_82 : decode cX7_wholeFile 82 = .ok (.bipush 7, 2) := by decide +kernel
theorem dX7_wholeFile_84 : decode cX7_wholeFile 84 = .ok (.invokevirtual 106, 3) := by decide +kernel
theorem dX7_wholeFile_87 : decode cX7_wholeFile 87 = .ok (.iastore, 1) := by decide +kernel
theorem dX7_wholeFile_88 : decode cX7_wholeFile 88 = .ok (.aload_n 0, 1) := by decide +kernel
theorem dX7_wholeFile_89 : decode cX7_wholeFile 89 = .ok (.getfield 69, 3) := by decide +kernel
theorem dX7_wholeFile_92 : decode cX7_wholeFile 92 = .ok (.ifCond .ne 26, 3) := by decide +kernel
theorem dX7_wholeFile_95 : decode cX7_wholeFile 95 = .ok (.aload_n 0, 1) := by decide +kernel
theorem dX7_wholeFile_96 : decode cX7_wholeFile 96 = .ok (.aload_n 0, 1) := by decide +kernel
theorem dX7_wholeFile_97 : decode cX7_wholeFile 97 = .ok (.getfield 31, 3) := by decide +kernel
theorem dX7_wholeFile_100 : decode cX7_wholeFile 100 = .ok (.aload_n 0, 1) := by decide +kernel
theorem dX7_wholeFile_101 : decode cX7_wholeFile 101 = .ok (.getfield 95, 3) := by decide +kernel
theorem dX7_wholeFile_104 : decode cX7_wholeFile 104 = .ok (.iaload, 1) := by decide +kernel
theorem dX7_wholeFile_105 : decode cX7_wholeFile 105 = .ok (.invokevirtual 126, 3) := by decide +kernel
theorem dX7_wholeFile_108 : decode cX7_wholeFile 108 = .ok (.ifCond .eq 10, 3) := by decide +kernel
theorem dX7_wholeFile_111 : decode cX7_wholeFile 111 = .ok (.aload_n 0, 1) := by decide +kernel
theorem dX7_wholeFile_112 : decode cX7_wholeFile 112 = .ok (.bipush 9, 2) := by decide +kernel
theorem dX7_wholeFile_114 : decode cX7_wholeFile 114 = .ok (.iload_n 3, 1) := by decide +kernel
theorem dX7_wholeFile_115 : decode cX7_wholeFile 115 = .ok (.invokevirtual 81, 3) := by decide +kernel
theorem dX7_wholeFile_118 : decode cX7_wholeFile 118 = .ok (.aload_n 0, 1) := by decide +kernel
theorem dX7_wholeFile_119 : decode cX7_wholeFile 119 = .ok (.getfield 34, 3) := by decide +kernel
theorem dX7_wholeFile_122 : decode cX7_wholeFile 122 = .ok (.aload_n 0, 1) := by decide +kernel
theorem dX7_wholeFile_123 : decode cX7_wholeFile 123 = .ok (.getfield 95, 3) := by decide +kernel
theorem dX7_wholeFile_126 : decode cX7_wholeFile 126 = .ok (.aload_n 0, 1) := by decide +kernel
theorem dX7_wholeFile_127 : decode cX7_wholeFile 127 = .ok (.invokevirtual 129, 3) := by decide +kernel
theorem dX7_wholeFile_130 : decode cX7_wholeFile 130 = .ok (.iastore, 1) := by decide +kernel
theorem dX7_wholeFile_131 : decode cX7_wholeFile 131 = .ok (.aload_n 0, 1) := by decide +kernel
theorem dX7_wholeFile_132 : decode cX7_wholeFile 132 = .ok (.getfield 37, 3) := by decide +kernel
theorem dX7_wholeFile_135 : decode cX7_wholeFile 135 = .ok (.aload_n 0, 1) := by decide +kernel
theorem dX7_wholeFile_136 : decode cX7_wholeFile 136 = .ok (.getfield 95, 3) := by decide +kernel
theorem dX7_wholeFile_139 : decode cX7_wholeFile 139 = .ok (.aload_n 0, 1) := by decide +kernel
theorem dX7_wholeFile_140 : decode cX7_wholeFile 140 = .ok (.invokevirtual 129, 3) := by decide +kernel
theorem dX7_wholeFile_143 : decode cX7_wholeFile 143 = .ok (.iastore, 1) := by decide +kernel
theorem dX7_wholeFile_144 : decode cX7_wholeFile 144 = .ok (.aload_n 0, 1) := by decide +kernel
theorem dX7_wholeFile_145 : decode cX7_wholeFile 145 = .ok (.getfield 40, 3) := by decide +kernel
theorem dX7_wholeFile_148 : decode cX7_wholeFile 148 = .ok (.aload_n 0, 1) := by decide +kernel
theorem dX7_wholeFile_149 : decode cX7_wholeFile 149 = .ok (.getfield 95, 3) := by decide +kernel
theorem dX7_wholeFile_152 : decode cX7_wholeFile 152 = .ok (.aload_n 0, 1) := by decide +kernel
theorem dX7_wholeFile_153 : decode cX7_wholeFile 153 = .ok (.iconst 4, 1) := by decide +kernel
theorem dX7_wholeFile_154 : decode cX7_wholeFile 154 = .ok (.invokevirtual 98, 3) := by decide +kernel
theorem dX7_wholeFile_157 : decode cX7_wholeFile 157 = .ok (.iastore, 1) := by decide +kernel
theorem dX7_wholeFile_158 : decode cX7_wholeFile 158 = .ok (.iconst 0, 1) := by decide +kernel
theorem dX7_wholeFile_159 : decode cX7_wholeFile 159 = .ok (.istore 4, 2) := by decide +kernel
theorem dX7_wholeFile_161 : decode cX7_wholeFile 161 = .ok (.iload 4, 2) := by decide +kernel
theorem dX7_wholeFile_163 : decode cX7_wholeFile 163 = .ok (.aload_n 0, 1) := by decide +kernel
theorem dX7_wholeFile_164 : decode cX7_wholeFile 164 = .ok (.getfield 40, 3) := by decide +kernel
theorem dX7_wholeFile_167 : decode cX7_wholeFile 167 = .ok (.aload_n 0, 1) := by decide +kernel
theorem dX7_wholeFile_168 : decode cX7_wholeFile 168 = .ok (.getfield 95, 3) := by decide +kernel
theorem dX7_wholeFile_171 : decode cX7_wholeFile 171 = .ok (.iaload, 1) := by decide +kernel
theorem dX7_wholeFile_172 : decode cX7_wholeFile 172 = .ok (.if_icmp .ge 29, 3) := by decide +kernel
theorem dX7_wholeFile_175 : decode cX7_wholeFile 175 = .ok (.aload_n 0, 1) := by decide +kernel
theorem dX7_wholeFile_176 : decode cX7_wholeFile 176 = .ok (.getfield 43, 3) := by decide +kernel
theorem dX7_wholeFile_179 : decode cX7_wholeFile 179 = .ok (.iconst 4, 1) := by decide +kernel
theorem dX7_wholeFile_180 : decode cX7_wholeFile 180 = .ok (.aload_n 0, 1) := by decide +kernel
theorem dX7_wholeFile_181 : decode cX7_wholeFile 181 = .ok (.getfield 95, 3) := by decide +kernel
theorem dX7_wholeFile_184 : decode cX7_wholeFile 184 = .ok (.imul, 1) := by decide +kernel
theorem dX7_wholeFile_185 : decode cX7_wholeFile 185 = .ok (.iload 4, 2) := by decide +kernel
theorem dX7_wholeFile_187 : decode cX7_wholeFile 187 = .ok (.iadd, 1) := by decide +kernel
theorem dX7_wholeFile_188 : decode cX7_wholeFile 188 = .ok (.aload_n 0, 1) := by decide +kernel
theorem dX7_wholeFile_189 : decode cX7_wholeFile 189 = .ok (.bipush 7, 2) := by decide +kernel
theorem dX7_wholeFile_191 : decode cX7_wholeFile 191 = .ok (.invokevirtual 106, 3) := by decide +kernel
theorem dX7_wholeFile_194 : decode cX7_wholeFile 194 = .ok (.iastore, 1) := by decide +kernel
theorem dX7_wholeFile_195 : decode cX7_wholeFile 195 = .ok (.iinc 4 1, 3) := by decide +kernel
theorem dX7_wholeFile_198 : decode cX7_wholeFile 198 = .ok (.goto (-37), 3) := by decide +kernel
theorem dX7_wholeFile_201 : decode cX7_wholeFile 201 = .ok (.aload_n 0, 1) := by decide +kernel
theorem dX7_wholeFile_202 : decode cX7_wholeFile 202 = .ok (.getfield 46, 3) := by decide +kernel
theorem dX7_wholeFile_205 : decode cX7_wholeFile 205 = .ok (.aload_n 0, 1) := by decide +kernel
theorem dX7_wholeFile_206 : decode cX7_wholeFile 206 = .ok (.getfield 95, 3) := by decide +kernel
theorem dX7_wholeFile_209 : decode cX7_wholeFile 209 = .ok (.aload_n 0, 1) := by decide +kernel
theorem dX7_wholeFile_210 : decode cX7_wholeFile 210 = .ok (.iconst 4, 1) := by decide +kernel
theorem dX7_wholeFile_211 : decode cX7_wholeFile 211 = .ok (.invokevirtual 98, 3) := by decide +kernel
theorem dX7_wholeFile_214 : decode cX7_wholeFile 214 = .ok (.iastore, 1) := by decide +kernel
theorem dX7_wholeFile_215 : decode cX7_wholeFile 215 = .ok (.iconst 0, 1) := by decide +kernel
theorem dX7_wholeFile_216 : decode cX7_wholeFile 216 = .ok (.istore 4, 2) := by decide +kernel
theorem dX7_wholeFile_218 : decode cX7_wholeFile 218 = .ok (.iload 4, 2) := by decide +kernel
theorem dX7_wholeFile_220 : decode cX7_wholeFile 220 = .ok (.aload_n 0, 1) := by decide +kernel
theorem dX7_wholeFile_221 : decode cX7_wholeFile 221 = .ok (.getfield 46, 3) := by decide +kernel
theorem dX7_wholeFile_224 : decode cX7_wholeFile 224 = .ok (.aload_n 0, 1) := by decide +kernel
theorem dX7_wholeFile_225 : decode cX7_wholeFile 225 = .ok (.getfield 95, 3) := by decide +kernel
theorem dX7_wholeFile_228 : decode cX7_wholeFile 228 = .ok (.iaload, 1) := by decide +kernel
theorem dX7_wholeFile_229 : decode cX7_wholeFile 229 = .ok (.if_icmp .ge 52, 3) := by decide +kernel
theorem dX7_wholeFile_232 : decode cX7_wholeFile 232 = .ok (.aload_n 0, 1) := by decide +kernel
theorem dX7_wholeFile_233 : decode cX7_wholeFile 233 = .ok (.getfield 49, 3) := by decide +kernel
theorem dX7_wholeFile_236 : decode cX7_wholeFile 236 = .ok (.iconst 4, 1) := by decide +kernel
theorem dX7_wholeFile_237 : decode cX7_wholeFile 237 = .ok (.aload_n 0, 1) := by decide +kernel
theorem dX7_wholeFile_238 : decode cX7_wholeFile 238 = .ok (.getfield 95, 3) := by decide +kernel
theorem dX7_wholeFile_241 : decode cX7_wholeFile 241 = .ok (.imul, 1) := by decide +kernel
theorem dX7_wholeFile_242 : decode cX7_wholeFile 242 = .ok (.iload 4, 2) := by decide +kernel
theorem dX7_wholeFile_244 : decode cX7_wholeFile 244 = .ok (.iadd, 1) := by decide +kernel
theorem dX7_wholeFile_245 : decode cX7_wholeFile 245 = .ok (.aload_n 0, 1) := by decide +kernel
theorem dX7_wholeFile_246 : decode cX7_wholeFile 246 = .ok (.getfield 85, 3) := by decide +kernel
theorem dX7_wholeFile_249 : decode cX7_wholeFile 249 = .ok (.aload_n 0, 1) := by decide +kernel
theorem dX7_wholeFile_250 : decode cX7_wholeFile 250 = .ok (.getfield 75, 3) := by decide +kernel
theorem dX7_wholeFile_253 : decode cX7_wholeFile 253 = .ok (.iadd, 1) := by decide +kernel
theorem dX7_wholeFile_254 : decode cX7_wholeFile 254 = .ok (.iastore, 1) := by decide +kernel
theorem dX7_wholeFile_255 : decode cX7_wholeFile 255 = .ok (.aload_n 0, 1) := by decide +kernel
theorem dX7_wholeFile_256 : decode cX7_wholeFile 256 = .ok (.bipush 7, 2) := by decide +kernel
theorem dX7_wholeFile_258 : decode cX7_wholeFile 258 = .ok (.invokevirtual 106, 3) := by decide +kernel
theorem dX7_wholeFile_261 : decode cX7_wholeFile 261 = .ok (.pop, 1) := by decide +kernel
theorem dX7_wholeFile_262 : decode cX7_wholeFile 262 = .ok (.aload_n 0, 1) := by decide +kernel
theorem dX7_wholeFile_263 : decode cX7_wholeFile 263 = .ok (.iconst 4, 1) := by decide +kernel
theorem dX7_wholeFile_264 : decode cX7_wholeFile 264 = .ok (.invokevirtual 98, 3) := by decide +kernel
theorem dX7_wholeFile_267 : decode cX7_wholeFile 267 = .ok (.istore 5, 2) := by decide +kernel
theorem dX7_wholeFile_269 : decode cX7_wholeFile 269 = .ok (.aload_n 0, 1) := by decide +kernel
theorem dX7_wholeFile_270 : decode cX7_wholeFile 270 = .ok (.iload 5, 2) := by decide +kernel
theorem dX7_wholeFile_272 : decode cX7_wholeFile 272 = .ok (.invokevirtual 132, 3) := by decide +kernel
theorem dX7_wholeFile_275 : decode cX7_wholeFile 275 = .ok (.iinc 4 1, 3) := by decide +kernel
theorem dX7_wholeFile_278 : decode cX7_wholeFile 278 = .ok (.goto (-60), 3) := by decide +kernel
theorem dX7_wholeFile_281 : decode cX7_wholeFile 281 = .ok (.aload_n 0, 1) := by decide +kernel
theorem dX7_wholeFile_282 : decode cX7_wholeFile 282 = .ok (.getfield 52, 3) := by decide +kernel
theorem dX7_wholeFile_285 : decode cX7_wholeFile 285 = .ok (.aload_n 0, 1) := by decide +kernel
theorem dX7_wholeFile_286 : decode cX7_wholeFile 286 = .ok (.getfield 95, 3) := by decide +kernel
theorem dX7_wholeFile_289 : decode cX7_wholeFile 289 = .ok (.aload_n 0, 1) := by decide +kernel
theorem dX7_wholeFile_290 : decode cX7_wholeFile 290 = .ok (.getfield 85, 3) := by decide +kernel
theorem dX7_wholeFile_293 : decode cX7_wholeFile 293 = .ok (.aload_n 0, 1) := by decide +kernel
theorem dX7_wholeFile_294 : decode cX7_wholeFile 294 = .ok (.getfield 75, 3) := by decide +kernel
theorem dX7_wholeFile_297 : decode cX7_wholeFile 297 = .ok (.iadd, 1) := by decide +kernel
theorem dX7_wholeFile_298 : decode cX7_wholeFile 298 = .ok (.iastore, 1) := by decide +kernel
theorem dX7_wholeFile_299 : decode cX7_wholeFile 299 = .ok (.aload_n 0, 1) := by decide +kernel
theorem dX7_wholeFile_300 : decode cX7_wholeFile 300 = .ok (.iconst 4, 1) := by decide +kernel
theorem dX7_wholeFile_301 : decode cX7_wholeFile 301 = .ok (.invokevirtual 98, 3) := by decide +kernel
theorem dX7_wholeFile_304 : decode cX7_wholeFile 304 = .ok (.istore 4, 2) := by decide +kernel
theorem dX7_wholeFile_306 : decode cX7_wholeFile 306 = .ok (.aload_n 0, 1) := by decide +kernel
theorem dX7_wholeFile_307 : decode cX7_wholeFile 307 = .ok (.iload 4, 2) := by decide +kernel
theorem dX7_wholeFile_309 : decode cX7_wholeFile 309 = .ok (.invokevirtual 132, 3) := by decide +kernel
theorem dX7_wholeFile_312 : decode cX7_wholeFile 312 = .ok (.aload_n 0, 1) := by decide +kernel
theorem dX7_wholeFile_313 : decode cX7_wholeFile 313 = .ok (.getfield 75, 3) := by decide +kernel
theorem dX7_wholeFile_316 : decode cX7_wholeFile 316 = .ok (.aload_n 0, 1) := by decide +kernel
theorem dX7_wholeFile_317 : decode cX7_wholeFile 317 = .ok (.getfield 78, 3) := by decide +kernel
theorem dX7_wholeFile_320 : decode cX7_wholeFile 320 = .ok (.if_icmp .ge 13, 3) := by decide +kernel
theorem dX7_wholeFile_323 : decode cX7_wholeFile 323 = .ok (.aload_n 0, 1) := by decide +kernel
theorem dX7_wholeFile_324 : decode cX7_wholeFile 324 = .ok (.bipush 8, 2) := by decide +kernel
theorem dX7_wholeFile_326 : decode cX7_wholeFile 326 = .ok (.aload_n 0, 1) := by decide +kernel
theorem dX7_wholeFile_327 : decode cX7_wholeFile 327 = .ok (.getfield 75, 3) := by decide +kernel
theorem dX7_wholeFile_330 : decode cX7_wholeFile 330 = .ok (.invokevirtual 81, 3) := by decide +kernel
theorem dX7_wholeFile_333 : decode cX7_wholeFile 333 = .ok (.return_, 1) := by decide +kernel
theorem dX7_number_0 : decode cX7_number 0 = .ok (.iconst 0, 1) := by decide +kernel
theorem dX7_number_1 : decode cX7_number 1 = .ok (.istore_n 2, 1) := by decide +kernel
theorem dX7_number_2 : decode cX7_number 2 = .ok (.iload_n 2, 1) := by decide +kernel
theorem dX7_number_3 : decode cX7_number 3 = .ok (.aload_n 0, 1) := by decide +kernel
theorem dX7_number_4 : decode cX7_number 4 = .ok (.getfield 135, 3) := by decide +kernel
theorem dX7_number_7 : decode cX7_number 7 = .ok (.if_icmp .ge 25, 3) := by decide +kernel
theorem dX7_number_10 : decode cX7_number 10 = .ok (.aload_n 0, 1) := by decide +kernel
theorem dX7_number_11 : decode cX7_number 11 = .ok (.aload_n 0, 1) := by decide +kernel
theorem dX7_number_12 : decode cX7_number 12 = .ok (.getfield 16, 3) := by decide +kernel
theorem dX7_number_15 : decode cX7_number 15 = .ok (.iload_n 2, 1) := by decide +kernel
theorem dX7_number_16 : decode cX7_number 16 = .ok (.iaload, 1) := by decide +kernel
theorem dX7_number_17 : decode cX7_number 17 = .ok (.iload_n 1, 1) := by decide +kernel
theorem dX7_number_18 : decode cX7_number 18 = .ok (.invokevirtual 119, 3) := by decide +kernel
theorem dX7_number_21 : decode cX7_number 21 = .ok (.ifCond .eq 5, 3) := by decide +kernel
theorem dX7_number_24 : decode cX7_number 24 = .ok (.iload_n 2, 1) := by decide +kernel
theorem dX7_number_25 : decode cX7_number 25 = .ok (.ireturn, 1) := by decide +kernel
theorem dX7_number_26 : decode cX7_number 26 = .ok (.iinc 2 1, 3) := by decide +kernel
theorem dX7_number_29 : decode cX7_number 29 = .ok (.goto (-27), 3) := by decide +kernel
theorem dX7_number_32 : decode cX7_number 32 = .ok (.aload_n 0, 1) := by decide +kernel
theorem dX7_number_33 : decode cX7_number 33 = .ok (.getfield 16, 3) := by decide +kernel
theorem dX7_number_36 : decode cX7_number 36 = .ok (.aload_n 0, 1) := by decide +kernel
theorem dX7_number_37 : decode cX7_number 37 = .ok (.getfield 135, 3) := by decide +kernel
theorem dX7_number_40 : decode cX7_number 40 = .ok (.iload_n 1, 1) := by decide +kernel
theorem dX7_number_41 : decode cX7_number 41 = .ok (.iastore, 1) := by decide +kernel
theorem dX7_number_42 : decode cX7_number 42 = .ok (.aload_n 0, 1) := by decide +kernel
theorem dX7_number_43 : decode cX7_number 43 = .ok (.dup, 1) := by decide +kernel
theorem dX7_number_44 : decode cX7_number 44 = .ok (.getfield 135, 3) := by decide +kernel
theorem dX7_number_47 : decode cX7_number 47 = .ok (.iconst 1, 1) := by decide +kernel
theorem dX7_number_48 : decode cX7_number 48 = .ok (.iadd, 1) := by decide +kernel
theorem dX7_number_49 : decode cX7_number 49 = .ok (.putfield 135, 3) := by decide +kernel
theorem dX7_number_52 : decode cX7_number 52 = .ok (.aload_n 0, 1) := by decide +kernel
theorem dX7_number_53 : decode cX7_number 53 = .ok (.getfield 135, 3) := by decide +kernel
theorem dX7_number_56 : decode cX7_number 56 = .ok (.iconst 1, 1) := by decide +kernel
theorem dX7_number_57 : decode cX7_number 57 = .ok (.isub, 1) := by decide +kernel
theorem dX7_number_58 : decode cX7_number 58 = .ok (.ireturn, 1) := by decide +kernel
theorem dX7_read_0 : decode cX7_read 0 = .ok (.aload_n 0, 1) := by decide +kernel
theorem dX7_read_1 : decode cX7_read 1 = .ok (.getfield 116, 3) := by decide +kernel
theorem dX7_read_4 : decode cX7_read 4 = .ok (.bipush 16, 2) := by decide +kernel
theorem dX7_read_6 : decode cX7_read 6 = .ok (.if_icmp .ne 5, 3) := by decide +kernel
theorem dX7_read_9 : decode cX7_read 9 = .ok (.iconst (-1), 1) := by decide +kernel
theorem dX7_read_10 : decode cX7_read 10 = .ok (.ireturn, 1) := by decide +kernel
theorem dX7_read_11 : decode cX7_read 11 = .ok (.aload_n 0, 1) := by decide +kernel
theorem dX7_read_12 : decode cX7_read 12 = .ok (.aload_n 0, 1) := by decide +kernel
theorem dX7_read_13 : decode cX7_read 13 = .ok (.getfield 116, 3) := by decide +kernel
theorem dX7_read_16 : decode cX7_read 16 = .ok (.putfield 95, 3) := by decide +kernel
theorem dX7_read_19 : decode cX7_read 19 = .ok (.aload_n 0, 1) := by decide +kernel
theorem dX7_read_20 : decode cX7_read 20 = .ok (.bipush 120, 2) := by decide +kernel
theorem dX7_read_22 : decode cX7_read 22 = .ok (.aload_n 0, 1) := by decide +kernel
theorem dX7_read_23 : decode cX7_read 23 = .ok (.getfield 95, 3) := by decide +kernel
theorem dX7_read_26 : decode cX7_read 26 = .ok (.imul, 1) := by decide +kernel
theorem dX7_read_27 : decode cX7_read 27 = .ok (.putfield 85, 3) := by decide +kernel
theorem dX7_read_30 : decode cX7_read 30 = .ok (.aload_n 0, 1) := by decide +kernel
theorem dX7_read_31 : decode cX7_read 31 = .ok (.aload_n 0, 1) := by decide +kernel
theorem dX7_read_32 : decode cX7_read 32 = .ok (.getfield 65, 3) := by decide +kernel
theorem dX7_read_35 : decode cX7_read 35 = .ok (.putfield 78, 3) := by decide +kernel
theorem dX7_read_38 : decode cX7_read 38 = .ok (.aload_n 0, 1) := by decide +kernel
theorem dX7_read_39 : decode cX7_read 39 = .ok (.iconst 0, 1) := by decide +kernel
theorem dX7_read_40 : decode cX7_read 40 = .ok (.putfield 75, 3) := by decide +kernel
theorem dX7_read_43 : decode cX7_read 43 = .ok (.aload_n 0, 1) := by decide +kernel
theorem dX7_read_44 : decode cX7_read 44 = .ok (.iconst 0, 1) := by decide +kernel
theorem dX7_read_45 : decode cX7_read 45 = .ok (.putfield 69, 3) := by decide +kernel
theorem dX7_read_48 : decode cX7_read 48 = .ok (.iconst 0, 1) := by decide +kernel
theorem dX7_read_49 : decode cX7_read 49 = .ok (.istore_n 1, 1) := by decide +kernel
theorem dX7_read_50 : decode cX7_read 50 = .ok (.iload_n 1, 1) := by decide +kernel
theorem dX7_read_51 : decode cX7_read 51 = .ok (.aload_n 0, 1) := by decide +kernel
theorem dX7_read_52 : decode cX7_read 52 = .ok (.getfield 65, 3) := by decide +kernel
theorem dX7_read_55 : decode cX7_read 55 = .ok (.if_icmp .ge 26, 3) := by decide +kernel
theorem dX7_read_58 : decode cX7_read 58 = .ok (.aload_n 0, 1) := by decide +kernel
theorem dX7_read_59 : decode cX7_read 59 = .ok (.getfield 13, 3) := by decide +kernel
theorem dX7_read_62 : decode cX7_read 62 = .ok (.aload_n 0, 1) := by decide +kernel
theorem dX7_read_63 : decode cX7_read 63 = .ok (.getfield 85, 3) := by decide +kernel
theorem dX7_read_66 : decode cX7_read 66 = .ok (.iload_n 1, 1) := by decide +kernel
theorem dX7_read_67 : decode cX7_read 67 = .ok (.iadd, 1) := by decide +kernel
theorem dX7_read_68 : decode cX7_read 68 = .ok (.aload_n 0, 1) := by decide +kernel
theorem dX7_read_69 : decode cX7_read 69 = .ok (.getfield 7, 3) := by decide +kernel
theorem dX7_read_72 : decode cX7_read 72 = .ok (.iload_n 1, 1) := by decide +kernel
theorem dX7_read_73 : decode cX7_read 73 = .ok (.iaload, 1) := by decide +kernel
theorem dX7_read_74 : decode cX7_read 74 = .ok (.iastore, 1) := by decide +kernel
theorem dX7_read_75 : decode cX7_read 75 = .ok (.iinc 1 1, 3) := by decide +kernel
theorem dX7_read_78 : decode cX7_read 78 = .ok (.goto (-28), 3) := by decide +kernel
theorem dX7_read_81 : decode cX7_read 81 = .ok (.aload_n 0, 1) := by decide +kernel
theorem dX7_read_82 : decode cX7_read 82 = .ok (.iconst 0, 1) := by decide +kernel
theorem dX7_read_83 : decode cX7_read 83 = .ok (.putfield 65, 3) := by decide +kernel
theorem dX7_read_86 : decode cX7_read 86 = .ok (.aload_n 0, 1) := by decide +kernel
theorem dX7_read_87 : decode cX7_read 87 = .ok (.invokevirtual 138, 3) := by decide +kernel
theorem dX7_read_90 : decode cX7_read 90 = .ok (.aload_n 0, 1) := by decide +kernel
theorem dX7_read_91 : decode cX7_read 91 = .ok (.getfield 69, 3) := by decide +kernel
theorem dX7_read_94 : decode cX7_read 94 = .ok (.ifCond .eq 18, 3) := by decide +kernel
theorem dX7_read_97 : decode cX7_read 97 = .ok (.sipush 1000, 3) := by decide +kernel
theorem dX7_read_100 : decode cX7_read 100 = .ok (.aload_n 0, 1) := by decide +kernel
theorem dX7_read_101 : decode cX7_read 101 = .ok (.getfield 69, 3) := by decide +kernel
theorem dX7_read_104 : decode cX7_read 104 = .ok (.imul, 1) := by decide +kernel
theorem dX7_read_105 : decode cX7_read 105 = .ok (.aload_n 0, 1) := by decide +kernel
theorem dX7_read_106 : decode cX7_read 106 = .ok (.getfield 72, 3) := by decide +kernel
theorem dX7_read_109 : decode cX7_read 109 = .ok (.iadd, 1) := by decide +kernel
theorem dX7_read_110 : decode cX7_read 110 = .ok (.ineg, 1) := by decide +kernel
theorem dX7_read_111 : decode cX7_read 111 = .ok (.ireturn, 1) := by decide +kernel
theorem dX7_read_112 : decode cX7_read 112 = .ok (.iconst 1, 1) := by decide +kernel
theorem dX7_read_113 : decode cX7_read 113 = .ok (.istore_n 1, 1) := by decide +kernel
theorem dX7_read_114 : decode cX7_read 114 = .ok (.iload_n 1, 1) := by decide +kernel
theorem dX7_read_115 : decode cX7_read 115 = .ok (.aload_n 0, 1) := by decide +kernel
theorem dX7_read_116 : decode cX7_read 116 = .ok (.getfield 92, 3) := by decide +kernel
theorem dX7_read_119 : decode cX7_read 119 = .ok (.if_icmp .gt 61, 3) := by decide +kernel
theorem dX7_read_122 : decode cX7_read 122 = .ok (.aload_n 0, 1) := by decide +kernel
theorem dX7_read_123 : decode cX7_read 123 = .ok (.getfield 19, 3) := by decide +kernel
theorem dX7_read_126 : decode cX7_read 126 = .ok (.bipush 13, 2) := by decide +kernel
theorem dX7_read_128 : decode cX7_read 128 = .ok (.aload_n 0, 1) := by decide +kernel
theorem dX7_read_129 : decode cX7_read 129 = .ok (.getfield 95, 3) := by decide +kernel
theorem dX7_read_132 : decode cX7_read 132 = .ok (.imul, 1) := by decide +kernel
theorem dX7_read_133 : decode cX7_read 133 = .ok (.iload_n 1, 1) := by decide +kernel
theorem dX7_read_134 : decode cX7_read 134 = .ok (.iadd, 1) := by decide +kernel
theorem dX7_read_135 : decode cX7_read 135 = .ok (.iaload, 1) := by decide +kernel
theorem dX7_read_136 : decode cX7_read 136 = .ok (.iconst 1, 1) := by decide +kernel
theorem dX7_read_137 : decode cX7_read 137 = .ok (.if_icmp .ne 37, 3) := by decide +kernel
theorem dX7_read_140 : decode cX7_read 140 = .ok (.aload_n 0, 1) := by decide +kernel
theorem dX7_read_141 : decode cX7_read 141 = .ok (.getfield 25, 3) := by decide +kernel
theorem dX7_read_144 : decode cX7_read 144 = .ok (.bipush 13, 2) := by decide +kernel
theorem dX7_read_146 : decode cX7_read 146 = .ok (.aload_n 0, 1) := by decide +kernel
theorem dX7_read_147 : decode cX7_read 147 = .ok (.getfield 95, 3) := by decide +kernel
theorem dX7_read_150 : decode cX7_read 150 = .ok (.imul, 1) := by decide +kernel
theorem dX7_read_151 : decode cX7_read 151 = .ok (.iload_n 1, 1) := by decide +kernel
theorem dX7_read_152 : decode cX7_read 152 = .ok (.iadd, 1) := by decide +kernel
theorem dX7_read_153 : decode cX7_read 153 = .ok (.aload_n 0, 1) := by decide +kernel
theorem dX7_read_154 : decode cX7_read 154 = .ok (.aload_n 0, 1) := by decide +kernel
theorem dX7_read_155 : decode cX7_read 155 = .ok (.getfield 22, 3) := by decide +kernel
theorem dX7_read_158 : decode cX7_read 158 = .ok (.bipush 13, 2) := by decide +kernel
theorem dX7_read_160 : decode cX7_read 160 = .ok (.aload_n 0, 1) := by decide +kernel
theorem dX7_read_161 : decode cX7_read 161 = .ok (.getfield 95, 3) := by decide +kernel
theorem dX7_read_164 : decode cX7_read 164 = .ok (.imul, 1) := by decide +kernel
theorem dX7_read_165 : decode cX7_read 165 = .ok (.iload_n 1, 1) := by decide +kernel
theorem dX7_read_166 : decode cX7_read 166 = .ok (.iadd, 1) := by decide +kernel
theorem dX7_read_167 : decode cX7_read 167 = .ok (.iaload, 1) := by decide +kernel
theorem dX7_read_168 : decode cX7_read 168 = .ok (.iconst 1, 1) := by decide +kernel
theorem dX7_read_169 : decode cX7_read 169 = .ok (.iadd, 1) := by decide +kernel
theorem dX7_read_170 : decode cX7_read 170 = .ok (.invokevirtual 141, 3) := by decide +kernel
theorem dX7_read_173 : decode cX7_read 173 = .ok (.iastore, 1) := by decide +kernel
theorem dX7_read_174 : decode cX7_read 174 = .ok (.iinc 1 1, 3) := by decide +kernel
theorem dX7_read_177 : decode cX7_read 177 = .ok (.goto (-63), 3) := by decide +kernel
theorem dX7_read_180 : decode cX7_read 180 = .ok (.iconst 1, 1) := by decide +kernel
theorem dX7_read_181 : decode cX7_read 181 = .ok (.istore_n 1, 1) := by decide +kernel
theorem dX7_read_182 : decode cX7_read 182 = .ok (.iload_n 1, 1) := by decide +kernel
theorem dX7_read_183 : decode cX7_read 183 = .ok (.aload_n 0, 1) := by decide +kernel
theorem dX7_read_184 : decode cX7_read 184 = .ok (.getfield 92, 3) := by decide +kernel
theorem dX7_read_187 : decode cX7_read 187 = .ok (.if_icmp .gt 76, 3) := by decide +kernel
theorem dX7_read_190 : decode cX7_read 190 = .ok (.aload_n 0, 1) := by decide +kernel
theorem dX7_read_191 : decode cX7_read 191 = .ok (.getfield 19, 3) := by decide +kernel
theorem dX7_read_194 : decode cX7_read 194 = .ok (.bipush 13, 2) := by decide +kernel
theorem dX7_read_196 : decode cX7_read 196 = .ok (.aload_n 0, 1) := by decide +kernel
theorem dX7_read_197 : decode cX7_read 197 = .ok (.getfield 95, 3) := by decide +kernel
theorem dX7_read_200 : decode cX7_read 200 = .ok (.imul, 1) := by decide +kernel
theorem dX7_read_201 : decode cX7_read 201 = .ok (.iload_n 1, 1) := by decide +kernel
theorem dX7_read_202 : decode cX7_read 202 = .ok (.iadd, 1) := by decide +kernel
theorem dX7_read_203 : decode cX7_read 203 = .ok (.iaload, 1) := by decide +kernel
theorem dX7_read_204 : decode cX7_read 204 = .ok (.bipush 7, 2) := by decide +kernel
theorem dX7_read_206 : decode cX7_read 206 = .ok (.if_icmp .ne 51, 3) := by decide +kernel
theorem dX7_read_209 : decode cX7_read 209 = .ok (.aload_n 0, 1) := by decide +kernel
theorem dX7_read_210 : decode cX7_read 210 = .ok (.getfield 25, 3) := by decide +kernel
theorem dX7_read_213 : decode cX7_read 213 = .ok (.bipush 13, 2) := by decide +kernel
theorem dX7_read_215 : decode cX7_read 215 = .ok (.aload_n 0, 1) := by decide +kernel
theorem dX7_read_216 : decode cX7_read 216 = .ok (.getfield 95, 3) := by decide +kernel
theorem dX7_read_219 : decode cX7_read 219 = .ok (.imul, 1) := by decide +kernel
theorem dX7_read_220 : decode cX7_read 220 = .ok (.iload_n 1, 1) := by decide +kernel
theorem dX7_read_221 : decode cX7_read 221 = .ok (.iadd, 1) := by decide +kernel
theorem dX7_read_222 : decode cX7_read 222 = .ok (.aload_n 0, 1) := by decide +kernel
theorem dX7_read_223 : decode cX7_read 223 = .ok (.getfield 25, 3) := by decide +kernel
theorem dX7_read_226 : decode cX7_read 226 = .ok (.bipush 13, 2) := by decide +kernel
theorem dX7_read_228 : decode cX7_read 228 = .ok (.aload_n 0, 1) := by decide +kernel
theorem dX7_read_229 : decode cX7_read 229 = .ok (.getfield 95, 3) := by decide +kernel
theorem dX7_read_232 : decode cX7_read 232 = .ok (.imul, 1) := by decide +kernel
theorem dX7_read_233 : decode cX7_read 233 = .ok (.aload_n 0, 1) := by decide +kernel
theorem dX7_read_234 : decode cX7_read 234 = .ok (.getfield 13, 3) := by decide +kernel
theorem dX7_read_237 : decode cX7_read 237 = .ok (.aload_n 0, 1) := by decide +kernel
theorem dX7_read_238 : decode cX7_read 238 = .ok (.getfield 22, 3) := by decide +kernel
theorem dX7_read_241 : decode cX7_read 241 = .ok (.bipush 13, 2) := by decide +kernel
theorem dX7_read_243 : decode cX7_read 243 = .ok (.aload_n 0, 1) := by decide +kernel
theorem dX7_read_244 : decode cX7_read 244 = .ok (.getfield 95, 3) := by decide +kernel
theorem dX7_read_247 : decode cX7_read 247 = .ok (.imul, 1) := by decide +kernel
theorem dX7_read_248 : decode cX7_read 248 = .ok (.iload_n 1, 1) := by decide +kernel
theorem dX7_read_249 : decode cX7_read 249 = .ok (.iadd, 1) := by decide +kernel
theorem dX7_read_250 : decode cX7_read 250 = .ok (.iaload, 1) := by decide +kernel
theorem dX7_read_251 : decode cX7_read 251 = .ok (.iconst 1, 1) := by decide +kernel
theorem dX7_read_252 : decode cX7_read 252 = .ok (.iadd, 1) := by decide +kernel
theorem dX7_read_253 : decode cX7_read 253 = .ok (.iaload, 1) := by decide +kernel
theorem dX7_read_254 : decode cX7_read 254 = .ok (.iadd, 1) := by decide +kernel
theorem dX7_read_255 : decode cX7_read 255 = .ok (.iaload, 1) := by decide +kernel
theorem dX7_read_256 : decode cX7_read 256 = .ok (.iastore, 1) := by decide +kernel
theorem dX7_read_257 : decode cX7_read 257 = .ok (.iinc 1 1, 3) := by decide +kernel
theorem dX7_read_260 : decode cX7_read 260 = .ok (.goto (-78), 3) := by decide +kernel
theorem dX7_read_263 : decode cX7_read 263 = .ok (.aload_n 0, 1) := by decide +kernel
theorem dX7_read_264 : decode cX7_read 264 = .ok (.getfield 31, 3) := by decide +kernel
theorem dX7_read_267 : decode cX7_read 267 = .ok (.aload_n 0, 1) := by decide +kernel
theorem dX7_read_268 : decode cX7_read 268 = .ok (.getfield 95, 3) := by decide +kernel
theorem dX7_read_271 : decode cX7_read 271 = .ok (.aload_n 0, 1) := by decide +kernel
theorem dX7_read_272 : decode cX7_read 272 = .ok (.getfield 25, 3) := by decide +kernel
theorem dX7_read_275 : decode cX7_read 275 = .ok (.bipush 13, 2) := by decide +kernel
theorem dX7_read_277 : decode cX7_read 277 = .ok (.aload_n 0, 1) := by decide +kernel
theorem dX7_read_278 : decode cX7_read 278 = .ok (.getfield 95, 3) := by decide +kernel
theorem dX7_read_281 : decode cX7_read 281 = .ok (.imul, 1) := by decide +kernel
theorem dX7_read_282 : decode cX7_read 282 = .ok (.aload_n 0, 1) := by decide +kernel
theorem dX7_read_283 : decode cX7_read 283 = .ok (.getfield 31, 3) := by decide +kernel
theorem dX7_read_286 : decode cX7_read 286 = .ok (.aload_n 0, 1) := by decide +kernel
theorem dX7_read_287 : decode cX7_read 287 = .ok (.getfield 95, 3) := by decide +kernel
theorem dX7_read_290 : decode cX7_read 290 = .ok (.iaload, 1) := by decide +kernel
theorem dX7_read_291 : decode cX7_read 291 = .ok (.iadd, 1) := by decide +kernel
theorem dX7_read_292 : decode cX7_read 292 = .ok (.iaload, 1) := by decide +kernel
theorem dX7_read_293 : decode cX7_read 293 = .ok (.iastore, 1) := by decide +kernel
theorem dX7_read_294 : decode cX7_read 294 = .ok (.aload_n 0, 1) := by decide +kernel
theorem dX7_read_295 : decode cX7_read 295 = .ok (.getfield 34, 3) := by decide +kernel
theorem dX7_read_298 : decode cX7_read 298 = .ok (.aload_n 0, 1) := by decide +kernel
theorem dX7_read_299 : decode cX7_read 299 = .ok (.getfield 95, 3) := by decide +kernel
theorem dX7_read_302 : decode cX7_read 302 = .ok (.aload_n 0, 1) := by decide +kernel
theorem dX7_read_303 : decode cX7_read 303 = .ok (.getfield 34, 3) := by decide +kernel
theorem dX7_read_306 : decode cX7_read 306 = .ok (.aload_n 0, 1) := by decide +kernel
theorem dX7_read_307 : decode cX7_read 307 = .ok (.getfield 95, 3) := by decide +kernel
theorem dX7_read_310 : decode cX7_read 310 = .ok (.iaload, 1) := by decide +kernel
theorem dX7_read_311 : decode cX7_read 311 = .ok (.ifCond .ne 7, 3) := by decide +kernel
theorem dX7_read_314 : decode cX7_read 314 = .ok (.iconst (-1), 1) := by decide +kernel
theorem dX7_read_315 : decode cX7_read 315 = .ok (.goto 25, 3) := by decide +kernel
theorem dX7_read_318 : decode cX7_read 318 = .ok (.aload_n 0, 1) := by decide +kernel
theorem dX7_read_319 : decode cX7_read 319 = .ok (.getfield 25, 3) := by decide +kernel
theorem dX7_read_322 : decode cX7_read 322 = .ok (.bipush 13, 2) := by decide +kernel
theorem dX7_read_324 : decode cX7_read 324 = .ok (.aload_n 0, 1) := by decide +kernel
theorem dX7_read_325 : decode cX7_read 325 = .ok (.getfield 95, 3) := by decide +kernel
theorem dX7_read_328 : decode cX7_read 328 = .ok (.imul, 1) := by decide +kernel
theorem dX7_read_329 : decode cX7_read 329 = .ok (.aload_n 0, 1) := by decide +kernel
theorem dX7_read_330 : decode cX7_read 330 = .ok (.getfield 34, 3) := by decide +kernel
theorem dX7_read_333 : decode cX7_read 333 = .ok (.aload_n 0, 1) := by decide +kernel
theorem dX7_read_334 : decode cX7_read 334 = .ok (.getfield 95, 3) := by decide +kernel
theorem dX7_read_337 : decode cX7_read 337 = .ok (.iaload, 1) := by decide +kernel
theorem dX7_read_338 : decode cX7_read 338 = .ok (.iadd, 1) := by decide +kernel
theorem dX7_read_339 : decode cX7_read 339 = .ok (.iaload, 1) := by decide +kernel
theorem dX7_read_340 : decode cX7_read 340 = .ok (.iastore, 1) := by decide +kernel
theorem dX7_read_341 : decode cX7_read 341 = .ok (.aload_n 0, 1) := by decide +kernel
theorem dX7_read_342 : decode cX7_read 342 = .ok (.getfield 37, 3) := by decide +kernel
theorem dX7_read_345 : decode cX7_read 345 = .ok (.aload_n 0, 1) := by decide +kernel
theorem dX7_read_346 : decode cX7_read 346 = .ok (.getfield 95, 3) := by decide +kernel
theorem dX7_read_349 : decode cX7_read 349 = .ok (.aload_n 0, 1) := by decide +kernel
theorem dX7_read_350 : decode cX7_read 350 = .ok (.getfield 37, 3) := by decide +kernel
theorem dX7_read_353 : decode cX7_read 353 = .ok (.aload_n 0, 1) := by decide +kernel
theorem dX7_read_354 : decode cX7_read 354 = .ok (.getfield 95, 3) := by decide +kernel
theorem dX7_read_357 : decode cX7_read 357 = .ok (.iaload, 1) := by decide +kernel
theorem dX7_read_358 : decode cX7_read 358 = .ok (.ifCond .ne 7, 3) := by decide +kernel
theorem dX7_read_361 : decode cX7_read 361 = .ok (.iconst (-1), 1) := by decide +kernel
theorem dX7_read_362 : decode cX7_read 362 = .ok (.goto 25, 3) := by decide +kernel
theorem dX7_read_365 : decode cX7_read 365 = .ok (.aload_n 0, 1) := by decide +kernel
theorem dX7_read_366 : decode cX7_read 366 = .ok (.getfield 25, 3) := by decide +kernel
theorem dX7_read_369 : decode cX7_read 369 = .ok (.bipush 13, 2) := by decide +kernel
theorem dX7_read_371 : decode cX7_read 371 = .ok (.aload_n 0, 1) := by decide +kernel
theorem dX7_read_372 : decode cX7_read 372 = .ok (.getfield 95, 3) := by decide +kernel
theorem dX7_read_375 : decode cX7_read 375 = .ok (.imul, 1) := by decide +kernel
theorem dX7_read_376 : decode cX7_read 376 = .ok (.aload_n 0, 1) := by decide +kernel
theorem dX7_read_377 : decode cX7_read 377 = .ok (.getfield 37, 3) := by decide +kernel
theorem dX7_read_380 : decode cX7_read 380 = .ok (.aload_n 0, 1) := by decide +kernel
theorem dX7_read_381 : decode cX7_read 381 = .ok (.getfield 95, 3) := by decide +kernel
theorem dX7_read_384 : decode cX7_read 384 = .ok (.iaload, 1) := by decide +kernel
theorem dX7_read_385 : decode cX7_read 385 = .ok (.iadd, 1) := by decide +kernel
theorem dX7_read_386 : decode cX7_read 386 = .ok (.iaload, 1) := by decide +kernel
theorem dX7_read_387 : decode cX7_read 387 = .ok (.iastore, 1) := by decide +kernel
theorem dX7_read_388 : decode cX7_read 388 = .ok (.iconst 0, 1) := by decide +kernel
theorem dX7_read_389 : decode cX7_read 389 = .ok (.istore_n 1, 1) := by decide +kernel
theorem dX7_read_390 : decode cX7_read 390 = .ok (.iload_n 1, 1) := by decide +kernel
theorem dX7_read_391 : decode cX7_read 391 = .ok (.aload_n 0, 1) := by decide +kernel
theorem dX7_read_392 : decode cX7_read 392 = .ok (.getfield 40, 3) := by decide +kernel
theorem dX7_read_395 : decode cX7_read 395 = .ok (.aload_n 0, 1) := by decide +kernel
theorem dX7_read_396 : decode cX7_read 396 = .ok (.getfield 95, 3) := by decide +kernel
theorem dX7_read_399 : decode cX7_read 399 = .ok (.iaload, 1) := by decide +kernel
theorem dX7_read_400 : decode cX7_read 400 = .ok (.if_icmp .ge 48, 3) := by decide +kernel
theorem dX7_read_403 : decode cX7_read 403 = .ok (.aload_n 0, 1) := by decide +kernel
theorem dX7_read_404 : decode cX7_read 404 = .ok (.getfield 43, 3) := by decide +kernel
theorem dX7_read_407 : decode cX7_read 407 = .ok (.iconst 4, 1) := by decide +kernel
theorem dX7_read_408 : decode cX7_read 408 = .ok (.aload_n 0, 1) := by decide +kernel
theorem dX7_read_409 : decode cX7_read 409 = .ok (.getfield 95, 3) := by decide +kernel
theorem dX7_read_412 : decode cX7_read 412 = .ok (.imul, 1) := by decide +kernel
theorem dX7_read_413 : decode cX7_read 413 = .ok (.iload_n 1, 1) := by decide +kernel
theorem dX7_read_414 : decode cX7_read 414 = .ok (.iadd, 1) := by decide +kernel
theorem dX7_read_415 : decode cX7_read 415 = .ok (.aload_n 0, 1) := by decide +kernel
theorem dX7_read_416 : decode cX7_read 416 = .ok (.getfield 25, 3) := by decide +kernel
theorem dX7_read_419 : decode cX7_read 419 = .ok (.bipush 13, 2) := by decide +kernel
theorem dX7_read_421 : decode cX7_read 421 = .ok (.aload_n 0, 1) := by decide +kernel
theorem dX7_read_422 : decode cX7_read 422 = .ok (.getfield 95, 3) := by decide +kernel
theorem dX7_read_425 : decode cX7_read 425 = .ok (.imul, 1) := by decide +kernel
theorem dX7_read_426 : decode cX7_read 426 = .ok (.aload_n 0, 1) := by decide +kernel
theorem dX7_read_427 : decode cX7_read 427 = .ok (.getfield 43, 3) := by decide +kernel
theorem dX7_read_430 : decode cX7_read 430 = .ok (.iconst 4, 1) := by decide +kernel
theorem dX7_read_431 : decode cX7_read 431 = .ok (.aload_n 0, 1) := by decide +kernel
theorem dX7_read_432 : decode cX7_read 432 = .ok (.getfield 95, 3) := by decide +kernel
theorem dX7_read_435 : decode cX7_read 435 = .ok (.imul, 1) := by decide +kernel
theorem dX7_read_436 : decode cX7_read 436 = .ok (.iload_n 1, 1) := by decide +kernel
theorem dX7_read_437 : decode cX7_read 437 = .ok (.iadd, 1) := by decide +kernel
theorem dX7_read_438 : decode cX7_read 438 = .ok (.iaload, 1) := by decide +kernel
theorem dX7_read_439 : decode cX7_read 439 = .ok (.iadd, 1) := by decide +kernel
theorem dX7_read_440 : decode cX7_read 440 = .ok (.iaload, 1) := by decide +kernel
theorem dX7_read_441 : decode cX7_read 441 = .ok (.iastore, 1) := by decide +kernel
theorem dX7_read_442 : decode cX7_read 442 = .ok (.iinc 1 1, 3) := by decide +kernel
theorem dX7_read_445 : decode cX7_read 445 = .ok (.goto (-55), 3) := by decide +kernel
theorem dX7_read_448 : decode cX7_read 448 = .ok (.aload_n 0, 1) := by decide +kernel
theorem dX7_read_449 : decode cX7_read 449 = .ok (.dup, 1) := by decide +kernel
theorem dX7_read_450 : decode cX7_read 450 = .ok (.getfield 116, 3) := by decide +kernel
theorem dX7_read_453 : decode cX7_read 453 = .ok (.iconst 1, 1) := by decide +kernel
theorem dX7_read_454 : decode cX7_read 454 = .ok (.iadd, 1) := by decide +kernel
theorem dX7_read_455 : decode cX7_read 455 = .ok (.putfield 116, 3) := by decide +kernel
theorem dX7_read_458 : decode cX7_read 458 = .ok (.aload_n 0, 1) := by decide +kernel
theorem dX7_read_459 : decode cX7_read 459 = .ok (.getfield 95, 3) := by decide +kernel
theorem dX7_read_462 : decode cX7_read 462 = .ok (.ireturn, 1) := by decide +kernel
theorem dX7_isClass_0 : decode cX7_isClass 0 = .ok (.iload_n 1, 1) := by decide +kernel
theorem dX7_isClass_1 : decode cX7_isClass 1 = .ok (.ifCond .lt 15, 3) := by decide +kernel
theorem dX7_isClass_4 : decode cX7_isClass 4 = .ok (.iload_n 1, 1) := by decide +kernel
theorem dX7_isClass_5 : decode cX7_isClass 5 = .ok (.aload_n 0, 1) := by decide +kernel
theorem dX7_isClass_6 : decode cX7_isClass 6 = .ok (.getfield 116, 3) := by decide +kernel
theorem dX7_isClass_9 : decode cX7_isClass 9 = .ok (.if_icmp .ge 7, 3) := by decide +kernel
theorem dX7_isClass_12 : decode cX7_isClass 12 = .ok (.iconst 1, 1) := by decide +kernel
theorem dX7_isClass_13 : decode cX7_isClass 13 = .ok (.goto 4, 3) := by decide +kernel
theorem dX7_isClass_16 : decode cX7_isClass 16 = .ok (.iconst 0, 1) := by decide +kernel
theorem dX7_isClass_17 : decode cX7_isClass 17 = .ok (.ireturn, 1) := by decide +kernel
theorem dX7_isText_0 : decode cX7_isText 0 = .ok (.iload_n 1, 1) := by decide +kernel
theorem dX7_isText_1 : decode cX7_isText 1 = .ok (.ifCond .lt 15, 3) := by decide +kernel
theorem dX7_isText_4 : decode cX7_isText 4 = .ok (.iload_n 1, 1) := by decide +kernel
theorem dX7_isText_5 : decode cX7_isText 5 = .ok (.aload_n 0, 1) := by decide +kernel
theorem dX7_isText_6 : decode cX7_isText 6 = .ok (.getfield 135, 3) := by decide +kernel
theorem dX7_isText_9 : decode cX7_isText 9 = .ok (.if_icmp .ge 7, 3) := by decide +kernel
theorem dX7_isText_12 : decode cX7_isText 12 = .ok (.iconst 1, 1) := by decide +kernel
theorem dX7_isText_13 : decode cX7_isText 13 = .ok (.goto 4, 3) := by decide +kernel
theorem dX7_isText_16 : decode cX7_isText 16 = .ok (.iconst 0, 1) := by decide +kernel
theorem dX7_isText_17 : decode cX7_isText 17 = .ok (.ireturn, 1) := by decide +kernel
theorem dX7_classes_0 : decode cX7_classes 0 = .ok (.aload_n 0, 1) := by decide +kernel
theorem dX7_classes_1 : decode cX7_classes 1 = .ok (.getfield 116, 3) := by decide +kernel
theorem dX7_classes_4 : decode cX7_classes 4 = .ok (.ireturn, 1) := by decide +kernel
