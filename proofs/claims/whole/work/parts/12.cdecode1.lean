theorem dX3_readConstants_0 : decode cX3_readConstants 0 = .ok (.aload_n 0, 1) := by decide +kernel
theorem dX3_readConstants_1 : decode cX3_readConstants 1 = .ok (.aload_n 0, 1) := by decide +kernel
theorem dX3_readConstants_2 : decode cX3_readConstants 2 = .ok (.bipush 12, 2) := by decide +kernel
theorem dX3_readConstants_4 : decode cX3_readConstants 4 = .ok (.invokevirtual 60, 3) := by decide +kernel
theorem dX3_readConstants_7 : decode cX3_readConstants 7 = .ok (.putfield 95, 3) := by decide +kernel
theorem dX3_readConstants_10 : decode cX3_readConstants 10 = .ok (.iconst 1, 1) := by decide +kernel
theorem dX3_readConstants_11 : decode cX3_readConstants 11 = .ok (.istore_n 1, 1) := by decide +kernel
theorem dX3_readConstants_12 : decode cX3_readConstants 12 = .ok (.iload_n 1, 1) := by decide +kernel
theorem dX3_readConstants_13 : decode cX3_readConstants 13 = .ok (.aload_n 0, 1) := by decide +kernel
theorem dX3_readConstants_14 : decode cX3_readConstants 14 = .ok (.getfield 95, 3) := by decide +kernel
theorem dX3_readConstants_17 : decode cX3_readConstants 17 = .ok (.if_icmp .gt 118, 3) := by decide +kernel
theorem dX3_readConstants_20 : decode cX3_readConstants 20 = .ok (.aload_n 0, 1) := by decide +kernel
theorem dX3_readConstants_21 : decode cX3_readConstants 21 = .ok (.getfield 48, 3) := by decide +kernel
theorem dX3_readConstants_24 : decode cX3_readConstants 24 = .ok (.ifCond .ne 111, 3) := by decide +kernel
theorem dX3_readConstants_27 : decode cX3_readConstants 27 = .ok (.aload_n 0, 1) := by decide +kernel
theorem dX3_readConstants_28 : decode cX3_readConstants 28 = .ok (.getfield 45, 3) := by decide +kernel
theorem dX3_readConstants_31 : decode cX3_readConstants 31 = .ok (.istore_n 2, 1) := by decide +kernel
theorem dX3_readConstants_32 : decode cX3_readConstants 32 = .ok (.aload_n 0, 1) := by decide +kernel
theorem dX3_readConstants_33 : decode cX3_readConstants 33 = .ok (.invokevirtual 92, 3) := by decide +kernel
theorem dX3_readConstants_36 : decode cX3_readConstants 36 = .ok (.istore_n 3, 1) := by decide +kernel
theorem dX3_readConstants_37 : decode cX3_readConstants 37 = .ok (.iload_n 3, 1) := by decide +kernel
theorem dX3_readConstants_38 : decode cX3_readConstants 38 = .ok (.iconst 1, 1) := by decide +kernel
theorem dX3_readConstants_39 : decode cX3_readConstants 39 = .ok (.if_icmp .ne 23, 3) := by decide +kernel
theorem dX3_readConstants_42 : decode cX3_readConstants 42 = .ok (.aload_n 0, 1) := by decide +kernel
theorem dX3_readConstants_43 : decode cX3_readConstants 43 = .ok (.getfield 9, 3) := by decide +kernel
theorem dX3_readConstants_46 : decode cX3_readConstants 46 = .ok (.iload_n 1, 1) := by decide +kernel
theorem dX3_readConstants_47 : decode cX3_readConstants 47 = .ok (.iconst 2, 1) := by decide +kernel
theorem dX3_readConstants_48 : decode cX3_readConstants 48 = .ok (.iastore, 1) := by decide +kernel
theorem dX3_readConstants_49 : decode cX3_readConstants 49 = .ok (.aload_n 0, 1) := by decide +kernel
theorem dX3_readConstants_50 : decode cX3_readConstants 50 = .ok (.getfield 15, 3) := by decide +kernel
theorem dX3_readConstants_53 : decode cX3_readConstants 53 = .ok (.iload_n 1, 1) := by decide +kernel
theorem dX3_readConstants_54 : decode cX3_readConstants 54 = .ok (.aload_n 0, 1) := by decide +kernel
theorem dX3_readConstants_55 : decode cX3_readConstants 55 = .ok (.invokevirtual 98, 3) := by decide +kernel
theorem dX3_readConstants_58 : decode cX3_readConstants 58 = .ok (.iastore, 1) := by decide +kernel
theorem dX3_readConstants_59 : decode cX3_readConstants 59 = .ok (.goto 70, 3) := by decide +kernel
theorem dX3_readConstants_62 : decode cX3_readConstants 62 = .ok (.iload_n 3, 1) := by decide +kernel
theorem dX3_readConstants_63 : decode cX3_readConstants 63 = .ok (.iconst 3, 1) := by decide +kernel
theorem dX3_readConstants_64 : decode cX3_readConstants 64 = .ok (.if_icmp .ne 23, 3) := by decide +kernel
theorem dX3_readConstants_67 : decode cX3_readConstants 67 = .ok (.aload_n 0, 1) := by decide +kernel
theorem dX3_readConstants_68 : decode cX3_readConstants 68 = .ok (.getfield 9, 3) := by decide +kernel
theorem dX3_readConstants_71 : decode cX3_readConstants 71 = .ok (.iload_n 1, 1) := by decide +kernel
theorem dX3_readConstants_72 : decode cX3_readConstants 72 = .ok (.iconst 1, 1) := by decide +kernel
theorem dX3_readConstants_73 : decode cX3_readConstants 73 = .ok (.iastore, 1) := by decide +kernel
theorem dX3_readConstants_74 : decode cX3_readConstants 74 = .ok (.aload_n 0, 1) := by decide +kernel
theorem dX3_readConstants_75 : decode cX3_readConstants 75 = .ok (.getfield 15, 3) := by decide +kernel
theorem dX3_readConstants_78 : decode cX3_readConstants 78 = .ok (.iload_n 1, 1) := by decide +kernel
theorem dX3_readConstants_79 : decode cX3_readConstants 79 = .ok (.aload_n 0, 1) := by decide +kernel
theorem dX3_readConstants_80 : decode cX3_readConstants 80 = .ok (.invokevirtual 101, 3) := by decide +kernel
theorem dX3_readConstants_83 : decode cX3_readConstants 83 = .ok (.iastore, 1) := by decide +kernel
theorem dX3_readConstants_84 : decode cX3_readConstants 84 = .ok (.goto 45, 3) := by decide +kernel
theorem dX3_readConstants_87 : decode cX3_readConstants 87 = .ok (.iload_n 3, 1) := by decide +kernel
theorem dX3_readConstants_88 : decode cX3_readConstants 88 = .ok (.bipush 7, 2) := by decide +kernel
theorem dX3_readConstants_90 : decode cX3_readConstants 90 = .ok (.if_icmp .ne 33, 3) := by decide +kernel
theorem dX3_readConstants_93 : decode cX3_readConstants 93 = .ok (.aload_n 0, 1) := by decide +kernel
theorem dX3_readConstants_94 : decode cX3_readConstants 94 = .ok (.getfield 9, 3) := by decide +kernel
theorem dX3_readConstants_97 : decode cX3_readConstants 97 = .ok (.iload_n 1, 1) := by decide +kernel
theorem dX3_readConstants_98 : decode cX3_readConstants 98 = .ok (.iconst 3, 1) := by decide +kernel
theorem dX3_readConstants_99 : decode cX3_readConstants 99 = .ok (.iastore, 1) := by decide +kernel
theorem dX3_readConstants_100 : decode cX3_readConstants 100 = .ok (.aload_n 0, 1) := by decide +kernel
theorem dX3_readConstants_101 : decode cX3_readConstants 101 = .ok (.getfield 18, 3) := by decide +kernel
theorem dX3_readConstants_104 : decode cX3_readConstants 104 = .ok (.iload_n 1, 1) := by decide +kernel
theorem dX3_readConstants_105 : decode cX3_readConstants 105 = .ok (.aload_n 0, 1) := by decide +kernel
theorem dX3_readConstants_106 : decode cX3_readConstants 106 = .ok (.getfield 45, 3) := by decide +kernel
theorem dX3_readConstants_109 : decode cX3_readConstants 109 = .ok (.iastore, 1) := by decide +kernel
theorem dX3_readConstants_110 : decode cX3_readConstants 110 = .ok (.aload_n 0, 1) := by decide +kernel
theorem dX3_readConstants_111 : decode cX3_readConstants 111 = .ok (.getfield 15, 3) := by decide +kernel
theorem dX3_readConstants_114 : decode cX3_readConstants 114 = .ok (.iload_n 1, 1) := by decide +kernel
theorem dX3_readConstants_115 : decode cX3_readConstants 115 = .ok (.aload_n 0, 1) := by decide +kernel
theorem dX3_readConstants_116 : decode cX3_readConstants 116 = .ok (.invokevirtual 92, 3) := by decide +kernel
theorem dX3_readConstants_119 : decode cX3_readConstants 119 = .ok (.iastore, 1) := by decide +kernel
theorem dX3_readConstants_120 : decode cX3_readConstants 120 = .ok (.goto 9, 3) := by decide +kernel
theorem dX3_readConstants_123 : decode cX3_readConstants 123 = .ok (.aload_n 0, 1) := by decide +kernel
theorem dX3_readConstants_124 : decode cX3_readConstants 124 = .ok (.iconst 3, 1) := by decide +kernel
theorem dX3_readConstants_125 : decode cX3_readConstants 125 = .ok (.iload_n 2, 1) := by decide +kernel
theorem dX3_readConstants_126 : decode cX3_readConstants 126 = .ok (.invokevirtual 83, 3) := by decide +kernel
theorem dX3_readConstants_129 : decode cX3_readConstants 129 = .ok (.iinc 1 1, 3) := by decide +kernel
theorem dX3_readConstants_132 : decode cX3_readConstants 132 = .ok (.goto (-120), 3) := by decide +kernel
theorem dX3_readConstants_135 : decode cX3_readConstants 135 = .ok (.return_, 1) := by decide +kernel
theorem dX3_readText_0 : decode cX3_readText 0 = .ok (.aload_n 0, 1) := by decide +kernel
theorem dX3_readText_1 : decode cX3_readText 1 = .ok (.bipush 10, 2) := by decide +kernel
theorem dX3_readText_3 : decode cX3_readText 3 = .ok (.invokevirtual 60, 3) := by decide +kernel
theorem dX3_readText_6 : decode cX3_readText 6 = .ok (.istore_n 1, 1) := by decide +kernel
theorem dX3_readText_7 : decode cX3_readText 7 = .ok (.aload_n 0, 1) := by decide +kernel
theorem dX3_readText_8 : decode cX3_readText 8 = .ok (.getfield 45, 3) := by decide +kernel
theorem dX3_readText_11 : decode cX3_readText 11 = .ok (.istore_n 2, 1) := by decide +kernel
theorem dX3_readText_12 : decode cX3_readText 12 = .ok (.iconst 0, 1) := by decide +kernel
theorem dX3_readText_13 : decode cX3_readText 13 = .ok (.istore_n 3, 1) := by decide +kernel
theorem dX3_readText_14 : decode cX3_readText 14 = .ok (.iload_n 3, 1) := by decide +kernel
theorem dX3_readText_15 : decode cX3_readText 15 = .ok (.iload_n 1, 1) := by decide +kernel
theorem dX3_readText_16 : decode cX3_readText 16 = .ok (.if_icmp .ge 42, 3) := by decide +kernel
theorem dX3_readText_19 : decode cX3_readText 19 = .ok (.aload_n 0, 1) := by decide +kernel
theorem dX3_readText_20 : decode cX3_readText 20 = .ok (.getfield 45, 3) := by decide +kernel
theorem dX3_readText_23 : decode cX3_readText 23 = .ok (.istore 4, 2) := by decide +kernel
theorem dX3_readText_25 : decode cX3_readText 25 = .ok (.aload_n 0, 1) := by decide +kernel
theorem dX3_readText_26 : decode cX3_readText 26 = .ok (.invokevirtual 92, 3) := by decide +kernel
theorem dX3_readText_29 : decode cX3_readText 29 = .ok (.istore 5, 2) := by decide +kernel
theorem dX3_readText_31 : decode cX3_readText 31 = .ok (.iload 5, 2) := by decide +kernel
theorem dX3_readText_33 : decode cX3_readText 33 = .ok (.bipush 33, 2) := by decide +kernel
theorem dX3_readText_35 : decode cX3_readText 35 = .ok (.if_icmp .lt 10, 3) := by decide +kernel
theorem dX3_readText_38 : decode cX3_readText 38 = .ok (.iload 5, 2) := by decide +kernel
theorem dX3_readText_40 : decode cX3_readText 40 = .ok (.bipush 126, 2) := by decide +kernel
theorem dX3_readText_42 : decode cX3_readText 42 = .ok (.if_icmp .le 10, 3) := by decide +kernel
theorem dX3_readText_45 : decode cX3_readText 45 = .ok (.aload_n 0, 1) := by decide +kernel
theorem dX3_readText_46 : decode cX3_readText 46 = .ok (.iconst 5, 1) := by decide +kernel
theorem dX3_readText_47 : decode cX3_readText 47 = .ok (.iload 4, 2) := by decide +kernel
theorem dX3_readText_49 : decode cX3_readText 49 = .ok (.invokevirtual 83, 3) := by decide +kernel
theorem dX3_readText_52 : decode cX3_readText 52 = .ok (.iinc 3 1, 3) := by decide +kernel
theorem dX3_readText_55 : decode cX3_readText 55 = .ok (.goto (-41), 3) := by decide +kernel
theorem dX3_readText_58 : decode cX3_readText 58 = .ok (.aload_n 0, 1) := by decide +kernel
theorem dX3_readText_59 : decode cX3_readText 59 = .ok (.getfield 48, 3) := by decide +kernel
theorem dX3_readText_62 : decode cX3_readText 62 = .ok (.ifCond .ne 19, 3) := by decide +kernel
theorem dX3_readText_65 : decode cX3_readText 65 = .ok (.aload_n 0, 1) := by decide +kernel
theorem dX3_readText_66 : decode cX3_readText 66 = .ok (.getfield 37, 3) := by decide +kernel
theorem dX3_readText_69 : decode cX3_readText 69 = .ok (.aload_n 0, 1) := by decide +kernel
theorem dX3_readText_70 : decode cX3_readText 70 = .ok (.getfield 30, 3) := by decide +kernel
theorem dX3_readText_73 : decode cX3_readText 73 = .ok (.iload_n 2, 1) := by decide +kernel
theorem dX3_readText_74 : decode cX3_readText 74 = .ok (.iload_n 1, 1) := by decide +kernel
theorem dX3_readText_75 : decode cX3_readText 75 = .ok (.invokevirtual 104, 3) := by decide +kernel
theorem dX3_readText_78 : decode cX3_readText 78 = .ok (.goto 4, 3) := by decide +kernel
theorem dX3_readText_81 : decode cX3_readText 81 = .ok (.iconst (-1), 1) := by decide +kernel
theorem dX3_readText_82 : decode cX3_readText 82 = .ok (.ireturn, 1) := by decide +kernel
theorem dX3_readInt_0 : decode cX3_readInt 0 = .ok (.iconst 0, 1) := by decide +kernel
theorem dX3_readInt_1 : decode cX3_readInt 1 = .ok (.istore_n 1, 1) := by decide +kernel
theorem dX3_readInt_2 : decode cX3_readInt 2 = .ok (.iconst 0, 1) := by decide +kernel
theorem dX3_readInt_3 : decode cX3_readInt 3 = .ok (.istore_n 2, 1) := by decide +kernel
theorem dX3_readInt_4 : decode cX3_readInt 4 = .ok (.iload_n 2, 1) := by decide +kernel
theorem dX3_readInt_5 : decode cX3_readInt 5 = .ok (.iconst 4, 1) := by decide +kernel
theorem dX3_readInt_6 : decode cX3_readInt 6 = .ok (.if_icmp .ge 19, 3) := by decide +kernel
theorem dX3_readInt_9 : decode cX3_readInt 9 = .ok (.iload_n 1, 1) := by decide +kernel
theorem dX3_readInt_10 : decode cX3_readInt 10 = .ok (.bipush 8, 2) := by decide +kernel
theorem dX3_readInt_12 : decode cX3_readInt 12 = .ok (.ishl, 1) := by decide +kernel
theorem dX3_readInt_13 : decode cX3_readInt 13 = .ok (.aload_n 0, 1) := by decide +kernel
theorem dX3_readInt_14 : decode cX3_readInt 14 = .ok (.invokevirtual 92, 3) := by decide +kernel
theorem dX3_readInt_17 : decode cX3_readInt 17 = .ok (.ior, 1) := by decide +kernel
theorem dX3_readInt_18 : decode cX3_readInt 18 = .ok (.istore_n 1, 1) := by decide +kernel
theorem dX3_readInt_19 : decode cX3_readInt 19 = .ok (.iinc 2 1, 3) := by decide +kernel
theorem dX3_readInt_22 : decode cX3_readInt 22 = .ok (.goto (-18), 3) := by decide +kernel
theorem dX3_readInt_25 : decode cX3_readInt 25 = .ok (.iload_n 1, 1) := by decide +kernel
theorem dX3_readInt_26 : decode cX3_readInt 26 = .ok (.ireturn, 1) := by decide +kernel
theorem dX3_nameClassConstants_0 : decode cX3_nameClassConstants 0 = .ok (.iconst 1, 1) := by decide +kernel
theorem dX3_nameClassConstants_1 : decode cX3_nameClassConstants 1 = .ok (.istore_n 1, 1) := by decide +kernel
theorem dX3_nameClassConstants_2 : decode cX3_nameClassConstants 2 = .ok (.iload_n 1, 1) := by decide +kernel
theorem dX3_nameClassConstants_3 : decode cX3_nameClassConstants 3 = .ok (.aload_n 0, 1) := by decide +kernel
theorem dX3_nameClassConstants_4 : decode cX3_nameClassConstants 4 = .ok (.getfield 95, 3) := by decide +kernel
theorem dX3_nameClassConstants_7 : decode cX3_nameClassConstants 7 = .ok (.if_icmp .gt 85, 3) := by decide +kernel
theorem dX3_nameClassConstants_10 : decode cX3_nameClassConstants 10 = .ok (.aload_n 0, 1) := by decide +kernel
theorem dX3_nameClassConstants_11 : decode cX3_nameClassConstants 11 = .ok (.getfield 48, 3) := by decide +kernel
theorem dX3_nameClassConstants_14 : decode cX3_nameClassConstants 14 = .ok (.ifCond .ne 78, 3) := by decide +kernel
theorem dX3_nameClassConstants_17 : decode cX3_nameClassConstants 17 = .ok (.aload_n 0, 1) := by decide +kernel
theorem dX3_nameClassConstants_18 : decode cX3_nameClassConstants 18 = .ok (.getfield 9, 3) := by decide +kernel
theorem dX3_nameClassConstants_21 : decode cX3_nameClassConstants 21 = .ok (.iload_n 1, 1) := by decide +kernel
theorem dX3_nameClassConstants_22 : decode cX3_nameClassConstants 22 = .ok (.iaload, 1) := by decide +kernel
theorem dX3_nameClassConstants_23 : decode cX3_nameClassConstants 23 = .ok (.iconst 3, 1) := by decide +kernel
theorem dX3_nameClassConstants_24 : decode cX3_nameClassConstants 24 = .ok (.if_icmp .ne 62, 3) := by decide +kernel
theorem dX3_nameClassConstants_27 : decode cX3_nameClassConstants 27 = .ok (.aload_n 0, 1) := by decide +kernel
theorem dX3_nameClassConstants_28 : decode cX3_nameClassConstants 28 = .ok (.getfield 15, 3) := by decide +kernel
theorem dX3_nameClassConstants_31 : decode cX3_nameClassConstants 31 = .ok (.iload_n 1, 1) := by decide +kernel
theorem dX3_nameClassConstants_32 : decode cX3_nameClassConstants 32 = .ok (.iaload, 1) := by decide +kernel
theorem dX3_nameClassConstants_33 : decode cX3_nameClassConstants 33 = .ok (.istore_n 2, 1) := by decide +kernel
theorem dX3_nameClassConstants_34 : decode cX3_nameClassConstants 34 = .ok (.aload_n 0, 1) := by decide +kernel
theorem dX3_nameClassConstants_35 : decode cX3_nameClassConstants 35 = .ok (.iload_n 2, 1) := by decide +kernel
theorem dX3_nameClassConstants_36 : decode cX3_nameClassConstants 36 = .ok (.iconst 2, 1) := by decide +kernel
theorem dX3_nameClassConstants_37 : decode cX3_nameClassConstants 37 = .ok (.invokevirtual 110, 3) := by decide +kernel
theorem dX3_nameClassConstants_40 : decode cX3_nameClassConstants 40 = .ok (.ifCond .eq 34, 3) := by decide +kernel
theorem dX3_nameClassConstants_43 : decode cX3_nameClassConstants 43 = .ok (.aload_n 0, 1) := by decide +kernel
theorem dX3_nameClassConstants_44 : decode cX3_nameClassConstants 44 = .ok (.getfield 37, 3) := by decide +kernel
theorem dX3_nameClassConstants_47 : decode cX3_nameClassConstants 47 = .ok (.aload_n 0, 1) := by decide +kernel
theorem dX3_nameClassConstants_48 : decode cX3_nameClassConstants 48 = .ok (.getfield 15, 3) := by decide +kernel
theorem dX3_nameClassConstants_51 : decode cX3_nameClassConstants 51 = .ok (.iload_n 2, 1) := by decide +kernel
theorem dX3_nameClassConstants_52 : decode cX3_nameClassConstants 52 = .ok (.iaload, 1) := by decide +kernel
theorem dX3_nameClassConstants_53 : decode cX3_nameClassConstants 53 = .ok (.invokevirtual 114, 3) := by decide +kernel
theorem dX3_nameClassConstants_56 : decode cX3_nameClassConstants 56 = .ok (.ifCond .le 18, 3) := by decide +kernel
theorem dX3_nameClassConstants_59 : decode cX3_nameClassConstants 59 = .ok (.aload_n 0, 1) := by decide +kernel
theorem dX3_nameClassConstants_60 : decode cX3_nameClassConstants 60 = .ok (.getfield 15, 3) := by decide +kernel
theorem dX3_nameClassConstants_63 : decode cX3_nameClassConstants 63 = .ok (.iload_n 1, 1) := by decide +kernel
theorem dX3_nameClassConstants_64 : decode cX3_nameClassConstants 64 = .ok (.aload_n 0, 1) := by decide +kernel
theorem dX3_nameClassConstants_65 : decode cX3_nameClassConstants 65 = .ok (.getfield 15, 3) := by decide +kernel
theorem dX3_nameClassConstants_68 : decode cX3_nameClassConstants 68 = .ok (.iload_n 2, 1) := by decide +kernel
theorem dX3_nameClassConstants_69 : decode cX3_nameClassConstants 69 = .ok (.iaload, 1) := by decide +kernel
theorem dX3_nameClassConstants_70 : decode cX3_nameClassConstants 70 = .ok (.iastore, 1) := by decide +kernel
theorem dX3_nameClassConstants_71 : decode cX3_nameClassConstants 71 = .ok (.goto 15, 3) := by decide +kernel
theorem dX3_nameClassConstants_74 : decode cX3_nameClassConstants 74 = .ok (.aload_n 0, 1) := by decide +kernel
theorem dX3_nameClassConstants_75 : decode cX3_nameClassConstants 75 = .ok (.bipush 6, 2) := by decide +kernel
theorem dX3_nameClassConstants_77 : decode cX3_nameClassConstants 77 = .ok (.aload_n 0, 1) := by decide +kernel
theorem dX3_nameClassConstants_78 : decode cX3_nameClassConstants 78 = .ok (.getfield 18, 3) := by decide +kernel
theorem dX3_nameClassConstants_81 : decode cX3_nameClassConstants 81 = .ok (.iload_n 1, 1) := by decide +kernel
theorem dX3_nameClassConstants_82 : decode cX3_nameClassConstants 82 = .ok (.iaload, 1) := by decide +kernel
theorem dX3_nameClassConstants_83 : decode cX3_nameClassConstants 83 = .ok (.invokevirtual 83, 3) := by decide +kernel
theorem dX3_nameClassConstants_86 : decode cX3_nameClassConstants 86 = .ok (.iinc 1 1, 3) := by decide +kernel
theorem dX3_nameClassConstants_89 : decode cX3_nameClassConstants 89 = .ok (.goto (-87), 3) := by decide +kernel
theorem dX3_nameClassConstants_92 : decode cX3_nameClassConstants 92 = .ok (.return_, 1) := by decide +kernel
theorem dX3_isConstant_0 : decode cX3_isConstant 0 = .ok (.iload_n 1, 1) := by decide +kernel
theorem dX3_isConstant_1 : decode cX3_isConstant 1 = .ok (.iconst 1, 1) := by decide +kernel
theorem dX3_isConstant_2 : decode cX3_isConstant 2 = .ok (.if_icmp .lt 25, 3) := by decide +kernel
theorem dX3_isConstant_5 : decode cX3_isConstant 5 = .ok (.iload_n 1, 1) := by decide +kernel
theorem dX3_isConstant_6 : decode cX3_isConstant 6 = .ok (.aload_n 0, 1) := by decide +kernel
theorem dX3_isConstant_7 : decode cX3_isConstant 7 = .ok (.getfield 95, 3) := by decide +kernel
theorem dX3_isConstant_10 : decode cX3_isConstant 10 = .ok (.if_icmp .gt 17, 3) := by decide +kernel
theorem dX3_isConstant_13 : decode cX3_isConstant 13 = .ok (.aload_n 0, 1) := by decide +kernel
theorem dX3_isConstant_14 : decode cX3_isConstant 14 = .ok (.getfield 9, 3) := by decide +kernel
theorem dX3_isConstant_17 : decode cX3_isConstant 17 = .ok (.iload_n 1, 1) := by decide +kernel
theorem dX3_isConstant_18 : decode cX3_isConstant 18 = .ok (.iaload, 1) := by decide +kernel
theorem dX3_isConstant_19 : decode cX3_isConstant 19 = .ok (.iload_n 2, 1) := by decide +kernel
theorem dX3_isConstant_20 : decode cX3_isConstant 20 = .ok (.if_icmp .ne 7, 3) := by decide +kernel
theorem dX3_isConstant_23 : decode cX3_isConstant 23 = .ok (.iconst 1, 1) := by decide +kernel
theorem dX3_isConstant_24 : decode cX3_isConstant 24 = .ok (.goto 4, 3) := by decide +kernel
theorem dX3_isConstant_27 : decode cX3_isConstant 27 = .ok (.iconst 0, 1) := by decide +kernel
theorem dX3_isConstant_28 : decode cX3_isConstant 28 = .ok (.ireturn, 1) := by decide +kernel
theorem dX3_readConstant_0 : decode cX3_readConstant 0 = .ok (.aload_n 0, 1) := by decide +kernel
theorem dX3_readConstant_1 : decode cX3_readConstant 1 = .ok (.getfield 45, 3) := by decide +kernel
theorem dX3_readConstant_4 : decode cX3_readConstant 4 = .ok (.istore_n 2, 1) := by decide +kernel
theorem dX3_readConstant_5 : decode cX3_readConstant 5 = .ok (.aload_n 0, 1) := by decide +kernel
theorem dX3_readConstant_6 : decode cX3_readConstant 6 = .ok (.invokevirtual 92, 3) := by decide +kernel
theorem dX3_readConstant_9 : decode cX3_readConstant 9 = .ok (.istore_n 3, 1) := by decide +kernel
theorem dX3_readConstant_10 : decode cX3_readConstant 10 = .ok (.aload_n 0, 1) := by decide +kernel
theorem dX3_readConstant_11 : decode cX3_readConstant 11 = .ok (.iload_n 3, 1) := by decide +kernel
theorem dX3_readConstant_12 : decode cX3_readConstant 12 = .ok (.iload_n 1, 1) := by decide +kernel
theorem dX3_readConstant_13 : decode cX3_readConstant 13 = .ok (.invokevirtual 110, 3) := by decide +kernel
theorem dX3_readConstant_16 : decode cX3_readConstant 16 = .ok (.ifCond .ne 12, 3) := by decide +kernel
theorem dX3_readConstant_19 : decode cX3_readConstant 19 = .ok (.aload_n 0, 1) := by decide +kernel
theorem dX3_readConstant_20 : decode cX3_readConstant 20 = .ok (.bipush 6, 2) := by decide +kernel
theorem dX3_readConstant_22 : decode cX3_readConstant 22 = .ok (.iload_n 2, 1) := by decide +kernel
theorem dX3_readConstant_23 : decode cX3_readConstant 23 = .ok (.invokevirtual 83, 3) := by decide +kernel
theorem dX3_readConstant_26 : decode cX3_readConstant 26 = .ok (.iconst (-1), 1) := by decide +kernel
theorem dX3_readConstant_27 : decode cX3_readConstant 27 = .ok (.ireturn, 1) := by decide +kernel
theorem dX3_readConstant_28 : decode cX3_readConstant 28 = .ok (.aload_n 0, 1) := by decide +kernel
theorem dX3_readConstant_29 : decode cX3_readConstant 29 = .ok (.getfield 15, 3) := by decide +kernel
theorem dX3_readConstant_32 : decode cX3_readConstant 32 = .ok (.iload_n 3, 1) := by decide +kernel
theorem dX3_readConstant_33 : decode cX3_readConstant 33 = .ok (.iaload, 1) := by decide +kernel
theorem dX3_readConstant_34 : decode cX3_readConstant 34 = .ok (.ireturn, 1) := by decide +kernel
theorem dX3_readName_0 : decode cX3_readName 0 = .ok (.aload_n 0, 1) := by decide +kernel
theorem dX3_readName_1 : decode cX3_readName 1 = .ok (.getfield 45, 3) := by decide +kernel
theorem dX3_readName_4 : decode cX3_readName 4 = .ok (.istore_n 1, 1) := by decide +kernel
theorem dX3_readName_5 : decode cX3_readName 5 = .ok (.aload_n 0, 1) := by decide +kernel
theorem dX3_readName_6 : decode cX3_readName 6 = .ok (.iconst 3, 1) := by decide +kernel
theorem dX3_readName_7 : decode cX3_readName 7 = .ok (.invokevirtual 117, 3) := by decide +kernel
theorem dX3_readName_10 : decode cX3_readName 10 = .ok (.istore_n 2, 1) := by decide +kernel
theorem dX3_readName_11 : decode cX3_readName 11 = .ok (.aload_n 0, 1) := by decide +kernel
theorem dX3_readName_12 : decode cX3_readName 12 = .ok (.getfield 41, 3) := by decide +kernel
theorem dX3_readName_15 : decode cX3_readName 15 = .ok (.iload_n 2, 1) := by decide +kernel
theorem dX3_readName_16 : decode cX3_readName 16 = .ok (.invokevirtual 120, 3) := by decide +kernel
theorem dX3_readName_19 : decode cX3_readName 19 = .ok (.iconst (-1), 1) := by decide +kernel
theorem dX3_readName_20 : decode cX3_readName 20 = .ok (.if_icmp .eq 10, 3) := by decide +kernel
theorem dX3_readName_23 : decode cX3_readName 23 = .ok (.aload_n 0, 1) := by decide +kernel
theorem dX3_readName_24 : decode cX3_readName 24 = .ok (.bipush 9, 2) := by decide +kernel
theorem dX3_readName_26 : decode cX3_readName 26 = .ok (.iload_n 1, 1) := by decide +kernel
theorem dX3_readName_27 : decode cX3_readName 27 = .ok (.invokevirtual 83, 3) := by decide +kernel
theorem dX3_readName_30 : decode cX3_readName 30 = .ok (.iload_n 2, 1) := by decide +kernel
theorem dX3_readName_31 : decode cX3_readName 31 = .ok (.ireturn, 1) := by decide +kernel
theorem dX3_readClassOrNone_0 : decode cX3_readClassOrNone 0 = .ok (.aload_n 0, 1) := by decide +kernel
theorem dX3_readClassOrNone_1 : decode cX3_readClassOrNone 1 = .ok (.getfield 45, 3) := by decide +kernel
theorem dX3_readClassOrNone_4 : decode cX3_readClassOrNone 4 = .ok (.aload_n 0, 1) := by decide +kernel
theorem dX3_readClassOrNone_5 : decode cX3_readClassOrNone 5 = .ok (.getfield 33, 3) := by decide +kernel
theorem dX3_readClassOrNone_8 : decode cX3_readClassOrNone 8 = .ok (.if_icmp .ge 27, 3) := by decide +kernel
theorem dX3_readClassOrNone_11 : decode cX3_readClassOrNone 11 = .ok (.aload_n 0, 1) := by decide +kernel
theorem dX3_readClassOrNone_12 : decode cX3_readClassOrNone 12 = .ok (.getfield 30, 3) := by decide +kernel
theorem dX3_readClassOrNone_15 : decode cX3_readClassOrNone 15 = .ok (.aload_n 0, 1) := by decide +kernel
theorem dX3_readClassOrNone_16 : decode cX3_readClassOrNone 16 = .ok (.getfield 45, 3) := by decide +kernel
theorem dX3_readClassOrNone_19 : decode cX3_readClassOrNone 19 = .ok (.iaload, 1) := by decide +kernel
theorem dX3_readClassOrNone_20 : decode cX3_readClassOrNone 20 = .ok (.ifCond .ne 15, 3) := by decide +kernel
theorem dX3_readClassOrNone_23 : decode cX3_readClassOrNone 23 = .ok (.aload_n 0, 1) := by decide +kernel
theorem dX3_readClassOrNone_24 : decode cX3_readClassOrNone 24 = .ok (.dup, 1) := by decide +kernel
theorem dX3_readClassOrNone_25 : decode cX3_readClassOrNone 25 = .ok (.getfield 45, 3) := by decide +kernel
theorem dX3_readClassOrNone_28 : decode cX3_readClassOrNone 28 = .ok (.iconst 1, 1) := by decide +kernel
theorem dX3_readClassOrNone_29 : decode cX3_readClassOrNone 29 = .ok (.iadd, 1) := by decide +kernel
theorem dX3_readClassOrNone_30 : decode cX3_readClassOrNone 30 = .ok (.putfield 45, 3) := by decide +kernel
theorem dX3_readClassOrNone_33 : decode cX3_readClassOrNone 33 = .ok (.iconst (-1), 1) := by decide +kernel
theorem dX3_readClassOrNone_34 : decode cX3_readClassOrNone 34 = .ok (.ireturn, 1) := by decide +kernel
theorem dX3_readClassOrNone_35 : decode cX3_readClassOrNone 35 = .ok (.aload_n 0, 1) := by decide +kernel
theorem dX3_readClassOrNone_36 : decode cX3_readClassOrNone 36 = .ok (.iconst 3, 1) := by decide +kernel
theorem dX3_readClassOrNone_37 : decode cX3_readClassOrNone 37 = .ok (.invokevirtual 117, 3) := by decide +kernel
theorem dX3_readClassOrNone_40 : decode cX3_readClassOrNone 40 = .ok (.ireturn, 1) := by decide +kernel
theorem dX3_readInterfaces_0 : decode cX3_readInterfaces 0 = .ok (.aload_n 0, 1) := by decide +kernel
theorem dX3_readInterfaces_1 : decode cX3_readInterfaces 1 = .ok (.iconst 4, 1) := by decide +kernel
theorem dX3_readInterfaces_2 : decode cX3_readInterfaces 2 = .ok (.invokevirtual 60, 3) := by decide +kernel
theorem dX3_readInterfaces_5 : decode cX3_readInterfaces 5 = .ok (.newarray .int, 2) := by decide +kernel
theorem dX3_readInterfaces_7 : decode cX3_readInterfaces 7 = .ok (.astore_n 1, 1) := by decide +kernel
theorem dX3_readInterfaces_8 : decode cX3_readInterfaces 8 = .ok (.iconst 0, 1) := by decide +kernel
theorem dX3_readInterfaces_9 : decode cX3_readInterfaces 9 = .ok (.istore_n 2, 1) := by decide +kernel
theorem dX3_readInterfaces_10 : decode cX3_readInterfaces 10 = .ok (.iload_n 2, 1) := by decide +kernel
theorem dX3_readInterfaces_11 : decode cX3_readInterfaces 11 = .ok (.aload_n 1, 1) := by decide +kernel
theorem dX3_readInterfaces_12 : decode cX3_readInterfaces 12 = .ok (.arraylength, 1) := by decide +kernel
theorem dX3_readInterfaces_13 : decode cX3_readInterfaces 13 = .ok (.if_icmp .ge 17, 3) := by decide +kernel
theorem dX3_readInterfaces_16 : decode cX3_readInterfaces 16 = .ok (.aload_n 1, 1) := by decide +kernel
theorem dX3_readInterfaces_17 : decode cX3_readInterfaces 17 = .ok (.iload_n 2, 1) := by decide +kernel
theorem dX3_readInterfaces_18 : decode cX3_readInterfaces 18 = .ok (.aload_n 0, 1) := by decide +kernel
theorem dX3_readInterfaces_19 : decode cX3_readInterfaces 19 = .ok (.iconst 3, 1) := by decide +kernel
theorem dX3_readInterfaces_20 : decode cX3_readInterfaces 20 = .ok (.invokevirtual 117, 3) := by decide +kernel
theorem dX3_readInterfaces_23 : decode cX3_readInterfaces 23 = .ok (.iastore, 1) := by decide +kernel
theorem dX3_readInterfaces_24 : decode cX3_readInterfaces 24 = .ok (.iinc 2 1, 3) := by decide +kernel
theorem dX3_readInterfaces_27 : decode cX3_readInterfaces 27 = .ok (.goto (-17), 3) := by decide +kernel
theorem dX3_readInterfaces_30 : decode cX3_readInterfaces 30 = .ok (.aload_n 1, 1) := by decide +kernel
theorem dX3_readInterfaces_31 : decode cX3_readInterfaces 31 = .ok (.areturn, 1) := by decide +kernel
theorem dX3_readAnnotations_0 : decode cX3_readAnnotations 0 = .ok (.aload_n 0, 1) := by decide +kernel
theorem dX3_readAnnotations_1 : decode cX3_readAnnotations 1 = .ok (.iconst 4, 1) := by decide +kernel
theorem dX3_readAnnotations_2 : decode cX3_readAnnotations 2 = .ok (.invokevirtual 60, 3) := by decide +kernel
theorem dX3_readAnnotations_5 : decode cX3_readAnnotations 5 = .ok (.anewarray 125, 3) := by decide +kernel
theorem dX3_readAnnotations_8 : decode cX3_readAnnotations 8 = .ok (.astore_n 1, 1) := by decide +kernel
theorem dX3_readAnnotations_9 : decode cX3_readAnnotations 9 = .ok (.iconst 0, 1) := by decide +kernel
theorem dX3_readAnnotations_10 : decode cX3_readAnnotations 10 = .ok (.istore_n 2, 1) := by decide +kernel
theorem dX3_readAnnotations_11 : decode cX3_readAnnotations 11 = .ok (.iload_n 2, 1) := by decide +kernel
theorem dX3_readAnnotations_12 : decode cX3_readAnnotations 12 = .ok (.aload_n 1, 1) := by decide +kernel
theorem dX3_readAnnotations_13 : decode cX3_readAnnotations 13 = .ok (.arraylength, 1) := by decide +kernel
theorem dX3_readAnnotations_14 : decode cX3_readAnnotations 14 = .ok (.if_icmp .ge 17, 3) := by decide +kernel
theorem dX3_readAnnotations_17 : decode cX3_readAnnotations 17 = .ok (.aload_n 1, 1) := by decide +kernel
theorem dX3_readAnnotations_18 : decode cX3_readAnnotations 18 = .ok (.iload_n 2, 1) := by decide +kernel
theorem dX3_readAnnotations_19 : decode cX3_readAnnotations 19 = .ok (.aload_n 0, 1) := by decide +kernel
theorem dX3_readAnnotations_20 : decode cX3_readAnnotations 20 = .ok (.iconst 1, 1) := by decide +kernel
theorem dX3_readAnnotations_21 : decode cX3_readAnnotations 21 = .ok (.invokevirtual 127, 3) := by decide +kernel
theorem dX3_readAnnotations_24 : decode cX3_readAnnotations 24 = .ok (.aastore, 1) := by decide +kernel
theorem dX3_readAnnotations_25 : decode cX3_readAnnotations 25 = .ok (.iinc 2 1, 3) := by decide +kernel
theorem dX3_readAnnotations_28 : decode cX3_readAnnotations 28 = .ok (.goto (-17), 3) := by decide +kernel
theorem dX3_readAnnotations_31 : decode cX3_readAnnotations 31 = .ok (.aload_n 1, 1) := by decide +kernel
theorem dX3_readAnnotations_32 : decode cX3_readAnnotations 32 = .ok (.areturn, 1) := by decide +kernel
theorem dX3_readAnnotation_0 : decode cX3_readAnnotation 0 = .ok (.aload_n 0, 1) := by decide +kernel
theorem dX3_readAnnotation_1 : decode cX3_readAnnotation 1 = .ok (.iconst 3, 1) := by decide +kernel
theorem dX3_readAnnotation_2 : decode cX3_readAnnotation 2 = .ok (.invokevirtual 117, 3) := by decide +kernel
theorem dX3_readAnnotation_5 : decode cX3_readAnnotation 5 = .ok (.istore_n 2, 1) := by decide +kernel
theorem dX3_readAnnotation_6 : decode cX3_readAnnotation 6 = .ok (.new 125, 3) := by decide +kernel
theorem dX3_readAnnotation_9 : decode cX3_readAnnotation 9 = .ok (.dup, 1) := by decide +kernel
theorem dX3_readAnnotation_10 : decode cX3_readAnnotation 10 = .ok (.iconst 5, 1) := by decide +kernel
theorem dX3_readAnnotation_11 : decode cX3_readAnnotation 11 = .ok (.iload_n 2, 1) := by decide +kernel
theorem dX3_readAnnotation_12 : decode cX3_readAnnotation 12 = .ok (.aload_n 0, 1) := by decide +kernel
theorem dX3_readAnnotation_13 : decode cX3_readAnnotation 13 = .ok (.iconst 1, 1) := by decide +kernel
theorem dX3_readAnnotation_14 : decode cX3_readAnnotation 14 = .ok (.iload_n 1, 1) := by decide +kernel
theorem dX3_readAnnotation_15 : decode cX3_readAnnotation 15 = .ok (.invokevirtual 79, 3) := by decide +kernel
theorem dX3_readAnnotation_18 : decode cX3_readAnnotation 18 = .ok (.invokespecial 131, 3) := by decide +kernel
theorem dX3_readAnnotation_21 : decode cX3_readAnnotation 21 = .ok (.areturn, 1) := by decide +kernel
theorem dX3_readRow_0 : decode cX3_readRow 0 = .ok (.aload_n 0, 1) := by decide +kernel
theorem dX3_readRow_1 : decode cX3_readRow 1 = .ok (.iconst 0, 1) := by decide +kernel
theorem dX3_readRow_2 : decode cX3_readRow 2 = .ok (.iload_n 1, 1) := by decide +kernel
theorem dX3_readRow_3 : decode cX3_readRow 3 = .ok (.invokevirtual 79, 3) := by decide +kernel
theorem dX3_readRow_6 : decode cX3_readRow 6 = .ok (.astore_n 2, 1) := by decide +kernel
theorem dX3_readRow_7 : decode cX3_readRow 7 = .ok (.new 125, 3) := by decide +kernel
theorem dX3_readRow_10 : decode cX3_readRow 10 = .ok (.dup, 1) := by decide +kernel
theorem dX3_readRow_11 : decode cX3_readRow 11 = .ok (.iconst 4, 1) := by decide +kernel
theorem dX3_readRow_12 : decode cX3_readRow 12 = .ok (.aload_n 2, 1) := by decide +kernel
theorem dX3_readRow_13 : decode cX3_readRow 13 = .ok (.getfield 134, 3) := by decide +kernel
theorem dX3_readRow_16 : decode cX3_readRow 16 = .ok (.arraylength, 1) := by decide +kernel
theorem dX3_readRow_17 : decode cX3_readRow 17 = .ok (.aload_n 2, 1) := by decide +kernel
theorem dX3_readRow_18 : decode cX3_readRow 18 = .ok (.invokespecial 131, 3) := by decide +kernel
theorem dX3_readRow_21 : decode cX3_readRow 21 = .ok (.areturn, 1) := by decide +kernel
theorem dX3_readParts_0 : decode cX3_readParts 0 = .ok (.new 21, 3) := by decide +kernel
theorem dX3_readParts_3 : decode cX3_readParts 3 = .ok (.dup, 1) := by decide +kernel
theorem dX3_readParts_4 : decode cX3_readParts 4 = .ok (.aload_n 0, 1) := by decide +kernel
theorem dX3_readParts_5 : decode cX3_readParts 5 = .ok (.iconst 4, 1) := by decide +kernel
theorem dX3_readParts_6 : decode cX3_readParts 6 = .ok (.invokevirtual 60, 3) := by decide +kernel
theorem dX3_readParts_9 : decode cX3_readParts 9 = .ok (.invokespecial 23, 3) := by decide +kernel
theorem dX3_readParts_12 : decode cX3_readParts 12 = .ok (.astore_n 3, 1) := by decide +kernel
theorem dX3_readParts_13 : decode cX3_readParts 13 = .ok (.iconst 0, 1) := by decide +kernel
theorem dX3_readParts_14 : decode cX3_readParts 14 = .ok (.istore 4, 2) := by decide +kernel
theorem dX3_readParts_16 : decode cX3_readParts 16 = .ok (.iload 4, 2) := by decide +kernel
theorem dX3_readParts_18 : decode cX3_readParts 18 = .ok (.aload_n 3, 1) := by decide +kernel
theorem dX3_readParts_19 : decode cX3_readParts 19 = .ok (.getfield 134, 3) := by decide +kernel
theorem dX3_readParts_22 : decode cX3_readParts 22 = .ok (.arraylength, 1) := by decide +kernel
theorem dX3_readParts_23 : decode cX3_readParts 23 = .ok (.if_icmp .ge 41, 3) := by decide +kernel
theorem dX3_readParts_26 : decode cX3_readParts 26 = .ok (.aload_n 3, 1) := by decide +kernel
theorem dX3_readParts_27 : decode cX3_readParts 27 = .ok (.getfield 138, 3) := by decide +kernel
theorem dX3_readParts_30 : decode cX3_readParts 30 = .ok (.iload 4, 2) := by decide +kernel
theorem dX3_readParts_32 : decode cX3_readParts 32 = .ok (.iload_n 1, 1) := by decide +kernel
theorem dX3_readParts_33 : decode cX3_readParts 33 = .ok (.ifCond .eq 11, 3) := by decide +kernel
theorem dX3_readParts_36 : decode cX3_readParts 36 = .ok (.aload_n 0, 1) := by decide +kernel
theorem dX3_readParts_37 : decode cX3_readParts 37 = .ok (.iconst 2, 1) := by decide +kernel
theorem dX3_readParts_38 : decode cX3_readParts 38 = .ok (.invokevirtual 117, 3) := by decide +kernel
theorem dX3_readParts_41 : decode cX3_readParts 41 = .ok (.goto 4, 3) := by decide +kernel
theorem dX3_readParts_44 : decode cX3_readParts 44 = .ok (.iconst (-1), 1) := by decide +kernel
theorem dX3_readParts_45 : decode cX3_readParts 45 = .ok (.iastore, 1) := by decide +kernel
theorem dX3_readParts_46 : decode cX3_readParts 46 = .ok (.aload_n 3, 1) := by decide +kernel
theorem dX3_readParts_47 : decode cX3_readParts 47 = .ok (.getfield 134, 3) := by decide +kernel
theorem dX3_readParts_50 : decode cX3_readParts 50 = .ok (.iload 4, 2) := by decide +kernel
theorem dX3_readParts_52 : decode cX3_readParts 52 = .ok (.aload_n 0, 1) := by decide +kernel
theorem dX3_readParts_53 : decode cX3_readParts 53 = .ok (.iload_n 2, 1) := by decide +kernel
theorem dX3_readParts_54 : decode cX3_readParts 54 = .ok (.invokevirtual 141, 3) := by decide +kernel
theorem dX3_readParts_57 : decode cX3_readParts 57 = .ok (.aastore, 1) := by decide +kernel
theorem dX3_readParts_58 : decode cX3_readParts 58 = .ok (.iinc 4 1, 3) := by decide +kernel
theorem dX3_readParts_61 : decode cX3_readParts 61 = .ok (.goto (-45), 3) := by decide +kernel
theorem dX3_readParts_64 : decode cX3_readParts 64 = .ok (.aload_n 3, 1) := by decide +kernel
theorem dX3_readParts_65 : decode cX3_readParts 65 = .ok (.areturn, 1) := by decide +kernel
theorem dX3_readValue_0 : decode cX3_readValue 0 = .ok (.aload_n 0, 1) := by decide +kernel
theorem dX3_readValue_1 : decode cX3_readValue 1 = .ok (.getfield 45, 3) := by decide +kernel
theorem dX3_readValue_4 : decode cX3_readValue 4 = .ok (.istore_n 2, 1) := by decide +kernel
theorem dX3_readValue_5 : decode cX3_readValue 5 = .ok (.aload_n 0, 1) := by decide +kernel
theorem dX3_readValue_6 : decode cX3_readValue 6 = .ok (.invokevirtual 92, 3) := by decide +kernel
theorem dX3_readValue_9 : decode cX3_readValue 9 = .ok (.istore_n 3, 1) := by decide +kernel
theorem dX3_readValue_10 : decode cX3_readValue 10 = .ok (.iload_n 1, 1) := by decide +kernel
theorem dX3_readValue_11 : decode cX3_readValue 11 = .ok (.iconst 5, 1) := by decide +kernel
theorem dX3_readValue_12 : decode cX3_readValue 12 = .ok (.if_icmp .lt 24, 3) := by decide +kernel
theorem dX3_readValue_15 : decode cX3_readValue 15 = .ok (.aload_n 0, 1) := by decide +kernel
theorem dX3_readValue_16 : decode cX3_readValue 16 = .ok (.bipush 7, 2) := by decide +kernel
theorem dX3_readValue_18 : decode cX3_readValue 18 = .ok (.iload_n 2, 1) := by decide +kernel
theorem dX3_readValue_19 : decode cX3_readValue 19 = .ok (.invokevirtual 83, 3) := by decide +kernel
theorem dX3_readValue_22 : decode cX3_readValue 22 = .ok (.new 125, 3) := by decide +kernel
theorem dX3_readValue_25 : decode cX3_readValue 25 = .ok (.dup, 1) := by decide +kernel
theorem dX3_readValue_26 : decode cX3_readValue 26 = .ok (.iconst 0, 1) := by decide +kernel
theorem dX3_readValue_27 : decode cX3_readValue 27 = .ok (.iconst 0, 1) := by decide +kernel
theorem dX3_readValue_28 : decode cX3_readValue 28 = .ok (.aload_n 0, 1) := by decide +kernel
theorem dX3_readValue_29 : decode cX3_readValue 29 = .ok (.getfield 26, 3) := by decide +kernel
theorem dX3_readValue_32 : decode cX3_readValue 32 = .ok (.invokespecial 131, 3) := by decide +kernel
theorem dX3_readValue_35 : decode cX3_readValue 35 = .ok (.areturn, 1) := by decide +kernel
theorem dX3_readValue_36 : decode cX3_readValue 36 = .ok (.iload_n 3, 1) := by decide +kernel
theorem dX3_readValue_37 : decode cX3_readValue 37 = .ok (.lookupswitch 121 #[(64, 113), (73, 51), (91, 105), (99, 87), (115, 69)], 51) := by decide +kernel
theorem dX3_readValue_88 : decode cX3_readValue 88 = .ok (.new 125, 3) := by decide +kernel
theorem dX3_readValue_91 : decode cX3_readValue 91 = .ok (.dup, 1) := by decide +kernel
theorem dX3_readValue_92 : decode cX3_readValue 92 = .ok (.iconst 1, 1) := by decide +kernel
theorem dX3_readValue_93 : decode cX3_readValue 93 = .ok (.aload_n 0, 1) := by decide +kernel
theorem dX3_readValue_94 : decode cX3_readValue 94 = .ok (.iconst 1, 1) := by decide +kernel
theorem dX3_readValue_95 : decode cX3_readValue 95 = .ok (.invokevirtual 117, 3) := by decide +kernel
theorem dX3_readValue_98 : decode cX3_readValue 98 = .ok (.aload_n 0, 1) := by decide +kernel
theorem dX3_readValue_99 : decode cX3_readValue 99 = .ok (.getfield 26, 3) := by decide +kernel
theorem dX3_readValue_102 : decode cX3_readValue 102 = .ok (.invokespecial 131, 3) := by decide +kernel
theorem dX3_readValue_105 : decode cX3_readValue 105 = .ok (.areturn, 1) := by decide +kernel
theorem dX3_readValue_106 : decode cX3_readValue 106 = .ok (.new 125, 3) := by decide +kernel
theorem dX3_readValue_109 : decode cX3_readValue 109 = .ok (.dup, 1) := by decide +kernel
theorem dX3_readValue_110 : decode cX3_readValue 110 = .ok (.iconst 2, 1) := by decide +kernel
theorem dX3_readValue_111 : decode cX3_readValue 111 = .ok (.aload_n 0, 1) := by decide +kernel
theorem dX3_readValue_112 : decode cX3_readValue 112 = .ok (.iconst 2, 1) := by decide +kernel
theorem dX3_readValue_113 : decode cX3_readValue 113 = .ok (.invokevirtual 117, 3) := by decide +kernel
theorem dX3_readValue_116 : decode cX3_readValue 116 = .ok (.aload_n 0, 1) := by decide +kernel
theorem dX3_readValue_117 : decode cX3_readValue 117 = .ok (.getfield 26, 3) := by decide +kernel
theorem dX3_readValue_120 : decode cX3_readValue 120 = .ok (.invokespecial 131, 3) := by decide +kernel
theorem dX3_readValue_123 : decode cX3_readValue 123 = .ok (.areturn, 1) := by decide +kernel
theorem dX3_readValue_124 : decode cX3_readValue 124 = .ok (.new 125, 3) := by decide +kernel
theorem dX3_readValue_127 : decode cX3_readValue 127 = .ok (.dup, 1) := by decide +kernel
theorem dX3_readValue_128 : decode cX3_readValue 128 = .ok (.iconst 3, 1) := by decide +kernel
theorem dX3_readValue_129 : decode cX3_readValue 129 = .ok (.aload_n 0, 1) := by decide +kernel
theorem dX3_readValue_130 : decode cX3_readValue 130 = .ok (.iconst 3, 1) := by decide +kernel
theorem dX3_readValue_131 : decode cX3_readValue 131 = .ok (.invokevirtual 117, 3) := by decide +kernel
theorem dX3_readValue_134 : decode cX3_readValue 134 = .ok (.aload_n 0, 1) := by decide +kernel
theorem dX3_readValue_135 : decode cX3_readValue 135 = .ok (.getfield 26, 3) := by decide +kernel
theorem dX3_readValue_138 : decode cX3_readValue 138 = .ok (.invokespecial 131, 3) := by decide +kernel
theorem dX3_readValue_141 : decode cX3_readValue 141 = .ok (.areturn, 1) := by decide +kernel
theorem dX3_readValue_142 : decode cX3_readValue 142 = .ok (.aload_n 0, 1) := by decide +kernel
theorem dX3_readValue_143 : decode cX3_readValue 143 = .ok (.iload_n 1, 1) := by decide +kernel
theorem dX3_readValue_144 : decode cX3_readValue 144 = .ok (.iconst 1, 1) := by decide +kernel
theorem dX3_readValue_145 : decode cX3_readValue 145 = .ok (.iadd, 1) := by decide +kernel
theorem dX3_readValue_146 : decode cX3_readValue 146 = .ok (.invokevirtual 144, 3) := by decide +kernel
theorem dX3_readValue_149 : decode cX3_readValue 149 = .ok (.areturn, 1) := by decide +kernel
theorem dX3_readValue_150 : decode cX3_readValue 150 = .ok (.aload_n 0, 1) := by decide +kernel
theorem dX3_readValue_151 : decode cX3_readValue 151 = .ok (.iload_n 1, 1) := by decide +kernel
theorem dX3_readValue_152 : decode cX3_readValue 152 = .ok (.iconst 1, 1) := by decide +kernel
theorem dX3_readValue_153 : decode cX3_readValue 153 = .ok (.iadd, 1) := by decide +kernel
theorem dX3_readValue_154 : decode cX3_readValue 154 = .ok (.invokevirtual 127, 3) := by decide +kernel
theorem dX3_readValue_157 : decode cX3_readValue 157 = .ok (.areturn, 1) := by decide +kernel
theorem dX3_readValue_158 : decode cX3_readValue 158 = .ok (.aload_n 0, 1) := by decide +kernel
theorem dX3_readValue_159 : decode cX3_readValue 159 = .ok (.iconst 3, 1) := by decide +kernel
theorem dX3_readValue_160 : decode cX3_readValue 160 = .ok (.iload_n 2, 1) := by decide +kernel
theorem dX3_readValue_161 : decode cX3_readValue 161 = .ok (.invokevirtual 83, 3) := by decide +kernel
theorem dX3_readValue_164 : decode cX3_readValue 164 = .ok (.new 125, 3) := by decide +kernel
theorem dX3_readValue_167 : decode cX3_readValue 167 = .ok (.dup, 1) := by decide +kernel
theorem dX3_readValue_168 : decode cX3_readValue 168 = .ok (.iconst 0, 1) := by decide +kernel
theorem dX3_readValue_169 : decode cX3_readValue 169 = .ok (.iconst 0, 1) := by decide +kernel
theorem dX3_readValue_170 : decode cX3_readValue 170 = .ok (.aload_n 0, 1) := by decide +kernel
theorem dX3_readValue_171 : decode cX3_readValue 171 = .ok (.getfield 26, 3) := by decide +kernel
theorem dX3_readValue_174 : decode cX3_readValue 174 = .ok (.invokespecial 131, 3) := by decide +kernel
theorem dX3_readValue_177 : decode cX3_readValue 177 = .ok (.areturn, 1) := by decide +kernel
theorem dX4_init_0 : decode cX4_init 0 = .ok (.aload_n 0, 1) := by decide +kernel
theorem dX4_init_1 : decode cX4_init 1 = .ok (.invokespecial 3, 3) := by decide +kernel
theorem dX4_init_4 : decode cX4_init 4 = .ok (.aload_n 0, 1) := by decide +kernel
theorem dX4_init_5 : decode cX4_init 5 = .ok (.sipush 1920, 3) := by decide +kernel
theorem dX4_init_8 : decode cX4_init 8 = .ok (.newarray .byte, 2) := by decide +kernel
theorem dX4_init_10 : decode cX4_init 10 = .ok (.putfield 9, 3) := by decide +kernel
theorem dX4_init_13 : decode cX4_init 13 = .ok (.aload_n 0, 1) := by decide +kernel
theorem dX4_init_14 : decode cX4_init 14 = .ok (.sipush 192, 3) := by decide +kernel
theorem dX4_init_17 : decode cX4_init 17 = .ok (.newarray .int, 2) := by decide +kernel
theorem dX4_init_19 : decode cX4_init 19 = .ok (.putfield 15, 3) := by decide +kernel
theorem dX4_init_22 : decode cX4_init 22 = .ok (.aload_n 0, 1) := by decide +kernel
theorem dX4_init_23 : decode cX4_init 23 = .ok (.iconst 0, 1) := by decide +kernel
theorem dX4_init_24 : decode cX4_init 24 = .ok (.putfield 19, 3) := by decide +kernel
theorem dX4_init_27 : decode cX4_init 27 = .ok (.return_, 1) := by decide +kernel
theorem dX4_has_0 : decode cX4_has 0 = .ok (.iload_n 1, 1) := by decide +kernel
theorem dX4_has_1 : decode cX4_has 1 = .ok (.ifCond .lt 15, 3) := by decide +kernel
theorem dX4_has_4 : decode cX4_has 4 = .ok (.iload_n 1, 1) := by decide +kernel
theorem dX4_has_5 : decode cX4_has 5 = .ok (.aload_n 0, 1) := by decide +kernel
theorem dX4_has_6 : decode cX4_has 6 = .ok (.getfield 19, 3) := by decide +kernel
theorem dX4_has_9 : decode cX4_has 9 = .ok (.if_icmp .ge 7, 3) := by decide +kernel
theorem dX4_has_12 : decode cX4_has 12 = .ok (.iconst 1, 1) := by decide +kernel
theorem dX4_has_13 : decode cX4_has 13 = .ok (.goto 4, 3) := by decide +kernel
theorem dX4_has_16 : decode cX4_has 16 = .ok (.iconst 0, 1) := by decide +kernel
theorem dX4_has_17 : decode cX4_has 17 = .ok (.ireturn, 1) := by decide +kernel
theorem dX4_lengthOf_0 : decode cX4_lengthOf 0 = .ok (.aload_n 0, 1) := by decide +kernel
theorem dX4_lengthOf_1 : decode cX4_lengthOf 1 = .ok (.iload_n 1, 1) := by decide +kernel
theorem dX4_lengthOf_2 : decode cX4_lengthOf 2 = .ok (.invokevirtual 23, 3) := by decide +kernel
theorem dX4_lengthOf_5 : decode cX4_lengthOf 5 = .ok (.ifCond .eq 12, 3) := by decide +kernel
theorem dX4_lengthOf_8 : decode cX4_lengthOf 8 = .ok (.aload_n 0, 1) := by decide +kernel
theorem dX4_lengthOf_9 : decode cX4_lengthOf 9 = .ok (.getfield 15, 3) := by decide +kernel
theorem dX4_lengthOf_12 : decode cX4_lengthOf 12 = .ok (.iload_n 1, 1) := by decide +kernel
theorem dX4_lengthOf_13 : decode cX4_lengthOf 13 = .ok (.iaload, 1) := by decide +kernel
theorem dX4_lengthOf_14 : decode cX4_lengthOf 14 = .ok (.goto 4, 3) := by decide +kernel
theorem dX4_lengthOf_17 : decode cX4_lengthOf 17 = .ok (.iconst 0, 1) := by decide +kernel
theorem dX4_lengthOf_18 : decode cX4_lengthOf 18 = .ok (.ireturn, 1) := by decide +kernel
theorem dX4_letterOf_0 : decode cX4_letterOf 0 = .ok (.iload_n 2, 1) := by decide +kernel
theorem dX4_letterOf_1 : decode cX4_letterOf 1 = .ok (.ifCond .lt 26, 3) := by decide +kernel
theorem dX4_letterOf_4 : decode cX4_letterOf 4 = .ok (.iload_n 2, 1) := by decide +kernel
theorem dX4_letterOf_5 : decode cX4_letterOf 5 = .ok (.aload_n 0, 1) := by decide +kernel
theorem dX4_letterOf_6 : decode cX4_letterOf 6 = .ok (.iload_n 1, 1) := by decide +kernel
theorem dX4_letterOf_7 : decode cX4_letterOf 7 = .ok (.invokevirtual 27, 3) := by decide +kernel
theorem dX4_letterOf_10 : decode cX4_letterOf 10 = .ok (.if_icmp .ge 17, 3) := by decide +kernel
theorem dX4_letterOf_13 : decode cX4_letterOf 13 = .ok (.aload_n 0, 1) := by decide +kernel
theorem dX4_letterOf_14 : decode cX4_letterOf 14 = .ok (.getfield 9, 3) := by decide +kernel
theorem dX4_letterOf_17 : decode cX4_letterOf 17 = .ok (.iload_n 1, 1) := by decide +kernel
theorem dX4_letterOf_18 : decode cX4_letterOf 18 = .ok (.bipush 10, 2) := by decide +kernel
theorem dX4_letterOf_20 : decode cX4_letterOf 20 = .ok (.imul, 1) := by decide +kernel
theorem dX4_letterOf_21 : decode cX4_letterOf 21 = .ok (.iload_n 2, 1) := by decide +kernel
theorem dX4_letterOf_22 : decode cX4_letterOf 22 = .ok (.iadd, 1) := by decide +kernel
theorem dX4_letterOf_23 : decode cX4_letterOf 23 = .ok (.baload, 1) := by decide +kernel
theorem dX4_letterOf_24 : decode cX4_letterOf 24 = .ok (.goto 4, 3) := by decide +kernel
theorem dX4_letterOf_27 : decode cX4_letterOf 27 = .ok (.iconst 0, 1) := by decide +kernel
theorem dX4_letterOf_28 : decode cX4_letterOf 28 = .ok (.ireturn, 1) := by decide +kernel
theorem dX4_shrink_0 : decode cX4_shrink 0 = .ok (.aload_n 0, 1) := by decide +kernel
theorem dX4_shrink_1 : decode cX4_shrink 1 = .ok (.iload_n 1, 1) := by decide +kernel
theorem dX4_shrink_2 : decode cX4_shrink 2 = .ok (.putfield 19, 3) := by decide +kernel
theorem dX4_shrink_5 : decode cX4_shrink 5 = .ok (.return_, 1) := by decide +kernel
theorem dX4_numberOf_0 : decode cX4_numberOf 0 = .ok (.iconst 0, 1) := by decide +kernel
theorem dX4_numberOf_1 : decode cX4_numberOf 1 = .ok (.istore 4, 2) := by decide +kernel
theorem dX4_numberOf_3 : decode cX4_numberOf 3 = .ok (.iload 4, 2) := by decide +kernel
theorem dX4_numberOf_5 : decode cX4_numberOf 5 = .ok (.aload_n 0, 1) := by decide +kernel
theorem dX4_numberOf_6 : decode cX4_numberOf 6 = .ok (.getfield 19, 3) := by decide +kernel
theorem dX4_numberOf_9 : decode cX4_numberOf 9 = .ok (.if_icmp .ge 24, 3) := by decide +kernel
theorem dX4_numberOf_12 : decode cX4_numberOf 12 = .ok (.aload_n 0, 1) := by decide +kernel
theorem dX4_numberOf_13 : decode cX4_numberOf 13 = .ok (.iload 4, 2) := by decide +kernel
theorem dX4_numberOf_15 : decode cX4_numberOf 15 = .ok (.aload_n 1, 1) := by decide +kernel
theorem dX4_numberOf_16 : decode cX4_numberOf 16 = .ok (.iload_n 2, 1) := by decide +kernel
theorem dX4_numberOf_17 : decode cX4_numberOf 17 = .ok (.iload_n 3, 1) := by decide +kernel
theorem dX4_numberOf_18 : decode cX4_numberOf 18 = .ok (.invokevirtual 31, 3) := by decide +kernel
theorem dX4_numberOf_21 : decode cX4_numberOf 21 = .ok (.ifCond .eq 6, 3) := by decide +kernel
theorem dX4_numberOf_24 : decode cX4_numberOf 24 = .ok (.iload 4, 2) := by decide +kernel
theorem dX4_numberOf_26 : decode cX4_numberOf 26 = .ok (.ireturn, 1) := by decide +kernel
theorem dX4_numberOf_27 : decode cX4_numberOf 27 = .ok (.iinc 4 1, 3) := by decide +kernel
theorem dX4_numberOf_30 : decode cX4_numberOf 30 = .ok (.goto (-27), 3) := by decide +kernel
theorem dX4_numberOf_33 : decode cX4_numberOf 33 = .ok (.aload_n 0, 1) := by decide +kernel
theorem dX4_numberOf_34 : decode cX4_numberOf 34 = .ok (.getfield 19, 3) := by decide +kernel
theorem dX4_numberOf_37 : decode cX4_numberOf 37 = .ok (.sipush 192, 3) := by decide +kernel
theorem dX4_numberOf_40 : decode cX4_numberOf 40 = .ok (.if_icmp .ne 5, 3) := by decide +kernel
theorem dX4_numberOf_43 : decode cX4_numberOf 43 = .ok (.iconst (-1), 1) := by decide +kernel
theorem dX4_numberOf_44 : decode cX4_numberOf 44 = .ok (.ireturn, 1) := by decide +kernel
theorem dX4_numberOf_45 : decode cX4_numberOf 45 = .ok (.iconst 0, 1) := by decide +kernel
theorem dX4_numberOf_46 : decode cX4_numberOf 46 = .ok (.istore 4, 2) := by decide +kernel
theorem dX4_numberOf_48 : decode cX4_numberOf 48 = .ok (.iload 4, 2) := by decide +kernel
theorem dX4_numberOf_50 : decode cX4_numberOf 50 = .ok (.iload_n 3, 1) := by decide +kernel
theorem dX4_numberOf_51 : decode cX4_numberOf 51 = .ok (.if_icmp .ge 31, 3) := by decide +kernel
theorem dX4_numberOf_54 : decode cX4_numberOf 54 = .ok (.aload_n 0, 1) := by decide +kernel
theorem dX4_numberOf_55 : decode cX4_numberOf 55 = .ok (.getfield 9, 3) := by decide +kernel
theorem dX4_numberOf_58 : decode cX4_numberOf 58 = .ok (.aload_n 0, 1) := by decide +kernel
theorem dX4_numberOf_59 : decode cX4_numberOf 59 = .ok (.getfield 19, 3) := by decide +kernel
theorem dX4_numberOf_62 : decode cX4_numberOf 62 = .ok (.bipush 10, 2) := by decide +kernel
theorem dX4_numberOf_64 : decode cX4_numberOf 64 = .ok (.imul, 1) := by decide +kernel
theorem dX4_numberOf_65 : decode cX4_numberOf 65 = .ok (.iload 4, 2) := by decide +kernel
theorem dX4_numberOf_67 : decode cX4_numberOf 67 = .ok (.iadd, 1) := by decide +kernel
theorem dX4_numberOf_68 : decode cX4_numberOf 68 = .ok (.aload_n 1, 1) := by decide +kernel
theorem dX4_numberOf_69 : decode cX4_numberOf 69 = .ok (.iload_n 2, 1) := by decide +kernel
theorem dX4_numberOf_70 : decode cX4_numberOf 70 = .ok (.iload 4, 2) := by decide +kernel
theorem dX4_numberOf_72 : decode cX4_numberOf 72 = .ok (.iadd, 1) := by decide +kernel
theorem dX4_numberOf_73 : decode cX4_numberOf 73 = .ok (.iaload, 1) := by decide +kernel
theorem dX4_numberOf_74 : decode cX4_numberOf 74 = .ok (.i2b, 1) := by decide +kernel
theorem dX4_numberOf_75 : decode cX4_numberOf 75 = .ok (.bastore, 1) := by decide +kernel
theorem dX4_numberOf_76 : decode cX4_numberOf 76 = .ok (.iinc 4 1, 3) := by decide +kernel
theorem dX4_numberOf_79 : decode cX4_numberOf 79 = .ok (.goto (-31), 3) := by decide +kernel
theorem dX4_numberOf_82 : decode cX4_numberOf 82 = .ok (.aload_n 0, 1) := by decide +kernel
theorem dX4_numberOf_83 : decode cX4_numberOf 83 = .ok (.getfield 15, 3) := by decide +kernel
theorem dX4_numberOf_86 : decode cX4_numberOf 86 = .ok (.aload_n 0, 1) := by decide +kernel
theorem dX4_numberOf_87 : decode cX4_numberOf 87 = .ok (.getfield 19, 3) := by decide +kernel
theorem dX4_numberOf_90 : decode cX4_numberOf 90 = .ok (.iload_n 3, 1) := by decide +kernel
theorem dX4_numberOf_91 : decode cX4_numberOf 91 = .ok (.iastore, 1) := by decide +kernel
theorem dX4_numberOf_92 : decode cX4_numberOf 92 = .ok (.aload_n 0, 1) := by decide +kernel
theorem dX4_numberOf_93 : decode cX4_numberOf 93 = .ok (.dup, 1) := by decide +kernel
theorem dX4_numberOf_94 : decode cX4_numberOf 94 = .ok (.getfield 19, 3) := by decide +kernel
theorem dX4_numberOf_97 : decode cX4_numberOf 97 = .ok (.iconst 1, 1) := by decide +kernel
theorem dX4_numberOf_98 : decode cX4_numberOf 98 = .ok (.iadd, 1) := by decide +kernel
theorem dX4_numberOf_99 : decode cX4_numberOf 99 = .ok (.putfield 19, 3) := by decide +kernel
theorem dX4_numberOf_102 : decode cX4_numberOf 102 = .ok (.aload_n 0, 1) := by decide +kernel
theorem dX4_numberOf_103 : decode cX4_numberOf 103 = .ok (.getfield 19, 3) := by decide +kernel
theorem dX4_numberOf_106 : decode cX4_numberOf 106 = .ok (.iconst 1, 1) := by decide +kernel
theorem dX4_numberOf_107 : decode cX4_numberOf 107 = .ok (.isub, 1) := by decide +kernel
theorem dX4_numberOf_108 : decode cX4_numberOf 108 = .ok (.ireturn, 1) := by decide +kernel
theorem dX4_isText_0 : decode cX4_isText 0 = .ok (.aload_n 0, 1) := by decide +kernel
theorem dX4_isText_1 : decode cX4_isText 1 = .ok (.getfield 15, 3) := by decide +kernel
theorem dX4_isText_4 : decode cX4_isText 4 = .ok (.iload_n 1, 1) := by decide +kernel
theorem dX4_isText_5 : decode cX4_isText 5 = .ok (.iaload, 1) := by decide +kernel
theorem dX4_isText_6 : decode cX4_isText 6 = .ok (.iload 4, 2) := by decide +kernel
theorem dX4_isText_8 : decode cX4_isText 8 = .ok (.if_icmp .eq 5, 3) := by decide +kernel
theorem dX4_isText_11 : decode cX4_isText 11 = .ok (.iconst 0, 1) := by decide +kernel
theorem dX4_isText_12 : decode cX4_isText 12 = .ok (.ireturn, 1) := by decide +kernel
theorem dX4_isText_13 : decode cX4_isText 13 = .ok (.iconst 0, 1) := by decide +kernel
theorem dX4_isText_14 : decode cX4_isText 14 = .ok (.istore 5, 2) := by decide +kernel
theorem dX4_isText_16 : decode cX4_isText 16 = .ok (.iload 5, 2) := by decide +kernel
theorem dX4_isText_18 : decode cX4_isText 18 = .ok (.iload 4, 2) := by decide +kernel
theorem dX4_isText_20 : decode cX4_isText 20 = .ok (.if_icmp .ge 32, 3) := by decide +kernel
theorem dX4_isText_23 : decode cX4_isText 23 = .ok (.aload_n 0, 1) := by decide +kernel
theorem dX4_isText_24 : decode cX4_isText 24 = .ok (.getfield 9, 3) := by decide +kernel
theorem dX4_isText_27 : decode cX4_isText 27 = .ok (.iload_n 1, 1) := by decide +kernel
theorem dX4_isText_28 : decode cX4_isText 28 = .ok (.bipush 10, 2) := by decide +kernel
theorem dX4_isText_30 : decode cX4_isText 30 = .ok (.imul, 1) := by decide +kernel
theorem dX4_isText_31 : decode cX4_isText 31 = .ok (.iload 5, 2) := by decide +kernel
theorem dX4_isText_33 : decode cX4_isText 33 = .ok (.iadd, 1) := by decide +kernel
theorem dX4_isText_34 : decode cX4_isText 34 = .ok (.baload, 1) := by decide +kernel
theorem dX4_isText_35 : decode cX4_isText 35 = .ok (.aload_n 2, 1) := by decide +kernel
theorem dX4_isText_36 : decode cX4_isText 36 = .ok (.iload_n 3, 1) := by decide +kernel
theorem dX4_isText_37 : decode cX4_isText 37 = .ok (.iload 5, 2) := by decide +kernel
theorem dX4_isText_39 : decode cX4_isText 39 = .ok (.iadd, 1) := by decide +kernel
theorem dX4_isText_40 : decode cX4_isText 40 = .ok (.iaload, 1) := by decide +kernel
theorem dX4_isText_41 : decode cX4_isText 41 = .ok (.if_icmp .eq 5, 3) := by decide +kernel
theorem dX4_isText_44 : decode cX4_isText 44 = .ok (.iconst 0, 1) := by decide +kernel
theorem dX4_isText_45 : decode cX4_isText 45 = .ok (.ireturn, 1) := by decide +kernel
theorem dX4_isText_46 : decode cX4_isText 46 = .ok (.iinc 5 1, 3) := by decide +kernel
theorem dX4_isText_49 : decode cX4_isText 49 = .ok (.goto (-33), 3) := by decide +kernel
theorem dX4_isText_52 : decode cX4_isText 52 = .ok (.iconst 1, 1) := by decide +kernel
theorem dX4_isText_53 : decode cX4_isText 53 = .ok (.ireturn, 1) := by decide +kernel
theorem dX5_init_0 : decode cX5_init 0 = .ok (.aload_n 0, 1) := by decide +kernel
theorem dX5_init_1 : decode cX5_init 1 = .ok (.invokespecial 3, 3) := by decide +kernel
theorem dX5_init_4 : decode cX5_init 4 = .ok (.aload_n 0, 1) := by decide +kernel
theorem dX5_init_5 : decode cX5_init 5 = .ok (.iload_n 1, 1) := by decide +kernel
theorem dX5_init_6 : decode cX5_init 6 = .ok (.putfield 9, 3) := by decide +kernel
theorem dX5_init_9 : decode cX5_init 9 = .ok (.aload_n 0, 1) := by decide +kernel
theorem dX5_init_10 : decode cX5_init 10 = .ok (.iload_n 2, 1) := by decide +kernel
theorem dX5_init_11 : decode cX5_init 11 = .ok (.putfield 15, 3) := by decide +kernel
theorem dX5_init_14 : decode cX5_init 14 = .ok (.aload_n 0, 1) := by decide +kernel
theorem dX5_init_15 : decode cX5_init 15 = .ok (.aload_n 3, 1) := by decide +kernel
theorem dX5_init_16 : decode cX5_init 16 = .ok (.putfield 18, 3) := by decide +kernel
theorem dX5_init_19 : decode cX5_init 19 = .ok (.return_, 1) := by decide +kernel
