theorem dX7_count_0 : decode cX7_count 0 = .ok (.aload_n 0, 1) := by decide +kernel
theorem dX7_count_1 : decode cX7_count 1 = .ok (.iload_n 1, 1) := by decide +kernel
theorem dX7_count_2 : decode cX7_count 2 = .ok (.invokevirtual 147, 3) := by decide +kernel
theorem dX7_count_5 : decode cX7_count 5 = .ok (.ifCond .eq 11, 3) := by decide +kernel
theorem dX7_count_8 : decode cX7_count 8 = .ok (.aload_n 0, 1) := by decide +kernel
theorem dX7_count_9 : decode cX7_count 9 = .ok (.iload_n 2, 1) := by decide +kernel
theorem dX7_count_10 : decode cX7_count 10 = .ok (.invokevirtual 144, 3) := by decide +kernel
theorem dX7_count_13 : decode cX7_count 13 = .ok (.ifCond .ne 5, 3) := by decide +kernel
theorem dX7_count_16 : decode cX7_count 16 = .ok (.iconst 0, 1) := by decide +kernel
theorem dX7_count_17 : decode cX7_count 17 = .ok (.ireturn, 1) := by decide +kernel
theorem dX7_count_18 : decode cX7_count 18 = .ok (.aload_n 0, 1) := by decide +kernel
theorem dX7_count_19 : decode cX7_count 19 = .ok (.iload_n 2, 1) := by decide +kernel
theorem dX7_count_20 : decode cX7_count 20 = .ok (.invokevirtual 165, 3) := by decide +kernel
theorem dX7_count_23 : decode cX7_count 23 = .ok (.istore_n 3, 1) := by decide +kernel
theorem dX7_count_24 : decode cX7_count 24 = .ok (.iload_n 1, 1) := by decide +kernel
theorem dX7_count_25 : decode cX7_count 25 = .ok (.istore 4, 2) := by decide +kernel
theorem dX7_count_27 : decode cX7_count 27 = .ok (.iconst 0, 1) := by decide +kernel
theorem dX7_count_28 : decode cX7_count 28 = .ok (.istore 5, 2) := by decide +kernel
theorem dX7_count_30 : decode cX7_count 30 = .ok (.iconst 0, 1) := by decide +kernel
theorem dX7_count_31 : decode cX7_count 31 = .ok (.istore 6, 2) := by decide +kernel
theorem dX7_count_33 : decode cX7_count 33 = .ok (.iload 6, 2) := by decide +kernel
theorem dX7_count_35 : decode cX7_count 35 = .ok (.bipush 16, 2) := by decide +kernel
theorem dX7_count_37 : decode cX7_count 37 = .ok (.if_icmp .gt 59, 3) := by decide +kernel
theorem dX7_count_40 : decode cX7_count 40 = .ok (.iload 4, 2) := by decide +kernel
theorem dX7_count_42 : decode cX7_count 42 = .ok (.ifCond .lt 54, 3) := by decide +kernel
theorem dX7_count_45 : decode cX7_count 45 = .ok (.iload 5, 2) := by decide +kernel
theorem dX7_count_47 : decode cX7_count 47 = .ok (.ifCond .ne 49, 3) := by decide +kernel
theorem dX7_count_50 : decode cX7_count 50 = .ok (.aload_n 0, 1) := by decide +kernel
theorem dX7_count_51 : decode cX7_count 51 = .ok (.iload 4, 2) := by decide +kernel
theorem dX7_count_53 : decode cX7_count 53 = .ok (.iload_n 2, 1) := by decide +kernel
theorem dX7_count_54 : decode cX7_count 54 = .ok (.invokevirtual 178, 3) := by decide +kernel
theorem dX7_count_57 : decode cX7_count 57 = .ok (.istore 5, 2) := by decide +kernel
theorem dX7_count_59 : decode cX7_count 59 = .ok (.iload_n 3, 1) := by decide +kernel
theorem dX7_count_60 : decode cX7_count 60 = .ok (.ifCond .eq 27, 3) := by decide +kernel
theorem dX7_count_63 : decode cX7_count 63 = .ok (.aload_n 0, 1) := by decide +kernel
theorem dX7_count_64 : decode cX7_count 64 = .ok (.getfield 34, 3) := by decide +kernel
theorem dX7_count_67 : decode cX7_count 67 = .ok (.iload 4, 2) := by decide +kernel
theorem dX7_count_69 : decode cX7_count 69 = .ok (.iaload, 1) := by decide +kernel
theorem dX7_count_70 : decode cX7_count 70 = .ok (.ifCond .lt 17, 3) := by decide +kernel
theorem dX7_count_73 : decode cX7_count 73 = .ok (.aload_n 0, 1) := by decide +kernel
theorem dX7_count_74 : decode cX7_count 74 = .ok (.aload_n 0, 1) := by decide +kernel
theorem dX7_count_75 : decode cX7_count 75 = .ok (.getfield 34, 3) := by decide +kernel
theorem dX7_count_78 : decode cX7_count 78 = .ok (.iload 4, 2) := by decide +kernel
theorem dX7_count_80 : decode cX7_count 80 = .ok (.iaload, 1) := by decide +kernel
theorem dX7_count_81 : decode cX7_count 81 = .ok (.invokevirtual 162, 3) := by decide +kernel
theorem dX7_count_84 : decode cX7_count 84 = .ok (.goto 4, 3) := by decide +kernel
theorem dX7_count_87 : decode cX7_count 87 = .ok (.iconst (-1), 1) := by decide +kernel
theorem dX7_count_88 : decode cX7_count 88 = .ok (.istore 4, 2) := by decide +kernel
theorem dX7_count_90 : decode cX7_count 90 = .ok (.iinc 6 1, 3) := by decide +kernel
theorem dX7_count_93 : decode cX7_count 93 = .ok (.goto (-60), 3) := by decide +kernel
theorem dX7_count_96 : decode cX7_count 96 = .ok (.iload 5, 2) := by decide +kernel
theorem dX7_count_98 : decode cX7_count 98 = .ok (.ireturn, 1) := by decide +kernel
theorem dX7_lookUp_0 : decode cX7_lookUp 0 = .ok (.iload_n 2, 1) := by decide +kernel
theorem dX7_lookUp_1 : decode cX7_lookUp 1 = .ok (.iconst 1, 1) := by decide +kernel
theorem dX7_lookUp_2 : decode cX7_lookUp 2 = .ok (.iadd, 1) := by decide +kernel
theorem dX7_lookUp_3 : decode cX7_lookUp 3 = .ok (.istore 4, 2) := by decide +kernel
theorem dX7_lookUp_5 : decode cX7_lookUp 5 = .ok (.iconst 0, 1) := by decide +kernel
theorem dX7_lookUp_6 : decode cX7_lookUp 6 = .ok (.istore 5, 2) := by decide +kernel
theorem dX7_lookUp_8 : decode cX7_lookUp 8 = .ok (.iload 5, 2) := by decide +kernel
theorem dX7_lookUp_10 : decode cX7_lookUp 10 = .ok (.aload_n 0, 1) := by decide +kernel
theorem dX7_lookUp_11 : decode cX7_lookUp 11 = .ok (.getfield 13, 3) := by decide +kernel
theorem dX7_lookUp_14 : decode cX7_lookUp 14 = .ok (.iload_n 2, 1) := by decide +kernel
theorem dX7_lookUp_15 : decode cX7_lookUp 15 = .ok (.iaload, 1) := by decide +kernel
theorem dX7_lookUp_16 : decode cX7_lookUp 16 = .ok (.if_icmp .ge 45, 3) := by decide +kernel
theorem dX7_lookUp_19 : decode cX7_lookUp 19 = .ok (.aload_n 0, 1) := by decide +kernel
theorem dX7_lookUp_20 : decode cX7_lookUp 20 = .ok (.getfield 25, 3) := by decide +kernel
theorem dX7_lookUp_23 : decode cX7_lookUp 23 = .ok (.bipush 13, 2) := by decide +kernel
theorem dX7_lookUp_25 : decode cX7_lookUp 25 = .ok (.iload_n 1, 1) := by decide +kernel
theorem dX7_lookUp_26 : decode cX7_lookUp 26 = .ok (.imul, 1) := by decide +kernel
theorem dX7_lookUp_27 : decode cX7_lookUp 27 = .ok (.aload_n 0, 1) := by decide +kernel
theorem dX7_lookUp_28 : decode cX7_lookUp 28 = .ok (.getfield 13, 3) := by decide +kernel
theorem dX7_lookUp_31 : decode cX7_lookUp 31 = .ok (.iload 4, 2) := by decide +kernel
theorem dX7_lookUp_33 : decode cX7_lookUp 33 = .ok (.iaload, 1) := by decide +kernel
theorem dX7_lookUp_34 : decode cX7_lookUp 34 = .ok (.iadd, 1) := by decide +kernel
theorem dX7_lookUp_35 : decode cX7_lookUp 35 = .ok (.iaload, 1) := by decide +kernel
theorem dX7_lookUp_36 : decode cX7_lookUp 36 = .ok (.iload_n 3, 1) := by decide +kernel
theorem dX7_lookUp_37 : decode cX7_lookUp 37 = .ok (.if_icmp .ne 8, 3) := by decide +kernel
theorem dX7_lookUp_40 : decode cX7_lookUp 40 = .ok (.iload 4, 2) := by decide +kernel
theorem dX7_lookUp_42 : decode cX7_lookUp 42 = .ok (.iconst 1, 1) := by decide +kernel
theorem dX7_lookUp_43 : decode cX7_lookUp 43 = .ok (.iadd, 1) := by decide +kernel
theorem dX7_lookUp_44 : decode cX7_lookUp 44 = .ok (.ireturn, 1) := by decide +kernel
theorem dX7_lookUp_45 : decode cX7_lookUp 45 = .ok (.aload_n 0, 1) := by decide +kernel
theorem dX7_lookUp_46 : decode cX7_lookUp 46 = .ok (.iload 4, 2) := by decide +kernel
theorem dX7_lookUp_48 : decode cX7_lookUp 48 = .ok (.iconst 1, 1) := by decide +kernel
theorem dX7_lookUp_49 : decode cX7_lookUp 49 = .ok (.iadd, 1) := by decide +kernel
theorem dX7_lookUp_50 : decode cX7_lookUp 50 = .ok (.invokevirtual 171, 3) := by decide +kernel
theorem dX7_lookUp_53 : decode cX7_lookUp 53 = .ok (.istore 4, 2) := by decide +kernel
theorem dX7_lookUp_55 : decode cX7_lookUp 55 = .ok (.iinc 5 1, 3) := by decide +kernel
theorem dX7_lookUp_58 : decode cX7_lookUp 58 = .ok (.goto (-50), 3) := by decide +kernel
theorem dX7_lookUp_61 : decode cX7_lookUp 61 = .ok (.iconst (-1), 1) := by decide +kernel
theorem dX7_lookUp_62 : decode cX7_lookUp 62 = .ok (.ireturn, 1) := by decide +kernel
theorem dX7_inside_0 : decode cX7_inside 0 = .ok (.aload_n 0, 1) := by decide +kernel
theorem dX7_inside_1 : decode cX7_inside 1 = .ok (.getfield 13, 3) := by decide +kernel
theorem dX7_inside_4 : decode cX7_inside 4 = .ok (.iload_n 1, 1) := by decide +kernel
theorem dX7_inside_5 : decode cX7_inside 5 = .ok (.iaload, 1) := by decide +kernel
theorem dX7_inside_6 : decode cX7_inside 6 = .ok (.istore_n 3, 1) := by decide +kernel
theorem dX7_inside_7 : decode cX7_inside 7 = .ok (.iload_n 3, 1) := by decide +kernel
theorem dX7_inside_8 : decode cX7_inside 8 = .ok (.bipush 91, 2) := by decide +kernel
theorem dX7_inside_10 : decode cX7_inside 10 = .ok (.if_icmp .eq 11, 3) := by decide +kernel
theorem dX7_inside_13 : decode cX7_inside 13 = .ok (.iload_n 3, 1) := by decide +kernel
theorem dX7_inside_14 : decode cX7_inside 14 = .ok (.bipush 64, 2) := by decide +kernel
theorem dX7_inside_16 : decode cX7_inside 16 = .ok (.if_icmp .eq 5, 3) := by decide +kernel
theorem dX7_inside_19 : decode cX7_inside 19 = .ok (.iconst (-1), 1) := by decide +kernel
theorem dX7_inside_20 : decode cX7_inside 20 = .ok (.ireturn, 1) := by decide +kernel
theorem dX7_inside_21 : decode cX7_inside 21 = .ok (.iload_n 3, 1) := by decide +kernel
theorem dX7_inside_22 : decode cX7_inside 22 = .ok (.bipush 64, 2) := by decide +kernel
theorem dX7_inside_24 : decode cX7_inside 24 = .ok (.if_icmp .ne 9, 3) := by decide +kernel
theorem dX7_inside_27 : decode cX7_inside 27 = .ok (.iload_n 1, 1) := by decide +kernel
theorem dX7_inside_28 : decode cX7_inside 28 = .ok (.iconst 2, 1) := by decide +kernel
theorem dX7_inside_29 : decode cX7_inside 29 = .ok (.iadd, 1) := by decide +kernel
theorem dX7_inside_30 : decode cX7_inside 30 = .ok (.goto 6, 3) := by decide +kernel
theorem dX7_inside_33 : decode cX7_inside 33 = .ok (.iload_n 1, 1) := by decide +kernel
theorem dX7_inside_34 : decode cX7_inside 34 = .ok (.iconst 1, 1) := by decide +kernel
theorem dX7_inside_35 : decode cX7_inside 35 = .ok (.iadd, 1) := by decide +kernel
theorem dX7_inside_36 : decode cX7_inside 36 = .ok (.istore 4, 2) := by decide +kernel
theorem dX7_inside_38 : decode cX7_inside 38 = .ok (.iload_n 2, 1) := by decide +kernel
theorem dX7_inside_39 : decode cX7_inside 39 = .ok (.iconst 1, 1) := by decide +kernel
theorem dX7_inside_40 : decode cX7_inside 40 = .ok (.if_icmp .lt 14, 3) := by decide +kernel
theorem dX7_inside_43 : decode cX7_inside 43 = .ok (.iload_n 2, 1) := by decide +kernel
theorem dX7_inside_44 : decode cX7_inside 44 = .ok (.aload_n 0, 1) := by decide +kernel
theorem dX7_inside_45 : decode cX7_inside 45 = .ok (.getfield 13, 3) := by decide +kernel
theorem dX7_inside_48 : decode cX7_inside 48 = .ok (.iload 4, 2) := by decide +kernel
theorem dX7_inside_50 : decode cX7_inside 50 = .ok (.iaload, 1) := by decide +kernel
theorem dX7_inside_51 : decode cX7_inside 51 = .ok (.if_icmp .le 5, 3) := by decide +kernel
theorem dX7_inside_54 : decode cX7_inside 54 = .ok (.iconst (-1), 1) := by decide +kernel
theorem dX7_inside_55 : decode cX7_inside 55 = .ok (.ireturn, 1) := by decide +kernel
theorem dX7_inside_56 : decode cX7_inside 56 = .ok (.iload_n 3, 1) := by decide +kernel
theorem dX7_inside_57 : decode cX7_inside 57 = .ok (.bipush 64, 2) := by decide +kernel
theorem dX7_inside_59 : decode cX7_inside 59 = .ok (.if_icmp .ne 10, 3) := by decide +kernel
theorem dX7_inside_62 : decode cX7_inside 62 = .ok (.iload 4, 2) := by decide +kernel
theorem dX7_inside_64 : decode cX7_inside 64 = .ok (.iconst 2, 1) := by decide +kernel
theorem dX7_inside_65 : decode cX7_inside 65 = .ok (.iadd, 1) := by decide +kernel
theorem dX7_inside_66 : decode cX7_inside 66 = .ok (.goto 7, 3) := by decide +kernel
theorem dX7_inside_69 : decode cX7_inside 69 = .ok (.iload 4, 2) := by decide +kernel
theorem dX7_inside_71 : decode cX7_inside 71 = .ok (.iconst 1, 1) := by decide +kernel
theorem dX7_inside_72 : decode cX7_inside 72 = .ok (.iadd, 1) := by decide +kernel
theorem dX7_inside_73 : decode cX7_inside 73 = .ok (.istore 4, 2) := by decide +kernel
theorem dX7_inside_75 : decode cX7_inside 75 = .ok (.iconst 1, 1) := by decide +kernel
theorem dX7_inside_76 : decode cX7_inside 76 = .ok (.istore 5, 2) := by decide +kernel
theorem dX7_inside_78 : decode cX7_inside 78 = .ok (.iload 5, 2) := by decide +kernel
theorem dX7_inside_80 : decode cX7_inside 80 = .ok (.iload_n 2, 1) := by decide +kernel
theorem dX7_inside_81 : decode cX7_inside 81 = .ok (.if_icmp .ge 34, 3) := by decide +kernel
theorem dX7_inside_84 : decode cX7_inside 84 = .ok (.aload_n 0, 1) := by decide +kernel
theorem dX7_inside_85 : decode cX7_inside 85 = .ok (.iload 4, 2) := by decide +kernel
theorem dX7_inside_87 : decode cX7_inside 87 = .ok (.invokevirtual 171, 3) := by decide +kernel
theorem dX7_inside_90 : decode cX7_inside 90 = .ok (.istore 4, 2) := by decide +kernel
theorem dX7_inside_92 : decode cX7_inside 92 = .ok (.iload_n 3, 1) := by decide +kernel
theorem dX7_inside_93 : decode cX7_inside 93 = .ok (.bipush 64, 2) := by decide +kernel
theorem dX7_inside_95 : decode cX7_inside 95 = .ok (.if_icmp .ne 10, 3) := by decide +kernel
theorem dX7_inside_98 : decode cX7_inside 98 = .ok (.iload 4, 2) := by decide +kernel
theorem dX7_inside_100 : decode cX7_inside 100 = .ok (.iconst 1, 1) := by decide +kernel
theorem dX7_inside_101 : decode cX7_inside 101 = .ok (.iadd, 1) := by decide +kernel
theorem dX7_inside_102 : decode cX7_inside 102 = .ok (.goto 5, 3) := by decide +kernel
theorem dX7_inside_105 : decode cX7_inside 105 = .ok (.iload 4, 2) := by decide +kernel
theorem dX7_inside_107 : decode cX7_inside 107 = .ok (.istore 4, 2) := by decide +kernel
theorem dX7_inside_109 : decode cX7_inside 109 = .ok (.iinc 5 1, 3) := by decide +kernel
theorem dX7_inside_112 : decode cX7_inside 112 = .ok (.goto (-34), 3) := by decide +kernel
theorem dX7_inside_115 : decode cX7_inside 115 = .ok (.iload 4, 2) := by decide +kernel
theorem dX7_inside_117 : decode cX7_inside 117 = .ok (.ireturn, 1) := by decide +kernel
theorem dX7_shown_0 : decode cX7_shown 0 = .ok (.aload_n 0, 1) := by decide +kernel
theorem dX7_shown_1 : decode cX7_shown 1 = .ok (.getfield 13, 3) := by decide +kernel
theorem dX7_shown_4 : decode cX7_shown 4 = .ok (.iload_n 2, 1) := by decide +kernel
theorem dX7_shown_5 : decode cX7_shown 5 = .ok (.iaload, 1) := by decide +kernel
theorem dX7_shown_6 : decode cX7_shown 6 = .ok (.istore_n 3, 1) := by decide +kernel
theorem dX7_shown_7 : decode cX7_shown 7 = .ok (.aload_n 0, 1) := by decide +kernel
theorem dX7_shown_8 : decode cX7_shown 8 = .ok (.getfield 13, 3) := by decide +kernel
theorem dX7_shown_11 : decode cX7_shown 11 = .ok (.iload_n 2, 1) := by decide +kernel
theorem dX7_shown_12 : decode cX7_shown 12 = .ok (.iconst 1, 1) := by decide +kernel
theorem dX7_shown_13 : decode cX7_shown 13 = .ok (.iadd, 1) := by decide +kernel
theorem dX7_shown_14 : decode cX7_shown 14 = .ok (.iaload, 1) := by decide +kernel
theorem dX7_shown_15 : decode cX7_shown 15 = .ok (.istore 4, 2) := by decide +kernel
theorem dX7_shown_17 : decode cX7_shown 17 = .ok (.iload_n 3, 1) := by decide +kernel
theorem dX7_shown_18 : decode cX7_shown 18 = .ok (.bipush 91, 2) := by decide +kernel
theorem dX7_shown_20 : decode cX7_shown 20 = .ok (.if_icmp .ne 11, 3) := by decide +kernel
theorem dX7_shown_23 : decode cX7_shown 23 = .ok (.ldc2_w 181, 3) := by decide +kernel
theorem dX7_shown_26 : decode cX7_shown 26 = .ok (.iload 4, 2) := by decide +kernel
theorem dX7_shown_28 : decode cX7_shown 28 = .ok (.i2l, 1) := by decide +kernel
theorem dX7_shown_29 : decode cX7_shown 29 = .ok (.ladd, 1) := by decide +kernel
theorem dX7_shown_30 : decode cX7_shown 30 = .ok (.lreturn, 1) := by decide +kernel
theorem dX7_shown_31 : decode cX7_shown 31 = .ok (.iload_n 3, 1) := by decide +kernel
theorem dX7_shown_32 : decode cX7_shown 32 = .ok (.bipush 73, 2) := by decide +kernel
theorem dX7_shown_34 : decode cX7_shown 34 = .ok (.if_icmp .ne 58, 3) := by decide +kernel
theorem dX7_shown_37 : decode cX7_shown 37 = .ok (.lconst 0, 1) := by decide +kernel
theorem dX7_shown_38 : decode cX7_shown 38 = .ok (.lstore 5, 2) := by decide +kernel
theorem dX7_shown_40 : decode cX7_shown 40 = .ok (.iconst 1, 1) := by decide +kernel
theorem dX7_shown_41 : decode cX7_shown 41 = .ok (.istore 7, 2) := by decide +kernel
theorem dX7_shown_43 : decode cX7_shown 43 = .ok (.iload 7, 2) := by decide +kernel
theorem dX7_shown_45 : decode cX7_shown 45 = .ok (.iconst 4, 1) := by decide +kernel
theorem dX7_shown_46 : decode cX7_shown 46 = .ok (.if_icmp .gt 39, 3) := by decide +kernel
theorem dX7_shown_49 : decode cX7_shown 49 = .ok (.ldc2_w 183, 3) := by decide +kernel
theorem dX7_shown_52 : decode cX7_shown 52 = .ok (.lload 5, 2) := by decide +kernel
theorem dX7_shown_54 : decode cX7_shown 54 = .ok (.lmul, 1) := by decide +kernel
theorem dX7_shown_55 : decode cX7_shown 55 = .ok (.aload_n 0, 1) := by decide +kernel
theorem dX7_shown_56 : decode cX7_shown 56 = .ok (.getfield 13, 3) := by decide +kernel
theorem dX7_shown_59 : decode cX7_shown 59 = .ok (.aload_n 0, 1) := by decide +kernel
theorem dX7_shown_60 : decode cX7_shown 60 = .ok (.getfield 22, 3) := by decide +kernel
theorem dX7_shown_63 : decode cX7_shown 63 = .ok (.bipush 13, 2) := by decide +kernel
theorem dX7_shown_65 : decode cX7_shown 65 = .ok (.iload_n 1, 1) := by decide +kernel
theorem dX7_shown_66 : decode cX7_shown 66 = .ok (.imul, 1) := by decide +kernel
theorem dX7_shown_67 : decode cX7_shown 67 = .ok (.iload 4, 2) := by decide +kernel
theorem dX7_shown_69 : decode cX7_shown 69 = .ok (.iadd, 1) := by decide +kernel
theorem dX7_shown_70 : decode cX7_shown 70 = .ok (.iaload, 1) := by decide +kernel
theorem dX7_shown_71 : decode cX7_shown 71 = .ok (.iload 7, 2) := by decide +kernel
theorem dX7_shown_73 : decode cX7_shown 73 = .ok (.iadd, 1) := by decide +kernel
theorem dX7_shown_74 : decode cX7_shown 74 = .ok (.iaload, 1) := by decide +kernel
theorem dX7_shown_75 : decode cX7_shown 75 = .ok (.i2l, 1) := by decide +kernel
theorem dX7_shown_76 : decode cX7_shown 76 = .ok (.ladd, 1) := by decide +kernel
theorem dX7_shown_77 : decode cX7_shown 77 = .ok (.lstore 5, 2) := by decide +kernel
theorem dX7_shown_79 : decode cX7_shown 79 = .ok (.iinc 7 1, 3) := by decide +kernel
theorem dX7_shown_82 : decode cX7_shown 82 = .ok (.goto (-39), 3) := by decide +kernel
theorem dX7_shown_85 : decode cX7_shown 85 = .ok (.ldc2_w 185, 3) := by decide +kernel
theorem dX7_shown_88 : decode cX7_shown 88 = .ok (.lload 5, 2) := by decide +kernel
theorem dX7_shown_90 : decode cX7_shown 90 = .ok (.ladd, 1) := by decide +kernel
theorem dX7_shown_91 : decode cX7_shown 91 = .ok (.lreturn, 1) := by decide +kernel
theorem dX7_shown_92 : decode cX7_shown 92 = .ok (.iload_n 3, 1) := by decide +kernel
theorem dX7_shown_93 : decode cX7_shown 93 = .ok (.bipush 115, 2) := by decide +kernel
theorem dX7_shown_95 : decode cX7_shown 95 = .ok (.if_icmp .ne 9, 3) := by decide +kernel
theorem dX7_shown_98 : decode cX7_shown 98 = .ok (.ldc2_w 187, 3) := by decide +kernel
theorem dX7_shown_101 : decode cX7_shown 101 = .ok (.goto 18, 3) := by decide +kernel
theorem dX7_shown_104 : decode cX7_shown 104 = .ok (.iload_n 3, 1) := by decide +kernel
theorem dX7_shown_105 : decode cX7_shown 105 = .ok (.bipush 99, 2) := by decide +kernel
theorem dX7_shown_107 : decode cX7_shown 107 = .ok (.if_icmp .ne 9, 3) := by decide +kernel
theorem dX7_shown_110 : decode cX7_shown 110 = .ok (.ldc2_w 189, 3) := by decide +kernel
theorem dX7_shown_113 : decode cX7_shown 113 = .ok (.goto 6, 3) := by decide +kernel
theorem dX7_shown_116 : decode cX7_shown 116 = .ok (.ldc2_w 191, 3) := by decide +kernel
theorem dX7_shown_119 : decode cX7_shown 119 = .ok (.lstore 5, 2) := by decide +kernel
theorem dX7_shown_121 : decode cX7_shown 121 = .ok (.lload 5, 2) := by decide +kernel
theorem dX7_shown_123 : decode cX7_shown 123 = .ok (.ldc2_w 185, 3) := by decide +kernel
theorem dX7_shown_126 : decode cX7_shown 126 = .ok (.lmul, 1) := by decide +kernel
theorem dX7_shown_127 : decode cX7_shown 127 = .ok (.aload_n 0, 1) := by decide +kernel
theorem dX7_shown_128 : decode cX7_shown 128 = .ok (.getfield 25, 3) := by decide +kernel
theorem dX7_shown_131 : decode cX7_shown 131 = .ok (.bipush 13, 2) := by decide +kernel
theorem dX7_shown_133 : decode cX7_shown 133 = .ok (.iload_n 1, 1) := by decide +kernel
theorem dX7_shown_134 : decode cX7_shown 134 = .ok (.imul, 1) := by decide +kernel
theorem dX7_shown_135 : decode cX7_shown 135 = .ok (.iload 4, 2) := by decide +kernel
theorem dX7_shown_137 : decode cX7_shown 137 = .ok (.iadd, 1) := by decide +kernel
theorem dX7_shown_138 : decode cX7_shown 138 = .ok (.iaload, 1) := by decide +kernel
theorem dX7_shown_139 : decode cX7_shown 139 = .ok (.i2l, 1) := by decide +kernel
theorem dX7_shown_140 : decode cX7_shown 140 = .ok (.ladd, 1) := by decide +kernel
theorem dX7_shown_141 : decode cX7_shown 141 = .ok (.lreturn, 1) := by decide +kernel
theorem dX7_value_0 : decode cX7_value 0 = .ok (.aload_n 0, 1) := by decide +kernel
theorem dX7_value_1 : decode cX7_value 1 = .ok (.iload_n 1, 1) := by decide +kernel
theorem dX7_value_2 : decode cX7_value 2 = .ok (.iload_n 2, 1) := by decide +kernel
theorem dX7_value_3 : decode cX7_value 3 = .ok (.invokevirtual 193, 3) := by decide +kernel
theorem dX7_value_6 : decode cX7_value 6 = .ok (.istore 5, 2) := by decide +kernel
theorem dX7_value_8 : decode cX7_value 8 = .ok (.iload 5, 2) := by decide +kernel
theorem dX7_value_10 : decode cX7_value 10 = .ok (.ifCond .lt 16, 3) := by decide +kernel
theorem dX7_value_13 : decode cX7_value 13 = .ok (.iload 4, 2) := by decide +kernel
theorem dX7_value_15 : decode cX7_value 15 = .ok (.ifCond .lt 11, 3) := by decide +kernel
theorem dX7_value_18 : decode cX7_value 18 = .ok (.aload_n 0, 1) := by decide +kernel
theorem dX7_value_19 : decode cX7_value 19 = .ok (.iload_n 3, 1) := by decide +kernel
theorem dX7_value_20 : decode cX7_value 20 = .ok (.invokevirtual 144, 3) := by decide +kernel
theorem dX7_value_23 : decode cX7_value 23 = .ok (.ifCond .ne 7, 3) := by decide +kernel
theorem dX7_value_26 : decode cX7_value 26 = .ok (.ldc2_w 196, 3) := by decide +kernel
theorem dX7_value_29 : decode cX7_value 29 = .ok (.lreturn, 1) := by decide +kernel
theorem dX7_value_30 : decode cX7_value 30 = .ok (.aload_n 0, 1) := by decide +kernel
theorem dX7_value_31 : decode cX7_value 31 = .ok (.iload 5, 2) := by decide +kernel
theorem dX7_value_33 : decode cX7_value 33 = .ok (.iload_n 2, 1) := by decide +kernel
theorem dX7_value_34 : decode cX7_value 34 = .ok (.invokevirtual 168, 3) := by decide +kernel
theorem dX7_value_37 : decode cX7_value 37 = .ok (.istore 6, 2) := by decide +kernel
theorem dX7_value_39 : decode cX7_value 39 = .ok (.aload_n 0, 1) := by decide +kernel
theorem dX7_value_40 : decode cX7_value 40 = .ok (.iload 5, 2) := by decide +kernel
theorem dX7_value_42 : decode cX7_value 42 = .ok (.aload_n 0, 1) := by decide +kernel
theorem dX7_value_43 : decode cX7_value 43 = .ok (.getfield 49, 3) := by decide +kernel
theorem dX7_value_46 : decode cX7_value 46 = .ok (.iconst 4, 1) := by decide +kernel
theorem dX7_value_47 : decode cX7_value 47 = .ok (.iload 5, 2) := by decide +kernel
theorem dX7_value_49 : decode cX7_value 49 = .ok (.imul, 1) := by decide +kernel
theorem dX7_value_50 : decode cX7_value 50 = .ok (.iload 6, 2) := by decide +kernel
theorem dX7_value_52 : decode cX7_value 52 = .ok (.iadd, 1) := by decide +kernel
theorem dX7_value_53 : decode cX7_value 53 = .ok (.iaload, 1) := by decide +kernel
theorem dX7_value_54 : decode cX7_value 54 = .ok (.iconst 1, 1) := by decide +kernel
theorem dX7_value_55 : decode cX7_value 55 = .ok (.iadd, 1) := by decide +kernel
theorem dX7_value_56 : decode cX7_value 56 = .ok (.iload_n 3, 1) := by decide +kernel
theorem dX7_value_57 : decode cX7_value 57 = .ok (.invokevirtual 198, 3) := by decide +kernel
theorem dX7_value_60 : decode cX7_value 60 = .ok (.istore 7, 2) := by decide +kernel
theorem dX7_value_62 : decode cX7_value 62 = .ok (.iload 7, 2) := by decide +kernel
theorem dX7_value_64 : decode cX7_value 64 = .ok (.ifCond .ge 35, 3) := by decide +kernel
theorem dX7_value_67 : decode cX7_value 67 = .ok (.aload_n 0, 1) := by decide +kernel
theorem dX7_value_68 : decode cX7_value 68 = .ok (.iload_n 2, 1) := by decide +kernel
theorem dX7_value_69 : decode cX7_value 69 = .ok (.invokevirtual 162, 3) := by decide +kernel
theorem dX7_value_72 : decode cX7_value 72 = .ok (.istore 5, 2) := by decide +kernel
theorem dX7_value_74 : decode cX7_value 74 = .ok (.iload 5, 2) := by decide +kernel
theorem dX7_value_76 : decode cX7_value 76 = .ok (.ifCond .ge 7, 3) := by decide +kernel
theorem dX7_value_79 : decode cX7_value 79 = .ok (.iconst (-1), 1) := by decide +kernel
theorem dX7_value_80 : decode cX7_value 80 = .ok (.goto 17, 3) := by decide +kernel
theorem dX7_value_83 : decode cX7_value 83 = .ok (.aload_n 0, 1) := by decide +kernel
theorem dX7_value_84 : decode cX7_value 84 = .ok (.iload 5, 2) := by decide +kernel
theorem dX7_value_86 : decode cX7_value 86 = .ok (.aload_n 0, 1) := by decide +kernel
theorem dX7_value_87 : decode cX7_value 87 = .ok (.getfield 52, 3) := by decide +kernel
theorem dX7_value_90 : decode cX7_value 90 = .ok (.iload 5, 2) := by decide +kernel
theorem dX7_value_92 : decode cX7_value 92 = .ok (.iaload, 1) := by decide +kernel
theorem dX7_value_93 : decode cX7_value 93 = .ok (.iload_n 3, 1) := by decide +kernel
theorem dX7_value_94 : decode cX7_value 94 = .ok (.invokevirtual 198, 3) := by decide +kernel
theorem dX7_value_97 : decode cX7_value 97 = .ok (.istore 7, 2) := by decide +kernel
theorem dX7_value_99 : decode cX7_value 99 = .ok (.iload 4, 2) := by decide +kernel
theorem dX7_value_101 : decode cX7_value 101 = .ok (.istore 8, 2) := by decide +kernel
theorem dX7_value_103 : decode cX7_value 103 = .ok (.iconst 0, 1) := by decide +kernel
theorem dX7_value_104 : decode cX7_value 104 = .ok (.istore 9, 2) := by decide +kernel
theorem dX7_value_106 : decode cX7_value 106 = .ok (.iload 9, 2) := by decide +kernel
theorem dX7_value_108 : decode cX7_value 108 = .ok (.bipush 11, 2) := by decide +kernel
theorem dX7_value_110 : decode cX7_value 110 = .ok (.if_icmp .ge 39, 3) := by decide +kernel
theorem dX7_value_113 : decode cX7_value 113 = .ok (.iload 8, 2) := by decide +kernel
theorem dX7_value_115 : decode cX7_value 115 = .ok (.ifCond .eq 34, 3) := by decide +kernel
theorem dX7_value_118 : decode cX7_value 118 = .ok (.iload 7, 2) := by decide +kernel
theorem dX7_value_120 : decode cX7_value 120 = .ok (.ifCond .lt 29, 3) := by decide +kernel
theorem dX7_value_123 : decode cX7_value 123 = .ok (.aload_n 0, 1) := by decide +kernel
theorem dX7_value_124 : decode cX7_value 124 = .ok (.iload 7, 2) := by decide +kernel
theorem dX7_value_126 : decode cX7_value 126 = .ok (.iload 8, 2) := by decide +kernel
theorem dX7_value_128 : decode cX7_value 128 = .ok (.bipush 8, 2) := by decide +kernel
theorem dX7_value_130 : decode cX7_value 130 = .ok (.irem, 1) := by decide +kernel
theorem dX7_value_131 : decode cX7_value 131 = .ok (.invokevirtual 201, 3) := by decide +kernel
theorem dX7_value_134 : decode cX7_value 134 = .ok (.istore 7, 2) := by decide +kernel
theorem dX7_value_136 : decode cX7_value 136 = .ok (.iload 8, 2) := by decide +kernel
theorem dX7_value_138 : decode cX7_value 138 = .ok (.bipush 8, 2) := by decide +kernel
theorem dX7_value_140 : decode cX7_value 140 = .ok (.idiv, 1) := by decide +kernel
theorem dX7_value_141 : decode cX7_value 141 = .ok (.istore 8, 2) := by decide +kernel
theorem dX7_value_143 : decode cX7_value 143 = .ok (.iinc 9 1, 3) := by decide +kernel
theorem dX7_value_146 : decode cX7_value 146 = .ok (.goto (-40), 3) := by decide +kernel
theorem dX7_value_149 : decode cX7_value 149 = .ok (.iload 7, 2) := by decide +kernel
theorem dX7_value_151 : decode cX7_value 151 = .ok (.ifCond .ge 9, 3) := by decide +kernel
theorem dX7_value_154 : decode cX7_value 154 = .ok (.ldc2_w 196, 3) := by decide +kernel
theorem dX7_value_157 : decode cX7_value 157 = .ok (.goto 11, 3) := by decide +kernel
theorem dX7_value_160 : decode cX7_value 160 = .ok (.aload_n 0, 1) := by decide +kernel
theorem dX7_value_161 : decode cX7_value 161 = .ok (.iload 5, 2) := by decide +kernel
theorem dX7_value_163 : decode cX7_value 163 = .ok (.iload 7, 2) := by decide +kernel
theorem dX7_value_165 : decode cX7_value 165 = .ok (.invokevirtual 204, 3) := by decide +kernel
theorem dX7_value_168 : decode cX7_value 168 = .ok (.lreturn, 1) := by decide +kernel
