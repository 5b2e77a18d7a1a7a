theorem dX7_init_0 : decode cX7_init 0 = .ok (.aload_n 0, 1) := by decide +kernel
theorem dX7_init_1 : decode cX7_init 1 = .ok (.invokespecial 1, 3) := by decide +kernel
theorem dX7_init_4 : decode cX7_init 4 = .ok (.aload_n 0, 1) := by decide +kernel
theorem dX7_init_5 : decode cX7_init 5 = .ok (.bipush 120, 2) := by decide +kernel
theorem dX7_init_7 : decode cX7_init 7 = .ok (.newarray .int, 2) := by decide +kernel
theorem dX7_init_9 : decode cX7_init 9 = .ok (.putfield 7, 3) := by decide +kernel
theorem dX7_init_12 : decode cX7_init 12 = .ok (.aload_n 0, 1) := by decide +kernel
theorem dX7_init_13 : decode cX7_init 13 = .ok (.sipush 1920, 3) := by decide +kernel
theorem dX7_init_16 : decode cX7_init 16 = .ok (.newarray .int, 2) := by decide +kernel
theorem dX7_init_18 : decode cX7_init 18 = .ok (.putfield 13, 3) := by decide +kernel
theorem dX7_init_21 : decode cX7_init 21 = .ok (.aload_n 0, 1) := by decide +kernel
theorem dX7_init_22 : decode cX7_init 22 = .ok (.sipush 192, 3) := by decide +kernel
theorem dX7_init_25 : decode cX7_init 25 = .ok (.newarray .int, 2) := by decide +kernel
theorem dX7_init_27 : decode cX7_init 27 = .ok (.putfield 16, 3) := by decide +kernel
theorem dX7_init_30 : decode cX7_init 30 = .ok (.aload_n 0, 1) := by decide +kernel
theorem dX7_init_31 : decode cX7_init 31 = .ok (.sipush 208, 3) := by decide +kernel
theorem dX7_init_34 : decode cX7_init 34 = .ok (.newarray .int, 2) := by decide +kernel
theorem dX7_init_36 : decode cX7_init 36 = .ok (.putfield 19, 3) := by decide +kernel
theorem dX7_init_39 : decode cX7_init 39 = .ok (.aload_n 0, 1) := by decide +kernel
theorem dX7_init_40 : decode cX7_init 40 = .ok (.sipush 208, 3) := by decide +kernel
theorem dX7_init_43 : decode cX7_init 43 = .ok (.newarray .int, 2) := by decide +kernel
theorem dX7_init_45 : decode cX7_init 45 = .ok (.putfield 22, 3) := by decide +kernel
theorem dX7_init_48 : decode cX7_init 48 = .ok (.aload_n 0, 1) := by decide +kernel
theorem dX7_init_49 : decode cX7_init 49 = .ok (.sipush 208, 3) := by decide +kernel
theorem dX7_init_52 : decode cX7_init 52 = .ok (.newarray .int, 2) := by decide +kernel
theorem dX7_init_54 : decode cX7_init 54 = .ok (.putfield 25, 3) := by decide +kernel
theorem dX7_init_57 : decode cX7_init 57 = .ok (.aload_n 0, 1) := by decide +kernel
theorem dX7_init_58 : decode cX7_init 58 = .ok (.bipush 16, 2) := by decide +kernel
theorem dX7_init_60 : decode cX7_init 60 = .ok (.newarray .int, 2) := by decide +kernel
theorem dX7_init_62 : decode cX7_init 62 = .ok (.putfield 28, 3) := by decide +kernel
theorem dX7_init_65 : decode cX7_init 65 = .ok (.aload_n 0, 1) := by decide +kernel
theorem dX7_init_66 : decode cX7_init 66 = .ok (.bipush 16, 2) := by decide +kernel
theorem dX7_init_68 : decode cX7_init 68 = .ok (.newarray .int, 2) := by decide +kernel
theorem dX7_init_70 : decode cX7_init 70 = .ok (.putfield 31, 3) := by decide +kernel
theorem dX7_init_73 : decode cX7_init 73 = .ok (.aload_n 0, 1) := by decide +kernel
theorem dX7_init_74 : decode cX7_init 74 = .ok (.bipush 16, 2) := by decide +kernel
theorem dX7_init_76 : decode cX7_init 76 = .ok (.newarray .int, 2) := by decide +kernel
theorem dX7_init_78 : decode cX7_init 78 = .ok (.putfield 34, 3) := by decide +kernel
theorem dX7_init_81 : decode cX7_init 81 = .ok (.aload_n 0, 1) := by decide +kernel
theorem dX7_init_82 : decode cX7_init 82 = .ok (.bipush 16, 2) := by decide +kernel
theorem dX7_init_84 : decode cX7_init 84 = .ok (.newarray .int, 2) := by decide +kernel
theorem dX7_init_86 : decode cX7_init 86 = .ok (.putfield 37, 3) := by decide +kernel
theorem dX7_init_89 : decode cX7_init 89 = .ok (.aload_n 0, 1) := by decide +kernel
theorem dX7_init_90 : decode cX7_init 90 = .ok (.bipush 16, 2) := by decide +kernel
theorem dX7_init_92 : decode cX7_init 92 = .ok (.newarray .int, 2) := by decide +kernel
theorem dX7_init_94 : decode cX7_init 94 = .ok (.putfield 40, 3) := by decide +kernel
theorem dX7_init_97 : decode cX7_init 97 = .ok (.aload_n 0, 1) := by decide +kernel
theorem dX7_init_98 : decode cX7_init 98 = .ok (.bipush 64, 2) := by decide +kernel
theorem dX7_init_100 : decode cX7_init 100 = .ok (.newarray .int, 2) := by decide +kernel
theorem dX7_init_102 : decode cX7_init 102 = .ok (.putfield 43, 3) := by decide +kernel
theorem dX7_init_105 : decode cX7_init 105 = .ok (.aload_n 0, 1) := by decide +kernel
theorem dX7_init_106 : decode cX7_init 106 = .ok (.bipush 16, 2) := by decide +kernel
theorem dX7_init_108 : decode cX7_init 108 = .ok (.newarray .int, 2) := by decide +kernel
theorem dX7_init_110 : decode cX7_init 110 = .ok (.putfield 46, 3) := by decide +kernel
theorem dX7_init_113 : decode cX7_init 113 = .ok (.aload_n 0, 1) := by decide +kernel
theorem dX7_init_114 : decode cX7_init 114 = .ok (.bipush 64, 2) := by decide +kernel
theorem dX7_init_116 : decode cX7_init 116 = .ok (.newarray .int, 2) := by decide +kernel
theorem dX7_init_118 : decode cX7_init 118 = .ok (.putfield 49, 3) := by decide +kernel
theorem dX7_init_121 : decode cX7_init 121 = .ok (.aload_n 0, 1) := by decide +kernel
theorem dX7_init_122 : decode cX7_init 122 = .ok (.bipush 16, 2) := by decide +kernel
theorem dX7_init_124 : decode cX7_init 124 = .ok (.newarray .int, 2) := by decide +kernel
theorem dX7_init_126 : decode cX7_init 126 = .ok (.putfield 52, 3) := by decide +kernel
theorem dX7_init_129 : decode cX7_init 129 = .ok (.aload_n 0, 1) := by decide +kernel
theorem dX7_init_130 : decode cX7_init 130 = .ok (.bipush 7, 2) := by decide +kernel
theorem dX7_init_132 : decode cX7_init 132 = .ok (.newarray .int, 2) := by decide +kernel
theorem dX7_init_134 : decode cX7_init 134 = .ok (.putfield 55, 3) := by decide +kernel
theorem dX7_init_137 : decode cX7_init 137 = .ok (.aload_n 0, 1) := by decide +kernel
theorem dX7_init_138 : decode cX7_init 138 = .ok (.bipush 7, 2) := by decide +kernel
theorem dX7_init_140 : decode cX7_init 140 = .ok (.newarray .boolean, 2) := by decide +kernel
theorem dX7_init_142 : decode cX7_init 142 = .ok (.putfield 58, 3) := by decide +kernel
theorem dX7_init_145 : decode cX7_init 145 = .ok (.aload_n 0, 1) := by decide +kernel
theorem dX7_init_146 : decode cX7_init 146 = .ok (.sipush 192, 3) := by decide +kernel
theorem dX7_init_149 : decode cX7_init 149 = .ok (.newarray .boolean, 2) := by decide +kernel
theorem dX7_init_151 : decode cX7_init 151 = .ok (.putfield 62, 3) := by decide +kernel
theorem dX7_init_154 : decode cX7_init 154 = .ok (.return_, 1) := by decide +kernel
theorem dX7_put_0 : decode cX7_put 0 = .ok (.iload_n 3, 1) := by decide +kernel
theorem dX7_put_1 : decode cX7_put 1 = .ok (.iconst 1, 1) := by decide +kernel
theorem dX7_put_2 : decode cX7_put 2 = .ok (.if_icmp .lt 20, 3) := by decide +kernel
theorem dX7_put_5 : decode cX7_put 5 = .ok (.iload_n 3, 1) := by decide +kernel
theorem dX7_put_6 : decode cX7_put 6 = .ok (.bipush 8, 2) := by decide +kernel
theorem dX7_put_8 : decode cX7_put 8 = .ok (.if_icmp .gt 14, 3) := by decide +kernel
theorem dX7_put_11 : decode cX7_put 11 = .ok (.aload_n 0, 1) := by decide +kernel
theorem dX7_put_12 : decode cX7_put 12 = .ok (.getfield 65, 3) := by decide +kernel
theorem dX7_put_15 : decode cX7_put 15 = .ok (.iload_n 3, 1) := by decide +kernel
theorem dX7_put_16 : decode cX7_put 16 = .ok (.iadd, 1) := by decide +kernel
theorem dX7_put_17 : decode cX7_put 17 = .ok (.bipush 120, 2) := by decide +kernel
theorem dX7_put_19 : decode cX7_put 19 = .ok (.if_icmp .le 5, 3) := by decide +kernel
theorem dX7_put_22 : decode cX7_put 22 = .ok (.iconst 0, 1) := by decide +kernel
theorem dX7_put_23 : decode cX7_put 23 = .ok (.ireturn, 1) := by decide +kernel
theorem dX7_put_24 : decode cX7_put 24 = .ok (.iload_n 3, 1) := by decide +kernel
theorem dX7_put_25 : decode cX7_put 25 = .ok (.iconst 1, 1) := by decide +kernel
theorem dX7_put_26 : decode cX7_put 26 = .ok (.isub, 1) := by decide +kernel
theorem dX7_put_27 : decode cX7_put 27 = .ok (.istore 4, 2) := by decide +kernel
theorem dX7_put_29 : decode cX7_put 29 = .ok (.iload 4, 2) := by decide +kernel
theorem dX7_put_31 : decode cX7_put 31 = .ok (.ifCond .lt 40, 3) := by decide +kernel
theorem dX7_put_34 : decode cX7_put 34 = .ok (.aload_n 0, 1) := by decide +kernel
theorem dX7_put_35 : decode cX7_put 35 = .ok (.getfield 7, 3) := by decide +kernel
theorem dX7_put_38 : decode cX7_put 38 = .ok (.aload_n 0, 1) := by decide +kernel
theorem dX7_put_39 : decode cX7_put 39 = .ok (.getfield 65, 3) := by decide +kernel
theorem dX7_put_42 : decode cX7_put 42 = .ok (.lload_n 1, 1) := by decide +kernel
theorem dX7_put_43 : decode cX7_put 43 = .ok (.bipush 8, 2) := by decide +kernel
theorem dX7_put_45 : decode cX7_put 45 = .ok (.iload 4, 2) := by decide +kernel
theorem dX7_put_47 : decode cX7_put 47 = .ok (.imul, 1) := by decide +kernel
theorem dX7_put_48 : decode cX7_put 48 = .ok (.lshr, 1) := by decide +kernel
theorem dX7_put_49 : decode cX7_put 49 = .ok (.l2i, 1) := by decide +kernel
theorem dX7_put_50 : decode cX7_put 50 = .ok (.sipush 255, 3) := by decide +kernel
theorem dX7_put_53 : decode cX7_put 53 = .ok (.iand, 1) := by decide +kernel
theorem dX7_put_54 : decode cX7_put 54 = .ok (.iastore, 1) := by decide +kernel
theorem dX7_put_55 : decode cX7_put 55 = .ok (.aload_n 0, 1) := by decide +kernel
theorem dX7_put_56 : decode cX7_put 56 = .ok (.dup, 1) := by decide +kernel
theorem dX7_put_57 : decode cX7_put 57 = .ok (.getfield 65, 3) := by decide +kernel
theorem dX7_put_60 : decode cX7_put 60 = .ok (.iconst 1, 1) := by decide +kernel
theorem dX7_put_61 : decode cX7_put 61 = .ok (.iadd, 1) := by decide +kernel
theorem dX7_put_62 : decode cX7_put 62 = .ok (.putfield 65, 3) := by decide +kernel
theorem dX7_put_65 : decode cX7_put 65 = .ok (.iinc 4 (-1), 3) := by decide +kernel
theorem dX7_put_68 : decode cX7_put 68 = .ok (.goto (-39), 3) := by decide +kernel
theorem dX7_put_71 : decode cX7_put 71 = .ok (.iconst 1, 1) := by decide +kernel
theorem dX7_put_72 : decode cX7_put 72 = .ok (.ireturn, 1) := by decide +kernel
theorem dX7_drop_0 : decode cX7_drop 0 = .ok (.aload_n 0, 1) := by decide +kernel
theorem dX7_drop_1 : decode cX7_drop 1 = .ok (.iconst 0, 1) := by decide +kernel
theorem dX7_drop_2 : decode cX7_drop 2 = .ok (.putfield 65, 3) := by decide +kernel
theorem dX7_drop_5 : decode cX7_drop 5 = .ok (.return_, 1) := by decide +kernel
theorem dX7_length_0 : decode cX7_length 0 = .ok (.aload_n 0, 1) := by decide +kernel
theorem dX7_length_1 : decode cX7_length 1 = .ok (.getfield 65, 3) := by decide +kernel
theorem dX7_length_4 : decode cX7_length 4 = .ok (.ireturn, 1) := by decide +kernel
theorem dX7_fail_0 : decode cX7_fail 0 = .ok (.aload_n 0, 1) := by decide +kernel
theorem dX7_fail_1 : decode cX7_fail 1 = .ok (.getfield 69, 3) := by decide +kernel
theorem dX7_fail_4 : decode cX7_fail 4 = .ok (.ifCond .ne 13, 3) := by decide +kernel
theorem dX7_fail_7 : decode cX7_fail 7 = .ok (.aload_n 0, 1) := by decide +kernel
theorem dX7_fail_8 : decode cX7_fail 8 = .ok (.iload_n 1, 1) := by decide +kernel
theorem dX7_fail_9 : decode cX7_fail 9 = .ok (.putfield 69, 3) := by decide +kernel
theorem dX7_fail_12 : decode cX7_fail 12 = .ok (.aload_n 0, 1) := by decide +kernel
theorem dX7_fail_13 : decode cX7_fail 13 = .ok (.iload_n 2, 1) := by decide +kernel
theorem dX7_fail_14 : decode cX7_fail 14 = .ok (.putfield 72, 3) := by decide +kernel
theorem dX7_fail_17 : decode cX7_fail 17 = .ok (.return_, 1) := by decide +kernel
theorem dX7_take_0 : decode cX7_take 0 = .ok (.aload_n 0, 1) := by decide +kernel
theorem dX7_take_1 : decode cX7_take 1 = .ok (.getfield 69, 3) := by decide +kernel
theorem dX7_take_4 : decode cX7_take 4 = .ok (.ifCond .eq 5, 3) := by decide +kernel
theorem dX7_take_7 : decode cX7_take 7 = .ok (.iconst 0, 1) := by decide +kernel
theorem dX7_take_8 : decode cX7_take 8 = .ok (.ireturn, 1) := by decide +kernel
theorem dX7_take_9 : decode cX7_take 9 = .ok (.aload_n 0, 1) := by decide +kernel
theorem dX7_take_10 : decode cX7_take 10 = .ok (.getfield 75, 3) := by decide +kernel
theorem dX7_take_13 : decode cX7_take 13 = .ok (.aload_n 0, 1) := by decide +kernel
theorem dX7_take_14 : decode cX7_take 14 = .ok (.getfield 78, 3) := by decide +kernel
theorem dX7_take_17 : decode cX7_take 17 = .ok (.if_icmp .lt 14, 3) := by decide +kernel
theorem dX7_take_20 : decode cX7_take 20 = .ok (.aload_n 0, 1) := by decide +kernel
theorem dX7_take_21 : decode cX7_take 21 = .ok (.iconst 1, 1) := by decide +kernel
theorem dX7_take_22 : decode cX7_take 22 = .ok (.aload_n 0, 1) := by decide +kernel
theorem dX7_take_23 : decode cX7_take 23 = .ok (.getfield 78, 3) := by decide +kernel
theorem dX7_take_26 : decode cX7_take 26 = .ok (.invokevirtual 81, 3) := by decide +kernel
theorem dX7_take_29 : decode cX7_take 29 = .ok (.iconst 0, 1) := by decide +kernel
theorem dX7_take_30 : decode cX7_take 30 = .ok (.ireturn, 1) := by decide +kernel
theorem dX7_take_31 : decode cX7_take 31 = .ok (.aload_n 0, 1) := by decide +kernel
theorem dX7_take_32 : decode cX7_take 32 = .ok (.getfield 13, 3) := by decide +kernel
theorem dX7_take_35 : decode cX7_take 35 = .ok (.aload_n 0, 1) := by decide +kernel
theorem dX7_take_36 : decode cX7_take 36 = .ok (.getfield 85, 3) := by decide +kernel
theorem dX7_take_39 : decode cX7_take 39 = .ok (.aload_n 0, 1) := by decide +kernel
theorem dX7_take_40 : decode cX7_take 40 = .ok (.getfield 75, 3) := by decide +kernel
theorem dX7_take_43 : decode cX7_take 43 = .ok (.iadd, 1) := by decide +kernel
theorem dX7_take_44 : decode cX7_take 44 = .ok (.iaload, 1) := by decide +kernel
theorem dX7_take_45 : decode cX7_take 45 = .ok (.istore_n 1, 1) := by decide +kernel
theorem dX7_take_46 : decode cX7_take 46 = .ok (.aload_n 0, 1) := by decide +kernel
theorem dX7_take_47 : decode cX7_take 47 = .ok (.dup, 1) := by decide +kernel
theorem dX7_take_48 : decode cX7_take 48 = .ok (.getfield 75, 3) := by decide +kernel
theorem dX7_take_51 : decode cX7_take 51 = .ok (.iconst 1, 1) := by decide +kernel
theorem dX7_take_52 : decode cX7_take 52 = .ok (.iadd, 1) := by decide +kernel
theorem dX7_take_53 : decode cX7_take 53 = .ok (.putfield 75, 3) := by decide +kernel
theorem dX7_take_56 : decode cX7_take 56 = .ok (.iload_n 1, 1) := by decide +kernel
theorem dX7_take_57 : decode cX7_take 57 = .ok (.ireturn, 1) := by decide +kernel
theorem dX7_many_0 : decode cX7_many 0 = .ok (.aload_n 0, 1) := by decide +kernel
theorem dX7_many_1 : decode cX7_many 1 = .ok (.getfield 75, 3) := by decide +kernel
theorem dX7_many_4 : decode cX7_many 4 = .ok (.istore_n 2, 1) := by decide +kernel
theorem dX7_many_5 : decode cX7_many 5 = .ok (.aload_n 0, 1) := by decide +kernel
theorem dX7_many_6 : decode cX7_many 6 = .ok (.invokevirtual 88, 3) := by decide +kernel
theorem dX7_many_9 : decode cX7_many 9 = .ok (.istore_n 3, 1) := by decide +kernel
theorem dX7_many_10 : decode cX7_many 10 = .ok (.iload_n 3, 1) := by decide +kernel
theorem dX7_many_11 : decode cX7_many 11 = .ok (.iload_n 1, 1) := by decide +kernel
theorem dX7_many_12 : decode cX7_many 12 = .ok (.if_icmp .le 9, 3) := by decide +kernel
theorem dX7_many_15 : decode cX7_many 15 = .ok (.aload_n 0, 1) := by decide +kernel
theorem dX7_many_16 : decode cX7_many 16 = .ok (.iconst 4, 1) := by decide +kernel
theorem dX7_many_17 : decode cX7_many 17 = .ok (.iload_n 2, 1) := by decide +kernel
theorem dX7_many_18 : decode cX7_many 18 = .ok (.invokevirtual 81, 3) := by decide +kernel
theorem dX7_many_21 : decode cX7_many 21 = .ok (.aload_n 0, 1) := by decide +kernel
theorem dX7_many_22 : decode cX7_many 22 = .ok (.getfield 69, 3) := by decide +kernel
theorem dX7_many_25 : decode cX7_many 25 = .ok (.ifCond .ne 7, 3) := by decide +kernel
theorem dX7_many_28 : decode cX7_many 28 = .ok (.iload_n 3, 1) := by decide +kernel
theorem dX7_many_29 : decode cX7_many 29 = .ok (.goto 4, 3) := by decide +kernel
theorem dX7_many_32 : decode cX7_many 32 = .ok (.iconst 0, 1) := by decide +kernel
theorem dX7_many_33 : decode cX7_many 33 = .ok (.ireturn, 1) := by decide +kernel
theorem dX7_constant_0 : decode cX7_constant 0 = .ok (.aload_n 0, 1) := by decide +kernel
theorem dX7_constant_1 : decode cX7_constant 1 = .ok (.getfield 75, 3) := by decide +kernel
theorem dX7_constant_4 : decode cX7_constant 4 = .ok (.istore_n 2, 1) := by decide +kernel
theorem dX7_constant_5 : decode cX7_constant 5 = .ok (.aload_n 0, 1) := by decide +kernel
theorem dX7_constant_6 : decode cX7_constant 6 = .ok (.invokevirtual 88, 3) := by decide +kernel
theorem dX7_constant_9 : decode cX7_constant 9 = .ok (.istore_n 3, 1) := by decide +kernel
theorem dX7_constant_10 : decode cX7_constant 10 = .ok (.aload_n 0, 1) := by decide +kernel
theorem dX7_constant_11 : decode cX7_constant 11 = .ok (.getfield 69, 3) := by decide +kernel
theorem dX7_constant_14 : decode cX7_constant 14 = .ok (.ifCond .ne 41, 3) := by decide +kernel
theorem dX7_constant_17 : decode cX7_constant 17 = .ok (.iload_n 3, 1) := by decide +kernel
theorem dX7_constant_18 : decode cX7_constant 18 = .ok (.iconst 1, 1) := by decide +kernel
theorem dX7_constant_19 : decode cX7_constant 19 = .ok (.if_icmp .lt 29, 3) := by decide +kernel
theorem dX7_constant_22 : decode cX7_constant 22 = .ok (.iload_n 3, 1) := by decide +kernel
theorem dX7_constant_23 : decode cX7_constant 23 = .ok (.aload_n 0, 1) := by decide +kernel
theorem dX7_constant_24 : decode cX7_constant 24 = .ok (.getfield 92, 3) := by decide +kernel
theorem dX7_constant_27 : decode cX7_constant 27 = .ok (.if_icmp .gt 21, 3) := by decide +kernel
theorem dX7_constant_30 : decode cX7_constant 30 = .ok (.aload_n 0, 1) := by decide +kernel
theorem dX7_constant_31 : decode cX7_constant 31 = .ok (.getfield 19, 3) := by decide +kernel
theorem dX7_constant_34 : decode cX7_constant 34 = .ok (.bipush 13, 2) := by decide +kernel
theorem dX7_constant_36 : decode cX7_constant 36 = .ok (.aload_n 0, 1) := by decide +kernel
theorem dX7_constant_37 : decode cX7_constant 37 = .ok (.getfield 95, 3) := by decide +kernel
theorem dX7_constant_40 : decode cX7_constant 40 = .ok (.imul, 1) := by decide +kernel
theorem dX7_constant_41 : decode cX7_constant 41 = .ok (.iload_n 3, 1) := by decide +kernel
theorem dX7_constant_42 : decode cX7_constant 42 = .ok (.iadd, 1) := by decide +kernel
theorem dX7_constant_43 : decode cX7_constant 43 = .ok (.iaload, 1) := by decide +kernel
theorem dX7_constant_44 : decode cX7_constant 44 = .ok (.iload_n 1, 1) := by decide +kernel
theorem dX7_constant_45 : decode cX7_constant 45 = .ok (.if_icmp .eq 10, 3) := by decide +kernel
theorem dX7_constant_48 : decode cX7_constant 48 = .ok (.aload_n 0, 1) := by decide +kernel
theorem dX7_constant_49 : decode cX7_constant 49 = .ok (.bipush 6, 2) := by decide +kernel
theorem dX7_constant_51 : decode cX7_constant 51 = .ok (.iload_n 2, 1) := by decide +kernel
theorem dX7_constant_52 : decode cX7_constant 52 = .ok (.invokevirtual 81, 3) := by decide +kernel
theorem dX7_constant_55 : decode cX7_constant 55 = .ok (.iload_n 3, 1) := by decide +kernel
theorem dX7_constant_56 : decode cX7_constant 56 = .ok (.ireturn, 1) := by decide +kernel
theorem dX7_classOrNone_0 : decode cX7_classOrNone 0 = .ok (.aload_n 0, 1) := by decide +kernel
theorem dX7_classOrNone_1 : decode cX7_classOrNone 1 = .ok (.getfield 75, 3) := by decide +kernel
theorem dX7_classOrNone_4 : decode cX7_classOrNone 4 = .ok (.istore_n 1, 1) := by decide +kernel
theorem dX7_classOrNone_5 : decode cX7_classOrNone 5 = .ok (.aload_n 0, 1) := by decide +kernel
theorem dX7_classOrNone_6 : decode cX7_classOrNone 6 = .ok (.invokevirtual 88, 3) := by decide +kernel
theorem dX7_classOrNone_9 : decode cX7_classOrNone 9 = .ok (.istore_n 2, 1) := by decide +kernel
theorem dX7_classOrNone_10 : decode cX7_classOrNone 10 = .ok (.aload_n 0, 1) := by decide +kernel
theorem dX7_classOrNone_11 : decode cX7_classOrNone 11 = .ok (.getfield 69, 3) := by decide +kernel
theorem dX7_classOrNone_14 : decode cX7_classOrNone 14 = .ok (.ifCond .ne 41, 3) := by decide +kernel
theorem dX7_classOrNone_17 : decode cX7_classOrNone 17 = .ok (.iload_n 2, 1) := by decide +kernel
theorem dX7_classOrNone_18 : decode cX7_classOrNone 18 = .ok (.ifCond .eq 37, 3) := by decide +kernel
theorem dX7_classOrNone_21 : decode cX7_classOrNone 21 = .ok (.iload_n 2, 1) := by decide +kernel
theorem dX7_classOrNone_22 : decode cX7_classOrNone 22 = .ok (.aload_n 0, 1) := by decide +kernel
theorem dX7_classOrNone_23 : decode cX7_classOrNone 23 = .ok (.getfield 92, 3) := by decide +kernel
theorem dX7_classOrNone_26 : decode cX7_classOrNone 26 = .ok (.if_icmp .gt 22, 3) := by decide +kernel
theorem dX7_classOrNone_29 : decode cX7_classOrNone 29 = .ok (.aload_n 0, 1) := by decide +kernel
theorem dX7_classOrNone_30 : decode cX7_classOrNone 30 = .ok (.getfield 19, 3) := by decide +kernel
theorem dX7_classOrNone_33 : decode cX7_classOrNone 33 = .ok (.bipush 13, 2) := by decide +kernel
theorem dX7_classOrNone_35 : decode cX7_classOrNone 35 = .ok (.aload_n 0, 1) := by decide +kernel
theorem dX7_classOrNone_36 : decode cX7_classOrNone 36 = .ok (.getfield 95, 3) := by decide +kernel
theorem dX7_classOrNone_39 : decode cX7_classOrNone 39 = .ok (.imul, 1) := by decide +kernel
theorem dX7_classOrNone_40 : decode cX7_classOrNone 40 = .ok (.iload_n 2, 1) := by decide +kernel
theorem dX7_classOrNone_41 : decode cX7_classOrNone 41 = .ok (.iadd, 1) := by decide +kernel
theorem dX7_classOrNone_42 : decode cX7_classOrNone 42 = .ok (.iaload, 1) := by decide +kernel
theorem dX7_classOrNone_43 : decode cX7_classOrNone 43 = .ok (.bipush 7, 2) := by decide +kernel
theorem dX7_classOrNone_45 : decode cX7_classOrNone 45 = .ok (.if_icmp .eq 10, 3) := by decide +kernel
theorem dX7_classOrNone_48 : decode cX7_classOrNone 48 = .ok (.aload_n 0, 1) := by decide +kernel
theorem dX7_classOrNone_49 : decode cX7_classOrNone 49 = .ok (.bipush 6, 2) := by decide +kernel
theorem dX7_classOrNone_51 : decode cX7_classOrNone 51 = .ok (.iload_n 1, 1) := by decide +kernel
theorem dX7_classOrNone_52 : decode cX7_classOrNone 52 = .ok (.invokevirtual 81, 3) := by decide +kernel
theorem dX7_classOrNone_55 : decode cX7_classOrNone 55 = .ok (.iload_n 2, 1) := by decide +kernel
theorem dX7_classOrNone_56 : decode cX7_classOrNone 56 = .ok (.ireturn, 1) := by decide +kernel
theorem dX7_oneConstant_0 : decode cX7_oneConstant 0 = .ok (.aload_n 0, 1) := by decide +kernel
theorem dX7_oneConstant_1 : decode cX7_oneConstant 1 = .ok (.getfield 75, 3) := by decide +kernel
theorem dX7_oneConstant_4 : decode cX7_oneConstant 4 = .ok (.istore_n 2, 1) := by decide +kernel
theorem dX7_oneConstant_5 : decode cX7_oneConstant 5 = .ok (.aload_n 0, 1) := by decide +kernel
theorem dX7_oneConstant_6 : decode cX7_oneConstant 6 = .ok (.invokevirtual 88, 3) := by decide +kernel
theorem dX7_oneConstant_9 : decode cX7_oneConstant 9 = .ok (.istore_n 3, 1) := by decide +kernel
theorem dX7_oneConstant_10 : decode cX7_oneConstant 10 = .ok (.aload_n 0, 1) := by decide +kernel
theorem dX7_oneConstant_11 : decode cX7_oneConstant 11 = .ok (.getfield 69, 3) := by decide +kernel
theorem dX7_oneConstant_14 : decode cX7_oneConstant 14 = .ok (.ifCond .eq 4, 3) := by decide +kernel
theorem dX7_oneConstant_17 : decode cX7_oneConstant 17 = .ok (.return_, 1) := by decide +kernel
theorem dX7_oneConstant_18 : decode cX7_oneConstant 18 = .ok (.aload_n 0, 1) := by decide +kernel
theorem dX7_oneConstant_19 : decode cX7_oneConstant 19 = .ok (.getfield 19, 3) := by decide +kernel
theorem dX7_oneConstant_22 : decode cX7_oneConstant 22 = .ok (.bipush 13, 2) := by decide +kernel
theorem dX7_oneConstant_24 : decode cX7_oneConstant 24 = .ok (.aload_n 0, 1) := by decide +kernel
theorem dX7_oneConstant_25 : decode cX7_oneConstant 25 = .ok (.getfield 95, 3) := by decide +kernel
theorem dX7_oneConstant_28 : decode cX7_oneConstant 28 = .ok (.imul, 1) := by decide +kernel
theorem dX7_oneConstant_29 : decode cX7_oneConstant 29 = .ok (.iload_n 1, 1) := by decide +kernel
theorem dX7_oneConstant_30 : decode cX7_oneConstant 30 = .ok (.iadd, 1) := by decide +kernel
theorem dX7_oneConstant_31 : decode cX7_oneConstant 31 = .ok (.iload_n 3, 1) := by decide +kernel
theorem dX7_oneConstant_32 : decode cX7_oneConstant 32 = .ok (.iastore, 1) := by decide +kernel
theorem dX7_oneConstant_33 : decode cX7_oneConstant 33 = .ok (.aload_n 0, 1) := by decide +kernel
theorem dX7_oneConstant_34 : decode cX7_oneConstant 34 = .ok (.getfield 22, 3) := by decide +kernel
theorem dX7_oneConstant_37 : decode cX7_oneConstant 37 = .ok (.bipush 13, 2) := by decide +kernel
theorem dX7_oneConstant_39 : decode cX7_oneConstant 39 = .ok (.aload_n 0, 1) := by decide +kernel
theorem dX7_oneConstant_40 : decode cX7_oneConstant 40 = .ok (.getfield 95, 3) := by decide +kernel
theorem dX7_oneConstant_43 : decode cX7_oneConstant 43 = .ok (.imul, 1) := by decide +kernel
theorem dX7_oneConstant_44 : decode cX7_oneConstant 44 = .ok (.iload_n 1, 1) := by decide +kernel
theorem dX7_oneConstant_45 : decode cX7_oneConstant 45 = .ok (.iadd, 1) := by decide +kernel
theorem dX7_oneConstant_46 : decode cX7_oneConstant 46 = .ok (.aload_n 0, 1) := by decide +kernel
theorem dX7_oneConstant_47 : decode cX7_oneConstant 47 = .ok (.getfield 85, 3) := by decide +kernel
theorem dX7_oneConstant_50 : decode cX7_oneConstant 50 = .ok (.iload_n 2, 1) := by decide +kernel
theorem dX7_oneConstant_51 : decode cX7_oneConstant 51 = .ok (.iadd, 1) := by decide +kernel
theorem dX7_oneConstant_52 : decode cX7_oneConstant 52 = .ok (.iastore, 1) := by decide +kernel
theorem dX7_oneConstant_53 : decode cX7_oneConstant 53 = .ok (.iload_n 3, 1) := by decide +kernel
theorem dX7_oneConstant_54 : decode cX7_oneConstant 54 = .ok (.iconst 1, 1) := by decide +kernel
theorem dX7_oneConstant_55 : decode cX7_oneConstant 55 = .ok (.if_icmp .ne 70, 3) := by decide +kernel
theorem dX7_oneConstant_58 : decode cX7_oneConstant 58 = .ok (.aload_n 0, 1) := by decide +kernel
theorem dX7_oneConstant_59 : decode cX7_oneConstant 59 = .ok (.bipush 10, 2) := by decide +kernel
theorem dX7_oneConstant_61 : decode cX7_oneConstant 61 = .ok (.invokevirtual 98, 3) := by decide +kernel
theorem dX7_oneConstant_64 : decode cX7_oneConstant 64 = .ok (.istore 4, 2) := by decide +kernel
theorem dX7_oneConstant_66 : decode cX7_oneConstant 66 = .ok (.iconst 0, 1) := by decide +kernel
theorem dX7_oneConstant_67 : decode cX7_oneConstant 67 = .ok (.istore 5, 2) := by decide +kernel
theorem dX7_oneConstant_69 : decode cX7_oneConstant 69 = .ok (.iload 5, 2) := by decide +kernel
theorem dX7_oneConstant_71 : decode cX7_oneConstant 71 = .ok (.iload 4, 2) := by decide +kernel
theorem dX7_oneConstant_73 : decode cX7_oneConstant 73 = .ok (.if_icmp .ge 49, 3) := by decide +kernel
theorem dX7_oneConstant_76 : decode cX7_oneConstant 76 = .ok (.aload_n 0, 1) := by decide +kernel
theorem dX7_oneConstant_77 : decode cX7_oneConstant 77 = .ok (.getfield 75, 3) := by decide +kernel
theorem dX7_oneConstant_80 : decode cX7_oneConstant 80 = .ok (.istore 6, 2) := by decide +kernel
theorem dX7_oneConstant_82 : decode cX7_oneConstant 82 = .ok (.aload_n 0, 1) := by decide +kernel
theorem dX7_oneConstant_83 : decode cX7_oneConstant 83 = .ok (.invokevirtual 88, 3) := by decide +kernel
theorem dX7_oneConstant_86 : decode cX7_oneConstant 86 = .ok (.istore 7, 2) := by decide +kernel
theorem dX7_oneConstant_88 : decode cX7_oneConstant 88 = .ok (.aload_n 0, 1) := by decide +kernel
theorem dX7_oneConstant_89 : decode cX7_oneConstant 89 = .ok (.getfield 69, 3) := by decide +kernel
theorem dX7_oneConstant_92 : decode cX7_oneConstant 92 = .ok (.ifCond .ne 24, 3) := by decide +kernel
theorem dX7_oneConstant_95 : decode cX7_oneConstant 95 = .ok (.iload 7, 2) := by decide +kernel
theorem dX7_oneConstant_97 : decode cX7_oneConstant 97 = .ok (.bipush 33, 2) := by decide +kernel
theorem dX7_oneConstant_99 : decode cX7_oneConstant 99 = .ok (.if_icmp .lt 10, 3) := by decide +kernel
theorem dX7_oneConstant_102 : decode cX7_oneConstant 102 = .ok (.iload 7, 2) := by decide +kernel
theorem dX7_oneConstant_104 : decode cX7_oneConstant 104 = .ok (.bipush 126, 2) := by decide +kernel
theorem dX7_oneConstant_106 : decode cX7_oneConstant 106 = .ok (.if_icmp .le 10, 3) := by decide +kernel
theorem dX7_oneConstant_109 : decode cX7_oneConstant 109 = .ok (.aload_n 0, 1) := by decide +kernel
theorem dX7_oneConstant_110 : decode cX7_oneConstant 110 = .ok (.iconst 5, 1) := by decide +kernel
theorem dX7_oneConstant_111 : decode cX7_oneConstant 111 = .ok (.iload 6, 2) := by decide +kernel
theorem dX7_oneConstant_113 : decode cX7_oneConstant 113 = .ok (.invokevirtual 81, 3) := by decide +kernel
theorem dX7_oneConstant_116 : decode cX7_oneConstant 116 = .ok (.iinc 5 1, 3) := by decide +kernel
theorem dX7_oneConstant_119 : decode cX7_oneConstant 119 = .ok (.goto (-50), 3) := by decide +kernel
theorem dX7_oneConstant_122 : decode cX7_oneConstant 122 = .ok (.goto 51, 3) := by decide +kernel
theorem dX7_oneConstant_125 : decode cX7_oneConstant 125 = .ok (.iload_n 3, 1) := by decide +kernel
theorem dX7_oneConstant_126 : decode cX7_oneConstant 126 = .ok (.iconst 3, 1) := by decide +kernel
theorem dX7_oneConstant_127 : decode cX7_oneConstant 127 = .ok (.if_icmp .ne 26, 3) := by decide +kernel
theorem dX7_oneConstant_130 : decode cX7_oneConstant 130 = .ok (.iconst 0, 1) := by decide +kernel
theorem dX7_oneConstant_131 : decode cX7_oneConstant 131 = .ok (.istore 4, 2) := by decide +kernel
theorem dX7_oneConstant_133 : decode cX7_oneConstant 133 = .ok (.iload 4, 2) := by decide +kernel
theorem dX7_oneConstant_135 : decode cX7_oneConstant 135 = .ok (.iconst 4, 1) := by decide +kernel
theorem dX7_oneConstant_136 : decode cX7_oneConstant 136 = .ok (.if_icmp .ge 14, 3) := by decide +kernel
theorem dX7_oneConstant_139 : decode cX7_oneConstant 139 = .ok (.aload_n 0, 1) := by decide +kernel
theorem dX7_oneConstant_140 : decode cX7_oneConstant 140 = .ok (.invokevirtual 88, 3) := by decide +kernel
theorem dX7_oneConstant_143 : decode cX7_oneConstant 143 = .ok (.pop, 1) := by decide +kernel
theorem dX7_oneConstant_144 : decode cX7_oneConstant 144 = .ok (.iinc 4 1, 3) := by decide +kernel
theorem dX7_oneConstant_147 : decode cX7_oneConstant 147 = .ok (.goto (-14), 3) := by decide +kernel
theorem dX7_oneConstant_150 : decode cX7_oneConstant 150 = .ok (.goto 23, 3) := by decide +kernel
theorem dX7_oneConstant_153 : decode cX7_oneConstant 153 = .ok (.iload_n 3, 1) := by decide +kernel
theorem dX7_oneConstant_154 : decode cX7_oneConstant 154 = .ok (.bipush 7, 2) := by decide +kernel
theorem dX7_oneConstant_156 : decode cX7_oneConstant 156 = .ok (.if_icmp .ne 11, 3) := by decide +kernel
theorem dX7_oneConstant_159 : decode cX7_oneConstant 159 = .ok (.aload_n 0, 1) := by decide +kernel
theorem dX7_oneConstant_160 : decode cX7_oneConstant 160 = .ok (.invokevirtual 88, 3) := by decide +kernel
theorem dX7_oneConstant_163 : decode cX7_oneConstant 163 = .ok (.pop, 1) := by decide +kernel
theorem dX7_oneConstant_164 : decode cX7_oneConstant 164 = .ok (.goto 9, 3) := by decide +kernel
theorem dX7_oneConstant_167 : decode cX7_oneConstant 167 = .ok (.aload_n 0, 1) := by decide +kernel
theorem dX7_oneConstant_168 : decode cX7_oneConstant 168 = .ok (.iconst 3, 1) := by decide +kernel
theorem dX7_oneConstant_169 : decode cX7_oneConstant 169 = .ok (.iload_n 2, 1) := by decide +kernel
theorem dX7_oneConstant_170 : decode cX7_oneConstant 170 = .ok (.invokevirtual 81, 3) := by decide +kernel
theorem dX7_oneConstant_173 : decode cX7_oneConstant 173 = .ok (.return_, 1) := by decide +kernel
theorem dX7_allConstants_0 : decode cX7_allConstants 0 = .ok (.aload_n 0, 1) := by decide +kernel
theorem dX7_allConstants_1 : decode cX7_allConstants 1 = .ok (.aload_n 0, 1) := by decide +kernel
theorem dX7_allConstants_2 : decode cX7_allConstants 2 = .ok (.bipush 12, 2) := by decide +kernel
theorem dX7_allConstants_4 : decode cX7_allConstants 4 = .ok (.invokevirtual 98, 3) := by decide +kernel
theorem dX7_allConstants_7 : decode cX7_allConstants 7 = .ok (.putfield 92, 3) := by decide +kernel
theorem dX7_allConstants_10 : decode cX7_allConstants 10 = .ok (.iconst 1, 1) := by decide +kernel
theorem dX7_allConstants_11 : decode cX7_allConstants 11 = .ok (.istore_n 1, 1) := by decide +kernel
theorem dX7_allConstants_12 : decode cX7_allConstants 12 = .ok (.iload_n 1, 1) := by decide +kernel
theorem dX7_allConstants_13 : decode cX7_allConstants 13 = .ok (.aload_n 0, 1) := by decide +kernel
theorem dX7_allConstants_14 : decode cX7_allConstants 14 = .ok (.getfield 92, 3) := by decide +kernel
theorem dX7_allConstants_17 : decode cX7_allConstants 17 = .ok (.if_icmp .gt 21, 3) := by decide +kernel
theorem dX7_allConstants_20 : decode cX7_allConstants 20 = .ok (.aload_n 0, 1) := by decide +kernel
theorem dX7_allConstants_21 : decode cX7_allConstants 21 = .ok (.getfield 69, 3) := by decide +kernel
theorem dX7_allConstants_24 : decode cX7_allConstants 24 = .ok (.ifCond .ne 14, 3) := by decide +kernel
theorem dX7_allConstants_27 : decode cX7_allConstants 27 = .ok (.aload_n 0, 1) := by decide +kernel
theorem dX7_allConstants_28 : decode cX7_allConstants 28 = .ok (.iload_n 1, 1) := by decide +kernel
theorem dX7_allConstants_29 : decode cX7_allConstants 29 = .ok (.invokevirtual 102, 3) := by decide +kernel
theorem dX7_allConstants_32 : decode cX7_allConstants 32 = .ok (.iinc 1 1, 3) := by decide +kernel
theorem dX7_allConstants_35 : decode cX7_allConstants 35 = .ok (.goto (-23), 3) := by decide +kernel
theorem dX7_allConstants_38 : decode cX7_allConstants 38 = .ok (.iconst 1, 1) := by decide +kernel
theorem dX7_allConstants_39 : decode cX7_allConstants 39 = .ok (.istore_n 1, 1) := by decide +kernel
theorem dX7_allConstants_40 : decode cX7_allConstants 40 = .ok (.iload_n 1, 1) := by decide +kernel
theorem dX7_allConstants_41 : decode cX7_allConstants 41 = .ok (.aload_n 0, 1) := by decide +kernel
theorem dX7_allConstants_42 : decode cX7_allConstants 42 = .ok (.getfield 92, 3) := by decide +kernel
theorem dX7_allConstants_45 : decode cX7_allConstants 45 = .ok (.if_icmp .gt 140, 3) := by decide +kernel
theorem dX7_allConstants_48 : decode cX7_allConstants 48 = .ok (.aload_n 0, 1) := by decide +kernel
theorem dX7_allConstants_49 : decode cX7_allConstants 49 = .ok (.getfield 69, 3) := by decide +kernel
theorem dX7_allConstants_52 : decode cX7_allConstants 52 = .ok (.ifCond .ne 133, 3) := by decide +kernel
theorem dX7_allConstants_55 : decode cX7_allConstants 55 = .ok (.aload_n 0, 1) := by decide +kernel
theorem dX7_allConstants_56 : decode cX7_allConstants 56 = .ok (.getfield 22, 3) := by decide +kernel
theorem dX7_allConstants_59 : decode cX7_allConstants 59 = .ok (.bipush 13, 2) := by decide +kernel
theorem dX7_allConstants_61 : decode cX7_allConstants 61 = .ok (.aload_n 0, 1) := by decide +kernel
theorem dX7_allConstants_62 : decode cX7_allConstants 62 = .ok (.getfield 95, 3) := by decide +kernel
theorem dX7_allConstants_65 : decode cX7_allConstants 65 = .ok (.imul, 1) := by decide +kernel
theorem dX7_allConstants_66 : decode cX7_allConstants 66 = .ok (.iload_n 1, 1) := by decide +kernel
theorem dX7_allConstants_67 : decode cX7_allConstants 67 = .ok (.iadd, 1) := by decide +kernel
theorem dX7_allConstants_68 : decode cX7_allConstants 68 = .ok (.iaload, 1) := by decide +kernel
theorem dX7_allConstants_69 : decode cX7_allConstants 69 = .ok (.istore_n 2, 1) := by decide +kernel
theorem dX7_allConstants_70 : decode cX7_allConstants 70 = .ok (.aload_n 0, 1) := by decide +kernel
theorem dX7_allConstants_71 : decode cX7_allConstants 71 = .ok (.getfield 19, 3) := by decide +kernel
theorem dX7_allConstants_74 : decode cX7_allConstants 74 = .ok (.bipush 13, 2) := by decide +kernel
theorem dX7_allConstants_76 : decode cX7_allConstants 76 = .ok (.aload_n 0, 1) := by decide +kernel
theorem dX7_allConstants_77 : decode cX7_allConstants 77 = .ok (.getfield 95, 3) := by decide +kernel
theorem dX7_allConstants_80 : decode cX7_allConstants 80 = .ok (.imul, 1) := by decide +kernel
theorem dX7_allConstants_81 : decode cX7_allConstants 81 = .ok (.iload_n 1, 1) := by decide +kernel
theorem dX7_allConstants_82 : decode cX7_allConstants 82 = .ok (.iadd, 1) := by decide +kernel
theorem dX7_allConstants_83 : decode cX7_allConstants 83 = .ok (.iaload, 1) := by decide +kernel
theorem dX7_allConstants_84 : decode cX7_allConstants 84 = .ok (.bipush 7, 2) := by decide +kernel
theorem dX7_allConstants_86 : decode cX7_allConstants 86 = .ok (.if_icmp .ne 93, 3) := by decide +kernel
theorem dX7_allConstants_89 : decode cX7_allConstants 89 = .ok (.aload_n 0, 1) := by decide +kernel
theorem dX7_allConstants_90 : decode cX7_allConstants 90 = .ok (.getfield 13, 3) := by decide +kernel
theorem dX7_allConstants_93 : decode cX7_allConstants 93 = .ok (.iload_n 2, 1) := by decide +kernel
theorem dX7_allConstants_94 : decode cX7_allConstants 94 = .ok (.iconst 1, 1) := by decide +kernel
theorem dX7_allConstants_95 : decode cX7_allConstants 95 = .ok (.iadd, 1) := by decide +kernel
theorem dX7_allConstants_96 : decode cX7_allConstants 96 = .ok (.iaload, 1) := by decide +kernel
theorem dX7_allConstants_97 : decode cX7_allConstants 97 = .ok (.istore_n 3, 1) := by decide +kernel
theorem dX7_allConstants_98 : decode cX7_allConstants 98 = .ok (.iload_n 3, 1) := by decide +kernel
theorem dX7_allConstants_99 : decode cX7_allConstants 99 = .ok (.iconst 1, 1) := by decide +kernel
theorem dX7_allConstants_100 : decode cX7_allConstants 100 = .ok (.if_icmp .lt 57, 3) := by decide +kernel
theorem dX7_allConstants_103 : decode cX7_allConstants 103 = .ok (.iload_n 3, 1) := by decide +kernel
theorem dX7_allConstants_104 : decode cX7_allConstants 104 = .ok (.aload_n 0, 1) := by decide +kernel
theorem dX7_allConstants_105 : decode cX7_allConstants 105 = .ok (.getfield 92, 3) := by decide +kernel
theorem dX7_allConstants_108 : decode cX7_allConstants 108 = .ok (.if_icmp .gt 49, 3) := by decide +kernel
theorem dX7_allConstants_111 : decode cX7_allConstants 111 = .ok (.aload_n 0, 1) := by decide +kernel
theorem dX7_allConstants_112 : decode cX7_allConstants 112 = .ok (.getfield 19, 3) := by decide +kernel
theorem dX7_allConstants_115 : decode cX7_allConstants 115 = .ok (.bipush 13, 2) := by decide +kernel
theorem dX7_allConstants_117 : decode cX7_allConstants 117 = .ok (.aload_n 0, 1) := by decide +kernel
theorem dX7_allConstants_118 : decode cX7_allConstants 118 = .ok (.getfield 95, 3) := by decide +kernel
theorem dX7_allConstants_121 : decode cX7_allConstants 121 = .ok (.imul, 1) := by decide +kernel
theorem dX7_allConstants_122 : decode cX7_allConstants 122 = .ok (.iload_n 3, 1) := by decide +kernel
theorem dX7_allConstants_123 : decode cX7_allConstants 123 = .ok (.iadd, 1) := by decide +kernel
theorem dX7_allConstants_124 : decode cX7_allConstants 124 = .ok (.iaload, 1) := by decide +kernel
theorem dX7_allConstants_125 : decode cX7_allConstants 125 = .ok (.iconst 1, 1) := by decide +kernel
theorem dX7_allConstants_126 : decode cX7_allConstants 126 = .ok (.if_icmp .ne 31, 3) := by decide +kernel
theorem dX7_allConstants_129 : decode cX7_allConstants 129 = .ok (.aload_n 0, 1) := by decide +kernel
theorem dX7_allConstants_130 : decode cX7_allConstants 130 = .ok (.getfield 13, 3) := by decide +kernel
theorem dX7_allConstants_133 : decode cX7_allConstants 133 = .ok (.aload_n 0, 1) := by decide +kernel
theorem dX7_allConstants_134 : decode cX7_allConstants 134 = .ok (.getfield 22, 3) := by decide +kernel
theorem dX7_allConstants_137 : decode cX7_allConstants 137 = .ok (.bipush 13, 2) := by decide +kernel
theorem dX7_allConstants_139 : decode cX7_allConstants 139 = .ok (.aload_n 0, 1) := by decide +kernel
theorem dX7_allConstants_140 : decode cX7_allConstants 140 = .ok (.getfield 95, 3) := by decide +kernel
theorem dX7_allConstants_143 : decode cX7_allConstants 143 = .ok (.imul, 1) := by decide +kernel
theorem dX7_allConstants_144 : decode cX7_allConstants 144 = .ok (.iload_n 3, 1) := by decide +kernel
theorem dX7_allConstants_145 : decode cX7_allConstants 145 = .ok (.iadd, 1) := by decide +kernel
theorem dX7_allConstants_146 : decode cX7_allConstants 146 = .ok (.iaload, 1) := by decide +kernel
theorem dX7_allConstants_147 : decode cX7_allConstants 147 = .ok (.iconst 1, 1) := by decide +kernel
theorem dX7_allConstants_148 : decode cX7_allConstants 148 = .ok (.iadd, 1) := by decide +kernel
theorem dX7_allConstants_149 : decode cX7_allConstants 149 = .ok (.iaload, 1) := by decide +kernel
theorem dX7_allConstants_150 : decode cX7_allConstants 150 = .ok (.ifCond .le 7, 3) := by decide +kernel
theorem dX7_allConstants_153 : decode cX7_allConstants 153 = .ok (.iconst 1, 1) := by decide +kernel
theorem dX7_allConstants_154 : decode cX7_allConstants 154 = .ok (.goto 4, 3) := by decide +kernel
theorem dX7_allConstants_157 : decode cX7_allConstants 157 = .ok (.iconst 0, 1) := by decide +kernel
theorem dX7_allConstants_158 : decode cX7_allConstants 158 = .ok (.istore 4, 2) := by decide +kernel
theorem dX7_allConstants_160 : decode cX7_allConstants 160 = .ok (.iload 4, 2) := by decide +kernel
theorem dX7_allConstants_162 : decode cX7_allConstants 162 = .ok (.ifCond .ne 17, 3) := by decide +kernel
theorem dX7_allConstants_165 : decode cX7_allConstants 165 = .ok (.aload_n 0, 1) := by decide +kernel
theorem dX7_allConstants_166 : decode cX7_allConstants 166 = .ok (.bipush 6, 2) := by decide +kernel
theorem dX7_allConstants_168 : decode cX7_allConstants 168 = .ok (.iload_n 2, 1) := by decide +kernel
theorem dX7_allConstants_169 : decode cX7_allConstants 169 = .ok (.iconst 1, 1) := by decide +kernel
theorem dX7_allConstants_170 : decode cX7_allConstants 170 = .ok (.iadd, 1) := by decide +kernel
theorem dX7_allConstants_171 : decode cX7_allConstants 171 = .ok (.aload_n 0, 1) := by decide +kernel
theorem dX7_allConstants_172 : decode cX7_allConstants 172 = .ok (.getfield 85, 3) := by decide +kernel
theorem dX7_allConstants_175 : decode cX7_allConstants 175 = .ok (.isub, 1) := by decide +kernel
theorem dX7_allConstants_176 : decode cX7_allConstants 176 = .ok (.invokevirtual 81, 3) := by decide +kernel
theorem dX7_allConstants_179 : decode cX7_allConstants 179 = .ok (.iinc 1 1, 3) := by decide +kernel
theorem dX7_allConstants_182 : decode cX7_allConstants 182 = .ok (.goto (-142), 3) := by decide +kernel
theorem dX7_allConstants_185 : decode cX7_allConstants 185 = .ok (.return_, 1) := by decide +kernel
theorem dX7_values_0 : decode cX7_values 0 = .ok (.iconst 1, 1) := by decide +kernel
theorem dX7_values_1 : decode cX7_values 1 = .ok (.istore_n 2, 1) := by decide +kernel
theorem dX7_values_2 : decode cX7_values 2 = .ok (.aload_n 0, 1) := by decide +kernel
theorem dX7_values_3 : decode cX7_values 3 = .ok (.getfield 55, 3) := by decide +kernel
theorem dX7_values_6 : decode cX7_values 6 = .ok (.iconst 1, 1) := by decide +kernel
theorem dX7_values_7 : decode cX7_values 7 = .ok (.iload_n 1, 1) := by decide +kernel
theorem dX7_values_8 : decode cX7_values 8 = .ok (.iastore, 1) := by decide +kernel
theorem dX7_values_9 : decode cX7_values 9 = .ok (.aload_n 0, 1) := by decide +kernel
theorem dX7_values_10 : decode cX7_values 10 = .ok (.getfield 58, 3) := by decide +kernel
theorem dX7_values_13 : decode cX7_values 13 = .ok (.iconst 1, 1) := by decide +kernel
theorem dX7_values_14 : decode cX7_values 14 = .ok (.iconst 1, 1) := by decide +kernel
theorem dX7_values_15 : decode cX7_values 15 = .ok (.bastore, 1) := by decide +kernel
theorem dX7_values_16 : decode cX7_values 16 = .ok (.iload_n 2, 1) := by decide +kernel
theorem dX7_values_17 : decode cX7_values 17 = .ok (.ifCond .le 71, 3) := by decide +kernel
theorem dX7_values_20 : decode cX7_values 20 = .ok (.aload_n 0, 1) := by decide +kernel
theorem dX7_values_21 : decode cX7_values 21 = .ok (.getfield 69, 3) := by decide +kernel
theorem dX7_values_24 : decode cX7_values 24 = .ok (.ifCond .ne 64, 3) := by decide +kernel
theorem dX7_values_27 : decode cX7_values 27 = .ok (.aload_n 0, 1) := by decide +kernel
theorem dX7_values_28 : decode cX7_values 28 = .ok (.getfield 55, 3) := by decide +kernel
theorem dX7_values_31 : decode cX7_values 31 = .ok (.iload_n 2, 1) := by decide +kernel
theorem dX7_values_32 : decode cX7_values 32 = .ok (.iaload, 1) := by decide +kernel
theorem dX7_values_33 : decode cX7_values 33 = .ok (.ifCond .ne 9, 3) := by decide +kernel
theorem dX7_values_36 : decode cX7_values 36 = .ok (.iinc 2 (-1), 3) := by decide +kernel
theorem dX7_values_39 : decode cX7_values 39 = .ok (.goto (-23), 3) := by decide +kernel
theorem dX7_values_42 : decode cX7_values 42 = .ok (.aload_n 0, 1) := by decide +kernel
theorem dX7_values_43 : decode cX7_values 43 = .ok (.getfield 55, 3) := by decide +kernel
theorem dX7_values_46 : decode cX7_values 46 = .ok (.iload_n 2, 1) := by decide +kernel
theorem dX7_values_47 : decode cX7_values 47 = .ok (.dup2, 1) := by decide +kernel
theorem dX7_values_48 : decode cX7_values 48 = .ok (.iaload, 1) := by decide +kernel
theorem dX7_values_49 : decode cX7_values 49 = .ok (.iconst 1, 1) := by decide +kernel
theorem dX7_values_50 : decode cX7_values 50 = .ok (.isub, 1) := by decide +kernel
theorem dX7_values_51 : decode cX7_values 51 = .ok (.iastore, 1) := by decide +kernel
theorem dX7_values_52 : decode cX7_values 52 = .ok (.aload_n 0, 1) := by decide +kernel
theorem dX7_values_53 : decode cX7_values 53 = .ok (.getfield 58, 3) := by decide +kernel
theorem dX7_values_56 : decode cX7_values 56 = .ok (.iload_n 2, 1) := by decide +kernel
theorem dX7_values_57 : decode cX7_values 57 = .ok (.baload, 1) := by decide +kernel
theorem dX7_values_58 : decode cX7_values 58 = .ok (.ifCond .eq 9, 3) := by decide +kernel
theorem dX7_values_61 : decode cX7_values 61 = .ok (.aload_n 0, 1) := by decide +kernel
theorem dX7_values_62 : decode cX7_values 62 = .ok (.iconst 1, 1) := by decide +kernel
theorem dX7_values_63 : decode cX7_values 63 = .ok (.invokevirtual 106, 3) := by decide +kernel
theorem dX7_values_66 : decode cX7_values 66 = .ok (.pop, 1) := by decide +kernel
theorem dX7_values_67 : decode cX7_values 67 = .ok (.aload_n 0, 1) := by decide +kernel
theorem dX7_values_68 : decode cX7_values 68 = .ok (.getfield 69, 3) := by decide +kernel
theorem dX7_values_71 : decode cX7_values 71 = .ok (.ifCond .ne (-55), 3) := by decide +kernel
theorem dX7_values_74 : decode cX7_values 74 = .ok (.aload_n 0, 1) := by decide +kernel
theorem dX7_values_75 : decode cX7_values 75 = .ok (.iload_n 2, 1) := by decide +kernel
theorem dX7_values_76 : decode cX7_values 76 = .ok (.invokevirtual 109, 3) := by decide +kernel
theorem dX7_values_79 : decode cX7_values 79 = .ok (.ifCond .eq (-63), 3) := by decide +kernel
theorem dX7_values_82 : decode cX7_values 82 = .ok (.iinc 2 1, 3) := by decide +kernel
theorem dX7_values_85 : decode cX7_values 85 = .ok (.goto (-69), 3) := by decide +kernel
theorem dX7_values_88 : decode cX7_values 88 = .ok (.return_, 1) := by decide +kernel
theorem dX7_oneValue_0 : decode cX7_oneValue 0 = .ok (.aload_n 0, 1) := by decide +kernel
theorem dX7_oneValue_1 : decode cX7_oneValue 1 = .ok (.getfield 75, 3) := by decide +kernel
theorem dX7_oneValue_4 : decode cX7_oneValue 4 = .ok (.istore_n 2, 1) := by decide +kernel
theorem dX7_oneValue_5 : decode cX7_oneValue 5 = .ok (.aload_n 0, 1) := by decide +kernel
theorem dX7_oneValue_6 : decode cX7_oneValue 6 = .ok (.invokevirtual 88, 3) := by decide +kernel
theorem dX7_oneValue_9 : decode cX7_oneValue 9 = .ok (.istore_n 3, 1) := by decide +kernel
theorem dX7_oneValue_10 : decode cX7_oneValue 10 = .ok (.aload_n 0, 1) := by decide +kernel
theorem dX7_oneValue_11 : decode cX7_oneValue 11 = .ok (.getfield 69, 3) := by decide +kernel
theorem dX7_oneValue_14 : decode cX7_oneValue 14 = .ok (.ifCond .eq 5, 3) := by decide +kernel
theorem dX7_oneValue_17 : decode cX7_oneValue 17 = .ok (.iconst 0, 1) := by decide +kernel
theorem dX7_oneValue_18 : decode cX7_oneValue 18 = .ok (.ireturn, 1) := by decide +kernel
theorem dX7_oneValue_19 : decode cX7_oneValue 19 = .ok (.iload_n 1, 1) := by decide +kernel
theorem dX7_oneValue_20 : decode cX7_oneValue 20 = .ok (.iconst 5, 1) := by decide +kernel
theorem dX7_oneValue_21 : decode cX7_oneValue 21 = .ok (.if_icmp .ne 13, 3) := by decide +kernel
theorem dX7_oneValue_24 : decode cX7_oneValue 24 = .ok (.aload_n 0, 1) := by decide +kernel
theorem dX7_oneValue_25 : decode cX7_oneValue 25 = .ok (.bipush 7, 2) := by decide +kernel
theorem dX7_oneValue_27 : decode cX7_oneValue 27 = .ok (.iload_n 2, 1) := by decide +kernel
theorem dX7_oneValue_28 : decode cX7_oneValue 28 = .ok (.invokevirtual 81, 3) := by decide +kernel
theorem dX7_oneValue_31 : decode cX7_oneValue 31 = .ok (.goto 114, 3) := by decide +kernel
theorem dX7_oneValue_34 : decode cX7_oneValue 34 = .ok (.iload_n 3, 1) := by decide +kernel
theorem dX7_oneValue_35 : decode cX7_oneValue 35 = .ok (.bipush 73, 2) := by decide +kernel
theorem dX7_oneValue_37 : decode cX7_oneValue 37 = .ok (.if_icmp .ne 12, 3) := by decide +kernel
theorem dX7_oneValue_40 : decode cX7_oneValue 40 = .ok (.aload_n 0, 1) := by decide +kernel
theorem dX7_oneValue_41 : decode cX7_oneValue 41 = .ok (.iconst 3, 1) := by decide +kernel
theorem dX7_oneValue_42 : decode cX7_oneValue 42 = .ok (.invokevirtual 106, 3) := by decide +kernel
theorem dX7_oneValue_45 : decode cX7_oneValue 45 = .ok (.pop, 1) := by decide +kernel
theorem dX7_oneValue_46 : decode cX7_oneValue 46 = .ok (.goto 99, 3) := by decide +kernel
theorem dX7_oneValue_49 : decode cX7_oneValue 49 = .ok (.iload_n 3, 1) := by decide +kernel
theorem dX7_oneValue_50 : decode cX7_oneValue 50 = .ok (.bipush 115, 2) := by decide +kernel
theorem dX7_oneValue_52 : decode cX7_oneValue 52 = .ok (.if_icmp .ne 12, 3) := by decide +kernel
theorem dX7_oneValue_55 : decode cX7_oneValue 55 = .ok (.aload_n 0, 1) := by decide +kernel
theorem dX7_oneValue_56 : decode cX7_oneValue 56 = .ok (.iconst 1, 1) := by decide +kernel
theorem dX7_oneValue_57 : decode cX7_oneValue 57 = .ok (.invokevirtual 106, 3) := by decide +kernel
theorem dX7_oneValue_60 : decode cX7_oneValue 60 = .ok (.pop, 1) := by decide +kernel
theorem dX7_oneValue_61 : decode cX7_oneValue 61 = .ok (.goto 84, 3) := by decide +kernel
theorem dX7_oneValue_64 : decode cX7_oneValue 64 = .ok (.iload_n 3, 1) := by decide +kernel
theorem dX7_oneValue_65 : decode cX7_oneValue 65 = .ok (.bipush 99, 2) := by decide +kernel
theorem dX7_oneValue_67 : decode cX7_oneValue 67 = .ok (.if_icmp .ne 13, 3) := by decide +kernel
theorem dX7_oneValue_70 : decode cX7_oneValue 70 = .ok (.aload_n 0, 1) := by decide +kernel
theorem dX7_oneValue_71 : decode cX7_oneValue 71 = .ok (.bipush 7, 2) := by decide +kernel
theorem dX7_oneValue_73 : decode cX7_oneValue 73 = .ok (.invokevirtual 106, 3) := by decide +kernel
theorem dX7_oneValue_76 : decode cX7_oneValue 76 = .ok (.pop, 1) := by decide +kernel
theorem dX7_oneValue_77 : decode cX7_oneValue 77 = .ok (.goto 68, 3) := by decide +kernel
theorem dX7_oneValue_80 : decode cX7_oneValue 80 = .ok (.iload_n 3, 1) := by decide +kernel
theorem dX7_oneValue_81 : decode cX7_oneValue 81 = .ok (.bipush 91, 2) := by decide +kernel
theorem dX7_oneValue_83 : decode cX7_oneValue 83 = .ok (.if_icmp .eq 9, 3) := by decide +kernel
theorem dX7_oneValue_86 : decode cX7_oneValue 86 = .ok (.iload_n 3, 1) := by decide +kernel
theorem dX7_oneValue_87 : decode cX7_oneValue 87 = .ok (.bipush 64, 2) := by decide +kernel
theorem dX7_oneValue_89 : decode cX7_oneValue 89 = .ok (.if_icmp .ne 50, 3) := by decide +kernel
theorem dX7_oneValue_92 : decode cX7_oneValue 92 = .ok (.iload_n 3, 1) := by decide +kernel
theorem dX7_oneValue_93 : decode cX7_oneValue 93 = .ok (.bipush 64, 2) := by decide +kernel
theorem dX7_oneValue_95 : decode cX7_oneValue 95 = .ok (.if_icmp .ne 10, 3) := by decide +kernel
theorem dX7_oneValue_98 : decode cX7_oneValue 98 = .ok (.aload_n 0, 1) := by decide +kernel
theorem dX7_oneValue_99 : decode cX7_oneValue 99 = .ok (.bipush 7, 2) := by decide +kernel
theorem dX7_oneValue_101 : decode cX7_oneValue 101 = .ok (.invokevirtual 106, 3) := by decide +kernel
theorem dX7_oneValue_104 : decode cX7_oneValue 104 = .ok (.pop, 1) := by decide +kernel
theorem dX7_oneValue_105 : decode cX7_oneValue 105 = .ok (.aload_n 0, 1) := by decide +kernel
theorem dX7_oneValue_106 : decode cX7_oneValue 106 = .ok (.getfield 55, 3) := by decide +kernel
theorem dX7_oneValue_109 : decode cX7_oneValue 109 = .ok (.iload_n 1, 1) := by decide +kernel
theorem dX7_oneValue_110 : decode cX7_oneValue 110 = .ok (.iconst 1, 1) := by decide +kernel
theorem dX7_oneValue_111 : decode cX7_oneValue 111 = .ok (.iadd, 1) := by decide +kernel
theorem dX7_oneValue_112 : decode cX7_oneValue 112 = .ok (.aload_n 0, 1) := by decide +kernel
theorem dX7_oneValue_113 : decode cX7_oneValue 113 = .ok (.iconst 4, 1) := by decide +kernel
theorem dX7_oneValue_114 : decode cX7_oneValue 114 = .ok (.invokevirtual 98, 3) := by decide +kernel
theorem dX7_oneValue_117 : decode cX7_oneValue 117 = .ok (.iastore, 1) := by decide +kernel
theorem dX7_oneValue_118 : decode cX7_oneValue 118 = .ok (.aload_n 0, 1) := by decide +kernel
theorem dX7_oneValue_119 : decode cX7_oneValue 119 = .ok (.getfield 58, 3) := by decide +kernel
theorem dX7_oneValue_122 : decode cX7_oneValue 122 = .ok (.iload_n 1, 1) := by decide +kernel
theorem dX7_oneValue_123 : decode cX7_oneValue 123 = .ok (.iconst 1, 1) := by decide +kernel
theorem dX7_oneValue_124 : decode cX7_oneValue 124 = .ok (.iadd, 1) := by decide +kernel
theorem dX7_oneValue_125 : decode cX7_oneValue 125 = .ok (.iload_n 3, 1) := by decide +kernel
theorem dX7_oneValue_126 : decode cX7_oneValue 126 = .ok (.bipush 64, 2) := by decide +kernel
theorem dX7_oneValue_128 : decode cX7_oneValue 128 = .ok (.if_icmp .ne 7, 3) := by decide +kernel
theorem dX7_oneValue_131 : decode cX7_oneValue 131 = .ok (.iconst 1, 1) := by decide +kernel
theorem dX7_oneValue_132 : decode cX7_oneValue 132 = .ok (.goto 4, 3) := by decide +kernel
theorem dX7_oneValue_135 : decode cX7_oneValue 135 = .ok (.iconst 0, 1) := by decide +kernel
theorem dX7_oneValue_136 : decode cX7_oneValue 136 = .ok (.bastore, 1) := by decide +kernel
theorem dX7_oneValue_137 : decode cX7_oneValue 137 = .ok (.iconst 1, 1) := by decide +kernel
theorem dX7_oneValue_138 : decode cX7_oneValue 138 = .ok (.ireturn, 1) := by decide +kernel
theorem dX7_oneValue_139 : decode cX7_oneValue 139 = .ok (.aload_n 0, 1) := by decide +kernel
theorem dX7_oneValue_140 : decode cX7_oneValue 140 = .ok (.iconst 3, 1) := by decide +kernel
theorem dX7_oneValue_141 : decode cX7_oneValue 141 = .ok (.iload_n 2, 1) := by decide +kernel
theorem dX7_oneValue_142 : decode cX7_oneValue 142 = .ok (.invokevirtual 81, 3) := by decide +kernel
theorem dX7_oneValue_145 : decode cX7_oneValue 145 = .ok (.iconst 0, 1) := by decide +kernel
theorem dX7_oneValue_146 : decode cX7_oneValue 146 = .ok (.ireturn, 1) := by decide +kernel
