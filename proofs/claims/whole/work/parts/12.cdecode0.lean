theorem dX0_init_0 : decode cX0_init 0 = .ok (.aload_n 0, 1) := by decide +kernel
theorem dX0_init_1 : decode cX0_init 1 = .ok (.invokespecial 3, 3) := by decide +kernel
theorem dX0_init_4 : decode cX0_init 4 = .ok (.aload_n 0, 1) := by decide +kernel
theorem dX0_init_5 : decode cX0_init 5 = .ok (.iload_n 1, 1) := by decide +kernel
theorem dX0_init_6 : decode cX0_init 6 = .ok (.putfield 9, 3) := by decide +kernel
theorem dX0_init_9 : decode cX0_init 9 = .ok (.aload_n 0, 1) := by decide +kernel
theorem dX0_init_10 : decode cX0_init 10 = .ok (.iload_n 2, 1) := by decide +kernel
theorem dX0_init_11 : decode cX0_init 11 = .ok (.putfield 15, 3) := by decide +kernel
theorem dX0_init_14 : decode cX0_init 14 = .ok (.aload_n 0, 1) := by decide +kernel
theorem dX0_init_15 : decode cX0_init 15 = .ok (.iload_n 3, 1) := by decide +kernel
theorem dX0_init_16 : decode cX0_init 16 = .ok (.putfield 18, 3) := by decide +kernel
theorem dX0_init_19 : decode cX0_init 19 = .ok (.aload_n 0, 1) := by decide +kernel
theorem dX0_init_20 : decode cX0_init 20 = .ok (.iload 4, 2) := by decide +kernel
theorem dX0_init_22 : decode cX0_init 22 = .ok (.putfield 21, 3) := by decide +kernel
theorem dX0_init_25 : decode cX0_init 25 = .ok (.aload_n 0, 1) := by decide +kernel
theorem dX0_init_26 : decode cX0_init 26 = .ok (.aload 6, 2) := by decide +kernel
theorem dX0_init_28 : decode cX0_init 28 = .ok (.putfield 24, 3) := by decide +kernel
theorem dX0_init_31 : decode cX0_init 31 = .ok (.aload_n 0, 1) := by decide +kernel
theorem dX0_init_32 : decode cX0_init 32 = .ok (.aload 7, 2) := by decide +kernel
theorem dX0_init_34 : decode cX0_init 34 = .ok (.putfield 28, 3) := by decide +kernel
theorem dX0_init_37 : decode cX0_init 37 = .ok (.iload_n 3, 1) := by decide +kernel
theorem dX0_init_38 : decode cX0_init 38 = .ok (.iconst (-1), 1) := by decide +kernel
theorem dX0_init_39 : decode cX0_init 39 = .ok (.if_icmp .ne 7, 3) := by decide +kernel
theorem dX0_init_42 : decode cX0_init 42 = .ok (.iconst 0, 1) := by decide +kernel
theorem dX0_init_43 : decode cX0_init 43 = .ok (.goto 4, 3) := by decide +kernel
theorem dX0_init_46 : decode cX0_init 46 = .ok (.iconst 1, 1) := by decide +kernel
theorem dX0_init_47 : decode cX0_init 47 = .ok (.istore 8, 2) := by decide +kernel
theorem dX0_init_49 : decode cX0_init 49 = .ok (.aload_n 0, 1) := by decide +kernel
theorem dX0_init_50 : decode cX0_init 50 = .ok (.iload 8, 2) := by decide +kernel
theorem dX0_init_52 : decode cX0_init 52 = .ok (.aload 5, 2) := by decide +kernel
theorem dX0_init_54 : decode cX0_init 54 = .ok (.arraylength, 1) := by decide +kernel
theorem dX0_init_55 : decode cX0_init 55 = .ok (.iadd, 1) := by decide +kernel
theorem dX0_init_56 : decode cX0_init 56 = .ok (.newarray .int, 2) := by decide +kernel
theorem dX0_init_58 : decode cX0_init 58 = .ok (.putfield 32, 3) := by decide +kernel
theorem dX0_init_61 : decode cX0_init 61 = .ok (.iload 8, 2) := by decide +kernel
theorem dX0_init_63 : decode cX0_init 63 = .ok (.iconst 1, 1) := by decide +kernel
theorem dX0_init_64 : decode cX0_init 64 = .ok (.if_icmp .ne 10, 3) := by decide +kernel
theorem dX0_init_67 : decode cX0_init 67 = .ok (.aload_n 0, 1) := by decide +kernel
theorem dX0_init_68 : decode cX0_init 68 = .ok (.getfield 32, 3) := by decide +kernel
theorem dX0_init_71 : decode cX0_init 71 = .ok (.iconst 0, 1) := by decide +kernel
theorem dX0_init_72 : decode cX0_init 72 = .ok (.iload_n 3, 1) := by decide +kernel
theorem dX0_init_73 : decode cX0_init 73 = .ok (.iastore, 1) := by decide +kernel
theorem dX0_init_74 : decode cX0_init 74 = .ok (.aload 5, 2) := by decide +kernel
theorem dX0_init_76 : decode cX0_init 76 = .ok (.iconst 0, 1) := by decide +kernel
theorem dX0_init_77 : decode cX0_init 77 = .ok (.aload_n 0, 1) := by decide +kernel
theorem dX0_init_78 : decode cX0_init 78 = .ok (.getfield 32, 3) := by decide +kernel
theorem dX0_init_81 : decode cX0_init 81 = .ok (.iload 8, 2) := by decide +kernel
theorem dX0_init_83 : decode cX0_init 83 = .ok (.aload 5, 2) := by decide +kernel
theorem dX0_init_85 : decode cX0_init 85 = .ok (.arraylength, 1) := by decide +kernel
theorem dX0_init_86 : decode cX0_init 86 = .ok (.invokestatic 36, 3) := by decide +kernel
theorem dX0_init_89 : decode cX0_init 89 = .ok (.aload_n 0, 1) := by decide +kernel
theorem dX0_init_90 : decode cX0_init 90 = .ok (.aload 6, 2) := by decide +kernel
theorem dX0_init_92 : decode cX0_init 92 = .ok (.arraylength, 1) := by decide +kernel
theorem dX0_init_93 : decode cX0_init 93 = .ok (.newarray .int, 2) := by decide +kernel
theorem dX0_init_95 : decode cX0_init 95 = .ok (.putfield 42, 3) := by decide +kernel
theorem dX0_init_98 : decode cX0_init 98 = .ok (.iconst 0, 1) := by decide +kernel
theorem dX0_init_99 : decode cX0_init 99 = .ok (.istore 9, 2) := by decide +kernel
theorem dX0_init_101 : decode cX0_init 101 = .ok (.iload 9, 2) := by decide +kernel
theorem dX0_init_103 : decode cX0_init 103 = .ok (.aload 6, 2) := by decide +kernel
theorem dX0_init_105 : decode cX0_init 105 = .ok (.arraylength, 1) := by decide +kernel
theorem dX0_init_106 : decode cX0_init 106 = .ok (.if_icmp .ge 24, 3) := by decide +kernel
theorem dX0_init_109 : decode cX0_init 109 = .ok (.aload_n 0, 1) := by decide +kernel
theorem dX0_init_110 : decode cX0_init 110 = .ok (.getfield 42, 3) := by decide +kernel
theorem dX0_init_113 : decode cX0_init 113 = .ok (.iload 9, 2) := by decide +kernel
theorem dX0_init_115 : decode cX0_init 115 = .ok (.aload 6, 2) := by decide +kernel
theorem dX0_init_117 : decode cX0_init 117 = .ok (.iload 9, 2) := by decide +kernel
theorem dX0_init_119 : decode cX0_init 119 = .ok (.aaload, 1) := by decide +kernel
theorem dX0_init_120 : decode cX0_init 120 = .ok (.getfield 45, 3) := by decide +kernel
theorem dX0_init_123 : decode cX0_init 123 = .ok (.iastore, 1) := by decide +kernel
theorem dX0_init_124 : decode cX0_init 124 = .ok (.iinc 9 1, 3) := by decide +kernel
theorem dX0_init_127 : decode cX0_init 127 = .ok (.goto (-26), 3) := by decide +kernel
theorem dX0_init_130 : decode cX0_init 130 = .ok (.return_, 1) := by decide +kernel
theorem dX0_directTypes_0 : decode cX0_directTypes 0 = .ok (.iload_n 1, 1) := by decide +kernel
theorem dX0_directTypes_1 : decode cX0_directTypes 1 = .ok (.ifCond .eq 10, 3) := by decide +kernel
theorem dX0_directTypes_4 : decode cX0_directTypes 4 = .ok (.aload_n 0, 1) := by decide +kernel
theorem dX0_directTypes_5 : decode cX0_directTypes 5 = .ok (.getfield 42, 3) := by decide +kernel
theorem dX0_directTypes_8 : decode cX0_directTypes 8 = .ok (.goto 7, 3) := by decide +kernel
theorem dX0_directTypes_11 : decode cX0_directTypes 11 = .ok (.aload_n 0, 1) := by decide +kernel
theorem dX0_directTypes_12 : decode cX0_directTypes 12 = .ok (.getfield 32, 3) := by decide +kernel
theorem dX0_directTypes_15 : decode cX0_directTypes 15 = .ok (.areturn, 1) := by decide +kernel
theorem dX0_firstAnnotation_0 : decode cX0_firstAnnotation 0 = .ok (.iconst 0, 1) := by decide +kernel
theorem dX0_firstAnnotation_1 : decode cX0_firstAnnotation 1 = .ok (.istore_n 2, 1) := by decide +kernel
theorem dX0_firstAnnotation_2 : decode cX0_firstAnnotation 2 = .ok (.iload_n 2, 1) := by decide +kernel
theorem dX0_firstAnnotation_3 : decode cX0_firstAnnotation 3 = .ok (.aload_n 0, 1) := by decide +kernel
theorem dX0_firstAnnotation_4 : decode cX0_firstAnnotation 4 = .ok (.getfield 24, 3) := by decide +kernel
theorem dX0_firstAnnotation_7 : decode cX0_firstAnnotation 7 = .ok (.arraylength, 1) := by decide +kernel
theorem dX0_firstAnnotation_8 : decode cX0_firstAnnotation 8 = .ok (.if_icmp .ge 29, 3) := by decide +kernel
theorem dX0_firstAnnotation_11 : decode cX0_firstAnnotation 11 = .ok (.aload_n 0, 1) := by decide +kernel
theorem dX0_firstAnnotation_12 : decode cX0_firstAnnotation 12 = .ok (.getfield 24, 3) := by decide +kernel
theorem dX0_firstAnnotation_15 : decode cX0_firstAnnotation 15 = .ok (.iload_n 2, 1) := by decide +kernel
theorem dX0_firstAnnotation_16 : decode cX0_firstAnnotation 16 = .ok (.aaload, 1) := by decide +kernel
theorem dX0_firstAnnotation_17 : decode cX0_firstAnnotation 17 = .ok (.iload_n 1, 1) := by decide +kernel
theorem dX0_firstAnnotation_18 : decode cX0_firstAnnotation 18 = .ok (.invokevirtual 50, 3) := by decide +kernel
theorem dX0_firstAnnotation_21 : decode cX0_firstAnnotation 21 = .ok (.ifCond .eq 10, 3) := by decide +kernel
theorem dX0_firstAnnotation_24 : decode cX0_firstAnnotation 24 = .ok (.aload_n 0, 1) := by decide +kernel
theorem dX0_firstAnnotation_25 : decode cX0_firstAnnotation 25 = .ok (.getfield 24, 3) := by decide +kernel
theorem dX0_firstAnnotation_28 : decode cX0_firstAnnotation 28 = .ok (.iload_n 2, 1) := by decide +kernel
theorem dX0_firstAnnotation_29 : decode cX0_firstAnnotation 29 = .ok (.aaload, 1) := by decide +kernel
theorem dX0_firstAnnotation_30 : decode cX0_firstAnnotation 30 = .ok (.areturn, 1) := by decide +kernel
theorem dX0_firstAnnotation_31 : decode cX0_firstAnnotation 31 = .ok (.iinc 2 1, 3) := by decide +kernel
theorem dX0_firstAnnotation_34 : decode cX0_firstAnnotation 34 = .ok (.goto (-32), 3) := by decide +kernel
theorem dX0_firstAnnotation_37 : decode cX0_firstAnnotation 37 = .ok (.aconst_null, 1) := by decide +kernel
theorem dX0_firstAnnotation_38 : decode cX0_firstAnnotation 38 = .ok (.areturn, 1) := by decide +kernel
theorem dX0_annotationsOf_0 : decode cX0_annotationsOf 0 = .ok (.iconst 0, 1) := by decide +kernel
theorem dX0_annotationsOf_1 : decode cX0_annotationsOf 1 = .ok (.istore_n 3, 1) := by decide +kernel
theorem dX0_annotationsOf_2 : decode cX0_annotationsOf 2 = .ok (.iconst 0, 1) := by decide +kernel
theorem dX0_annotationsOf_3 : decode cX0_annotationsOf 3 = .ok (.istore 4, 2) := by decide +kernel
theorem dX0_annotationsOf_5 : decode cX0_annotationsOf 5 = .ok (.iload 4, 2) := by decide +kernel
theorem dX0_annotationsOf_7 : decode cX0_annotationsOf 7 = .ok (.aload_n 0, 1) := by decide +kernel
theorem dX0_annotationsOf_8 : decode cX0_annotationsOf 8 = .ok (.getfield 24, 3) := by decide +kernel
theorem dX0_annotationsOf_11 : decode cX0_annotationsOf 11 = .ok (.arraylength, 1) := by decide +kernel
theorem dX0_annotationsOf_12 : decode cX0_annotationsOf 12 = .ok (.if_icmp .ge 59, 3) := by decide +kernel
theorem dX0_annotationsOf_15 : decode cX0_annotationsOf 15 = .ok (.aload_n 0, 1) := by decide +kernel
theorem dX0_annotationsOf_16 : decode cX0_annotationsOf 16 = .ok (.getfield 24, 3) := by decide +kernel
theorem dX0_annotationsOf_19 : decode cX0_annotationsOf 19 = .ok (.iload 4, 2) := by decide +kernel
theorem dX0_annotationsOf_21 : decode cX0_annotationsOf 21 = .ok (.aaload, 1) := by decide +kernel
theorem dX0_annotationsOf_22 : decode cX0_annotationsOf 22 = .ok (.iload_n 1, 1) := by decide +kernel
theorem dX0_annotationsOf_23 : decode cX0_annotationsOf 23 = .ok (.invokevirtual 50, 3) := by decide +kernel
theorem dX0_annotationsOf_26 : decode cX0_annotationsOf 26 = .ok (.ifCond .eq 6, 3) := by decide +kernel
theorem dX0_annotationsOf_29 : decode cX0_annotationsOf 29 = .ok (.iinc 3 1, 3) := by decide +kernel
theorem dX0_annotationsOf_32 : decode cX0_annotationsOf 32 = .ok (.iload_n 2, 1) := by decide +kernel
theorem dX0_annotationsOf_33 : decode cX0_annotationsOf 33 = .ok (.iconst (-1), 1) := by decide +kernel
theorem dX0_annotationsOf_34 : decode cX0_annotationsOf 34 = .ok (.if_icmp .eq 31, 3) := by decide +kernel
theorem dX0_annotationsOf_37 : decode cX0_annotationsOf 37 = .ok (.aload_n 0, 1) := by decide +kernel
theorem dX0_annotationsOf_38 : decode cX0_annotationsOf 38 = .ok (.getfield 24, 3) := by decide +kernel
theorem dX0_annotationsOf_41 : decode cX0_annotationsOf 41 = .ok (.iload 4, 2) := by decide +kernel
theorem dX0_annotationsOf_43 : decode cX0_annotationsOf 43 = .ok (.aaload, 1) := by decide +kernel
theorem dX0_annotationsOf_44 : decode cX0_annotationsOf 44 = .ok (.iload_n 2, 1) := by decide +kernel
theorem dX0_annotationsOf_45 : decode cX0_annotationsOf 45 = .ok (.invokevirtual 50, 3) := by decide +kernel
theorem dX0_annotationsOf_48 : decode cX0_annotationsOf 48 = .ok (.ifCond .eq 17, 3) := by decide +kernel
theorem dX0_annotationsOf_51 : decode cX0_annotationsOf 51 = .ok (.iload_n 3, 1) := by decide +kernel
theorem dX0_annotationsOf_52 : decode cX0_annotationsOf 52 = .ok (.aload_n 0, 1) := by decide +kernel
theorem dX0_annotationsOf_53 : decode cX0_annotationsOf 53 = .ok (.getfield 24, 3) := by decide +kernel
theorem dX0_annotationsOf_56 : decode cX0_annotationsOf 56 = .ok (.iload 4, 2) := by decide +kernel
theorem dX0_annotationsOf_58 : decode cX0_annotationsOf 58 = .ok (.aaload, 1) := by decide +kernel
theorem dX0_annotationsOf_59 : decode cX0_annotationsOf 59 = .ok (.iload_n 1, 1) := by decide +kernel
theorem dX0_annotationsOf_60 : decode cX0_annotationsOf 60 = .ok (.invokevirtual 54, 3) := by decide +kernel
theorem dX0_annotationsOf_63 : decode cX0_annotationsOf 63 = .ok (.iadd, 1) := by decide +kernel
theorem dX0_annotationsOf_64 : decode cX0_annotationsOf 64 = .ok (.istore_n 3, 1) := by decide +kernel
theorem dX0_annotationsOf_65 : decode cX0_annotationsOf 65 = .ok (.iinc 4 1, 3) := by decide +kernel
theorem dX0_annotationsOf_68 : decode cX0_annotationsOf 68 = .ok (.goto (-63), 3) := by decide +kernel
theorem dX0_annotationsOf_71 : decode cX0_annotationsOf 71 = .ok (.iload_n 3, 1) := by decide +kernel
theorem dX0_annotationsOf_72 : decode cX0_annotationsOf 72 = .ok (.ireturn, 1) := by decide +kernel
theorem dX1_init_0 : decode cX1_init 0 = .ok (.aload_n 0, 1) := by decide +kernel
theorem dX1_init_1 : decode cX1_init 1 = .ok (.invokespecial 3, 3) := by decide +kernel
theorem dX1_init_4 : decode cX1_init 4 = .ok (.aload_n 0, 1) := by decide +kernel
theorem dX1_init_5 : decode cX1_init 5 = .ok (.bipush 16, 2) := by decide +kernel
theorem dX1_init_7 : decode cX1_init 7 = .ok (.anewarray 9, 3) := by decide +kernel
theorem dX1_init_10 : decode cX1_init 10 = .ok (.putfield 11, 3) := by decide +kernel
theorem dX1_init_13 : decode cX1_init 13 = .ok (.aload_n 0, 1) := by decide +kernel
theorem dX1_init_14 : decode cX1_init 14 = .ok (.iconst 0, 1) := by decide +kernel
theorem dX1_init_15 : decode cX1_init 15 = .ok (.putfield 17, 3) := by decide +kernel
theorem dX1_init_18 : decode cX1_init 18 = .ok (.aload_n 0, 1) := by decide +kernel
theorem dX1_init_19 : decode cX1_init 19 = .ok (.sipush 192, 3) := by decide +kernel
theorem dX1_init_22 : decode cX1_init 22 = .ok (.newarray .int, 2) := by decide +kernel
theorem dX1_init_24 : decode cX1_init 24 = .ok (.putfield 21, 3) := by decide +kernel
theorem dX1_init_27 : decode cX1_init 27 = .ok (.aload_n 0, 1) := by decide +kernel
theorem dX1_init_28 : decode cX1_init 28 = .ok (.getfield 21, 3) := by decide +kernel
theorem dX1_init_31 : decode cX1_init 31 = .ok (.iconst (-1), 1) := by decide +kernel
theorem dX1_init_32 : decode cX1_init 32 = .ok (.invokestatic 25, 3) := by decide +kernel
theorem dX1_init_35 : decode cX1_init 35 = .ok (.aload_n 0, 1) := by decide +kernel
theorem dX1_init_36 : decode cX1_init 36 = .ok (.bipush 16, 2) := by decide +kernel
theorem dX1_init_38 : decode cX1_init 38 = .ok (.newarray .int, 2) := by decide +kernel
theorem dX1_init_40 : decode cX1_init 40 = .ok (.putfield 31, 3) := by decide +kernel
theorem dX1_init_43 : decode cX1_init 43 = .ok (.aload_n 0, 1) := by decide +kernel
theorem dX1_init_44 : decode cX1_init 44 = .ok (.bipush 16, 2) := by decide +kernel
theorem dX1_init_46 : decode cX1_init 46 = .ok (.newarray .boolean, 2) := by decide +kernel
theorem dX1_init_48 : decode cX1_init 48 = .ok (.putfield 34, 3) := by decide +kernel
theorem dX1_init_51 : decode cX1_init 51 = .ok (.return_, 1) := by decide +kernel
theorem dX1_has_0 : decode cX1_has 0 = .ok (.iload_n 1, 1) := by decide +kernel
theorem dX1_has_1 : decode cX1_has 1 = .ok (.ifCond .lt 15, 3) := by decide +kernel
theorem dX1_has_4 : decode cX1_has 4 = .ok (.iload_n 1, 1) := by decide +kernel
theorem dX1_has_5 : decode cX1_has 5 = .ok (.aload_n 0, 1) := by decide +kernel
theorem dX1_has_6 : decode cX1_has 6 = .ok (.getfield 17, 3) := by decide +kernel
theorem dX1_has_9 : decode cX1_has 9 = .ok (.if_icmp .ge 7, 3) := by decide +kernel
theorem dX1_has_12 : decode cX1_has 12 = .ok (.iconst 1, 1) := by decide +kernel
theorem dX1_has_13 : decode cX1_has 13 = .ok (.goto 4, 3) := by decide +kernel
theorem dX1_has_16 : decode cX1_has 16 = .ok (.iconst 0, 1) := by decide +kernel
theorem dX1_has_17 : decode cX1_has 17 = .ok (.ireturn, 1) := by decide +kernel
theorem dX1_add_0 : decode cX1_add 0 = .ok (.aload_n 0, 1) := by decide +kernel
theorem dX1_add_1 : decode cX1_add 1 = .ok (.getfield 11, 3) := by decide +kernel
theorem dX1_add_4 : decode cX1_add 4 = .ok (.aload_n 0, 1) := by decide +kernel
theorem dX1_add_5 : decode cX1_add 5 = .ok (.getfield 17, 3) := by decide +kernel
theorem dX1_add_8 : decode cX1_add 8 = .ok (.aload_n 1, 1) := by decide +kernel
theorem dX1_add_9 : decode cX1_add 9 = .ok (.aastore, 1) := by decide +kernel
theorem dX1_add_10 : decode cX1_add 10 = .ok (.aload_n 0, 1) := by decide +kernel
theorem dX1_add_11 : decode cX1_add 11 = .ok (.getfield 21, 3) := by decide +kernel
theorem dX1_add_14 : decode cX1_add 14 = .ok (.aload_n 1, 1) := by decide +kernel
theorem dX1_add_15 : decode cX1_add 15 = .ok (.getfield 38, 3) := by decide +kernel
theorem dX1_add_18 : decode cX1_add 18 = .ok (.aload_n 0, 1) := by decide +kernel
theorem dX1_add_19 : decode cX1_add 19 = .ok (.getfield 17, 3) := by decide +kernel
theorem dX1_add_22 : decode cX1_add 22 = .ok (.iastore, 1) := by decide +kernel
theorem dX1_add_23 : decode cX1_add 23 = .ok (.aload_n 0, 1) := by decide +kernel
theorem dX1_add_24 : decode cX1_add 24 = .ok (.dup, 1) := by decide +kernel
theorem dX1_add_25 : decode cX1_add 25 = .ok (.getfield 17, 3) := by decide +kernel
theorem dX1_add_28 : decode cX1_add 28 = .ok (.iconst 1, 1) := by decide +kernel
theorem dX1_add_29 : decode cX1_add 29 = .ok (.iadd, 1) := by decide +kernel
theorem dX1_add_30 : decode cX1_add 30 = .ok (.putfield 17, 3) := by decide +kernel
theorem dX1_add_33 : decode cX1_add 33 = .ok (.aload_n 0, 1) := by decide +kernel
theorem dX1_add_34 : decode cX1_add 34 = .ok (.getfield 17, 3) := by decide +kernel
theorem dX1_add_37 : decode cX1_add 37 = .ok (.iconst 1, 1) := by decide +kernel
theorem dX1_add_38 : decode cX1_add 38 = .ok (.isub, 1) := by decide +kernel
theorem dX1_add_39 : decode cX1_add 39 = .ok (.ireturn, 1) := by decide +kernel
theorem dX1_named_0 : decode cX1_named 0 = .ok (.iload_n 1, 1) := by decide +kernel
theorem dX1_named_1 : decode cX1_named 1 = .ok (.ifCond .lt 19, 3) := by decide +kernel
theorem dX1_named_4 : decode cX1_named 4 = .ok (.iload_n 1, 1) := by decide +kernel
theorem dX1_named_5 : decode cX1_named 5 = .ok (.sipush 192, 3) := by decide +kernel
theorem dX1_named_8 : decode cX1_named 8 = .ok (.if_icmp .ge 12, 3) := by decide +kernel
theorem dX1_named_11 : decode cX1_named 11 = .ok (.aload_n 0, 1) := by decide +kernel
theorem dX1_named_12 : decode cX1_named 12 = .ok (.getfield 21, 3) := by decide +kernel
theorem dX1_named_15 : decode cX1_named 15 = .ok (.iload_n 1, 1) := by decide +kernel
theorem dX1_named_16 : decode cX1_named 16 = .ok (.iaload, 1) := by decide +kernel
theorem dX1_named_17 : decode cX1_named 17 = .ok (.goto 4, 3) := by decide +kernel
theorem dX1_named_20 : decode cX1_named 20 = .ok (.iconst (-1), 1) := by decide +kernel
theorem dX1_named_21 : decode cX1_named 21 = .ok (.ireturn, 1) := by decide +kernel
theorem dX1_superclass_0 : decode cX1_superclass 0 = .ok (.aload_n 0, 1) := by decide +kernel
theorem dX1_superclass_1 : decode cX1_superclass 1 = .ok (.aload_n 0, 1) := by decide +kernel
theorem dX1_superclass_2 : decode cX1_superclass 2 = .ok (.getfield 11, 3) := by decide +kernel
theorem dX1_superclass_5 : decode cX1_superclass 5 = .ok (.iload_n 1, 1) := by decide +kernel
theorem dX1_superclass_6 : decode cX1_superclass 6 = .ok (.aaload, 1) := by decide +kernel
theorem dX1_superclass_7 : decode cX1_superclass 7 = .ok (.getfield 41, 3) := by decide +kernel
theorem dX1_superclass_10 : decode cX1_superclass 10 = .ok (.invokevirtual 44, 3) := by decide +kernel
theorem dX1_superclass_13 : decode cX1_superclass 13 = .ok (.ireturn, 1) := by decide +kernel
theorem dX1_containerOf_0 : decode cX1_containerOf 0 = .ok (.aload_n 0, 1) := by decide +kernel
theorem dX1_containerOf_1 : decode cX1_containerOf 1 = .ok (.iload_n 1, 1) := by decide +kernel
theorem dX1_containerOf_2 : decode cX1_containerOf 2 = .ok (.invokevirtual 44, 3) := by decide +kernel
theorem dX1_containerOf_5 : decode cX1_containerOf 5 = .ok (.istore_n 2, 1) := by decide +kernel
theorem dX1_containerOf_6 : decode cX1_containerOf 6 = .ok (.iload_n 2, 1) := by decide +kernel
theorem dX1_containerOf_7 : decode cX1_containerOf 7 = .ok (.iconst (-1), 1) := by decide +kernel
theorem dX1_containerOf_8 : decode cX1_containerOf 8 = .ok (.if_icmp .ne 7, 3) := by decide +kernel
theorem dX1_containerOf_11 : decode cX1_containerOf 11 = .ok (.iconst (-1), 1) := by decide +kernel
theorem dX1_containerOf_12 : decode cX1_containerOf 12 = .ok (.goto 12, 3) := by decide +kernel
theorem dX1_containerOf_15 : decode cX1_containerOf 15 = .ok (.aload_n 0, 1) := by decide +kernel
theorem dX1_containerOf_16 : decode cX1_containerOf 16 = .ok (.getfield 11, 3) := by decide +kernel
theorem dX1_containerOf_19 : decode cX1_containerOf 19 = .ok (.iload_n 2, 1) := by decide +kernel
theorem dX1_containerOf_20 : decode cX1_containerOf 20 = .ok (.aaload, 1) := by decide +kernel
theorem dX1_containerOf_21 : decode cX1_containerOf 21 = .ok (.getfield 48, 3) := by decide +kernel
theorem dX1_containerOf_24 : decode cX1_containerOf 24 = .ok (.ireturn, 1) := by decide +kernel
theorem dX1_chainSteps_0 : decode cX1_chainSteps 0 = .ok (.aload_n 0, 1) := by decide +kernel
theorem dX1_chainSteps_1 : decode cX1_chainSteps 1 = .ok (.iload_n 1, 1) := by decide +kernel
theorem dX1_chainSteps_2 : decode cX1_chainSteps 2 = .ok (.invokevirtual 44, 3) := by decide +kernel
theorem dX1_chainSteps_5 : decode cX1_chainSteps 5 = .ok (.istore_n 2, 1) := by decide +kernel
theorem dX1_chainSteps_6 : decode cX1_chainSteps 6 = .ok (.iload_n 2, 1) := by decide +kernel
theorem dX1_chainSteps_7 : decode cX1_chainSteps 7 = .ok (.iconst (-1), 1) := by decide +kernel
theorem dX1_chainSteps_8 : decode cX1_chainSteps 8 = .ok (.if_icmp .eq 21, 3) := by decide +kernel
theorem dX1_chainSteps_11 : decode cX1_chainSteps 11 = .ok (.aload_n 0, 1) := by decide +kernel
theorem dX1_chainSteps_12 : decode cX1_chainSteps 12 = .ok (.getfield 11, 3) := by decide +kernel
theorem dX1_chainSteps_15 : decode cX1_chainSteps 15 = .ok (.iload_n 2, 1) := by decide +kernel
theorem dX1_chainSteps_16 : decode cX1_chainSteps 16 = .ok (.aaload, 1) := by decide +kernel
theorem dX1_chainSteps_17 : decode cX1_chainSteps 17 = .ok (.getfield 51, 3) := by decide +kernel
theorem dX1_chainSteps_20 : decode cX1_chainSteps 20 = .ok (.iconst 2, 1) := by decide +kernel
theorem dX1_chainSteps_21 : decode cX1_chainSteps 21 = .ok (.iand, 1) := by decide +kernel
theorem dX1_chainSteps_22 : decode cX1_chainSteps 22 = .ok (.ifCond .eq 7, 3) := by decide +kernel
theorem dX1_chainSteps_25 : decode cX1_chainSteps 25 = .ok (.iconst 1, 1) := by decide +kernel
theorem dX1_chainSteps_26 : decode cX1_chainSteps 26 = .ok (.goto 4, 3) := by decide +kernel
theorem dX1_chainSteps_29 : decode cX1_chainSteps 29 = .ok (.iconst 0, 1) := by decide +kernel
theorem dX1_chainSteps_30 : decode cX1_chainSteps 30 = .ok (.istore_n 3, 1) := by decide +kernel
theorem dX1_chainSteps_31 : decode cX1_chainSteps 31 = .ok (.iload_n 3, 1) := by decide +kernel
theorem dX1_chainSteps_32 : decode cX1_chainSteps 32 = .ok (.ifCond .eq 10, 3) := by decide +kernel
theorem dX1_chainSteps_35 : decode cX1_chainSteps 35 = .ok (.aload_n 0, 1) := by decide +kernel
theorem dX1_chainSteps_36 : decode cX1_chainSteps 36 = .ok (.getfield 17, 3) := by decide +kernel
theorem dX1_chainSteps_39 : decode cX1_chainSteps 39 = .ok (.goto 4, 3) := by decide +kernel
theorem dX1_chainSteps_42 : decode cX1_chainSteps 42 = .ok (.iconst 1, 1) := by decide +kernel
theorem dX1_chainSteps_43 : decode cX1_chainSteps 43 = .ok (.ireturn, 1) := by decide +kernel
theorem dX1_leadsTo_0 : decode cX1_leadsTo 0 = .ok (.iconst 0, 1) := by decide +kernel
theorem dX1_leadsTo_1 : decode cX1_leadsTo 1 = .ok (.istore 4, 2) := by decide +kernel
theorem dX1_leadsTo_3 : decode cX1_leadsTo 3 = .ok (.iload 4, 2) := by decide +kernel
theorem dX1_leadsTo_5 : decode cX1_leadsTo 5 = .ok (.bipush 16, 2) := by decide +kernel
theorem dX1_leadsTo_7 : decode cX1_leadsTo 7 = .ok (.if_icmp .ge 27, 3) := by decide +kernel
theorem dX1_leadsTo_10 : decode cX1_leadsTo 10 = .ok (.aload_n 0, 1) := by decide +kernel
theorem dX1_leadsTo_11 : decode cX1_leadsTo 11 = .ok (.getfield 34, 3) := by decide +kernel
theorem dX1_leadsTo_14 : decode cX1_leadsTo 14 = .ok (.iload 4, 2) := by decide +kernel
theorem dX1_leadsTo_16 : decode cX1_leadsTo 16 = .ok (.iload 4, 2) := by decide +kernel
theorem dX1_leadsTo_18 : decode cX1_leadsTo 18 = .ok (.iload_n 1, 1) := by decide +kernel
theorem dX1_leadsTo_19 : decode cX1_leadsTo 19 = .ok (.if_icmp .ne 7, 3) := by decide +kernel
theorem dX1_leadsTo_22 : decode cX1_leadsTo 22 = .ok (.iconst 1, 1) := by decide +kernel
theorem dX1_leadsTo_23 : decode cX1_leadsTo 23 = .ok (.goto 4, 3) := by decide +kernel
theorem dX1_leadsTo_26 : decode cX1_leadsTo 26 = .ok (.iconst 0, 1) := by decide +kernel
theorem dX1_leadsTo_27 : decode cX1_leadsTo 27 = .ok (.bastore, 1) := by decide +kernel
theorem dX1_leadsTo_28 : decode cX1_leadsTo 28 = .ok (.iinc 4 1, 3) := by decide +kernel
theorem dX1_leadsTo_31 : decode cX1_leadsTo 31 = .ok (.goto (-28), 3) := by decide +kernel
theorem dX1_leadsTo_34 : decode cX1_leadsTo 34 = .ok (.aload_n 0, 1) := by decide +kernel
theorem dX1_leadsTo_35 : decode cX1_leadsTo 35 = .ok (.getfield 31, 3) := by decide +kernel
theorem dX1_leadsTo_38 : decode cX1_leadsTo 38 = .ok (.iconst 0, 1) := by decide +kernel
theorem dX1_leadsTo_39 : decode cX1_leadsTo 39 = .ok (.iload_n 1, 1) := by decide +kernel
theorem dX1_leadsTo_40 : decode cX1_leadsTo 40 = .ok (.iastore, 1) := by decide +kernel
theorem dX1_leadsTo_41 : decode cX1_leadsTo 41 = .ok (.iconst 1, 1) := by decide +kernel
theorem dX1_leadsTo_42 : decode cX1_leadsTo 42 = .ok (.istore 4, 2) := by decide +kernel
theorem dX1_leadsTo_44 : decode cX1_leadsTo 44 = .ok (.iconst 0, 1) := by decide +kernel
theorem dX1_leadsTo_45 : decode cX1_leadsTo 45 = .ok (.istore 5, 2) := by decide +kernel
theorem dX1_leadsTo_47 : decode cX1_leadsTo 47 = .ok (.iload 5, 2) := by decide +kernel
theorem dX1_leadsTo_49 : decode cX1_leadsTo 49 = .ok (.iload 4, 2) := by decide +kernel
theorem dX1_leadsTo_51 : decode cX1_leadsTo 51 = .ok (.if_icmp .ge 109, 3) := by decide +kernel
theorem dX1_leadsTo_54 : decode cX1_leadsTo 54 = .ok (.iload 5, 2) := by decide +kernel
theorem dX1_leadsTo_56 : decode cX1_leadsTo 56 = .ok (.bipush 16, 2) := by decide +kernel
theorem dX1_leadsTo_58 : decode cX1_leadsTo 58 = .ok (.if_icmp .ge 102, 3) := by decide +kernel
theorem dX1_leadsTo_61 : decode cX1_leadsTo 61 = .ok (.aload_n 0, 1) := by decide +kernel
theorem dX1_leadsTo_62 : decode cX1_leadsTo 62 = .ok (.getfield 11, 3) := by decide +kernel
theorem dX1_leadsTo_65 : decode cX1_leadsTo 65 = .ok (.aload_n 0, 1) := by decide +kernel
theorem dX1_leadsTo_66 : decode cX1_leadsTo 66 = .ok (.getfield 31, 3) := by decide +kernel
theorem dX1_leadsTo_69 : decode cX1_leadsTo 69 = .ok (.iload 5, 2) := by decide +kernel
theorem dX1_leadsTo_71 : decode cX1_leadsTo 71 = .ok (.iaload, 1) := by decide +kernel
theorem dX1_leadsTo_72 : decode cX1_leadsTo 72 = .ok (.aaload, 1) := by decide +kernel
theorem dX1_leadsTo_73 : decode cX1_leadsTo 73 = .ok (.iload_n 3, 1) := by decide +kernel
theorem dX1_leadsTo_74 : decode cX1_leadsTo 74 = .ok (.invokevirtual 54, 3) := by decide +kernel
theorem dX1_leadsTo_77 : decode cX1_leadsTo 77 = .ok (.astore 6, 2) := by decide +kernel
theorem dX1_leadsTo_79 : decode cX1_leadsTo 79 = .ok (.iconst 0, 1) := by decide +kernel
theorem dX1_leadsTo_80 : decode cX1_leadsTo 80 = .ok (.istore 7, 2) := by decide +kernel
theorem dX1_leadsTo_82 : decode cX1_leadsTo 82 = .ok (.iload 7, 2) := by decide +kernel
theorem dX1_leadsTo_84 : decode cX1_leadsTo 84 = .ok (.aload 6, 2) := by decide +kernel
theorem dX1_leadsTo_86 : decode cX1_leadsTo 86 = .ok (.arraylength, 1) := by decide +kernel
theorem dX1_leadsTo_87 : decode cX1_leadsTo 87 = .ok (.if_icmp .ge 67, 3) := by decide +kernel
theorem dX1_leadsTo_90 : decode cX1_leadsTo 90 = .ok (.aload 6, 2) := by decide +kernel
theorem dX1_leadsTo_92 : decode cX1_leadsTo 92 = .ok (.iload 7, 2) := by decide +kernel
theorem dX1_leadsTo_94 : decode cX1_leadsTo 94 = .ok (.iaload, 1) := by decide +kernel
theorem dX1_leadsTo_95 : decode cX1_leadsTo 95 = .ok (.iload_n 2, 1) := by decide +kernel
theorem dX1_leadsTo_96 : decode cX1_leadsTo 96 = .ok (.if_icmp .ne 5, 3) := by decide +kernel
theorem dX1_leadsTo_99 : decode cX1_leadsTo 99 = .ok (.iconst 1, 1) := by decide +kernel
theorem dX1_leadsTo_100 : decode cX1_leadsTo 100 = .ok (.ireturn, 1) := by decide +kernel
theorem dX1_leadsTo_101 : decode cX1_leadsTo 101 = .ok (.aload_n 0, 1) := by decide +kernel
theorem dX1_leadsTo_102 : decode cX1_leadsTo 102 = .ok (.aload 6, 2) := by decide +kernel
theorem dX1_leadsTo_104 : decode cX1_leadsTo 104 = .ok (.iload 7, 2) := by decide +kernel
theorem dX1_leadsTo_106 : decode cX1_leadsTo 106 = .ok (.iaload, 1) := by decide +kernel
theorem dX1_leadsTo_107 : decode cX1_leadsTo 107 = .ok (.invokevirtual 44, 3) := by decide +kernel
theorem dX1_leadsTo_110 : decode cX1_leadsTo 110 = .ok (.istore 8, 2) := by decide +kernel
theorem dX1_leadsTo_112 : decode cX1_leadsTo 112 = .ok (.iload 8, 2) := by decide +kernel
theorem dX1_leadsTo_114 : decode cX1_leadsTo 114 = .ok (.iconst (-1), 1) := by decide +kernel
theorem dX1_leadsTo_115 : decode cX1_leadsTo 115 = .ok (.if_icmp .eq 33, 3) := by decide +kernel
theorem dX1_leadsTo_118 : decode cX1_leadsTo 118 = .ok (.aload_n 0, 1) := by decide +kernel
theorem dX1_leadsTo_119 : decode cX1_leadsTo 119 = .ok (.getfield 34, 3) := by decide +kernel
theorem dX1_leadsTo_122 : decode cX1_leadsTo 122 = .ok (.iload 8, 2) := by decide +kernel
theorem dX1_leadsTo_124 : decode cX1_leadsTo 124 = .ok (.baload, 1) := by decide +kernel
theorem dX1_leadsTo_125 : decode cX1_leadsTo 125 = .ok (.ifCond .ne 23, 3) := by decide +kernel
theorem dX1_leadsTo_128 : decode cX1_leadsTo 128 = .ok (.aload_n 0, 1) := by decide +kernel
theorem dX1_leadsTo_129 : decode cX1_leadsTo 129 = .ok (.getfield 34, 3) := by decide +kernel
theorem dX1_leadsTo_132 : decode cX1_leadsTo 132 = .ok (.iload 8, 2) := by decide +kernel
theorem dX1_leadsTo_134 : decode cX1_leadsTo 134 = .ok (.iconst 1, 1) := by decide +kernel
theorem dX1_leadsTo_135 : decode cX1_leadsTo 135 = .ok (.bastore, 1) := by decide +kernel
theorem dX1_leadsTo_136 : decode cX1_leadsTo 136 = .ok (.aload_n 0, 1) := by decide +kernel
theorem dX1_leadsTo_137 : decode cX1_leadsTo 137 = .ok (.getfield 31, 3) := by decide +kernel
theorem dX1_leadsTo_140 : decode cX1_leadsTo 140 = .ok (.iload 4, 2) := by decide +kernel
theorem dX1_leadsTo_142 : decode cX1_leadsTo 142 = .ok (.iload 8, 2) := by decide +kernel
theorem dX1_leadsTo_144 : decode cX1_leadsTo 144 = .ok (.iastore, 1) := by decide +kernel
theorem dX1_leadsTo_145 : decode cX1_leadsTo 145 = .ok (.iinc 4 1, 3) := by decide +kernel
theorem dX1_leadsTo_148 : decode cX1_leadsTo 148 = .ok (.iinc 7 1, 3) := by decide +kernel
theorem dX1_leadsTo_151 : decode cX1_leadsTo 151 = .ok (.goto (-69), 3) := by decide +kernel
theorem dX1_leadsTo_154 : decode cX1_leadsTo 154 = .ok (.iinc 5 1, 3) := by decide +kernel
theorem dX1_leadsTo_157 : decode cX1_leadsTo 157 = .ok (.goto (-110), 3) := by decide +kernel
theorem dX1_leadsTo_160 : decode cX1_leadsTo 160 = .ok (.iconst 0, 1) := by decide +kernel
theorem dX1_leadsTo_161 : decode cX1_leadsTo 161 = .ok (.ireturn, 1) := by decide +kernel
theorem dX2_init_0 : decode cX2_init 0 = .ok (.aload_n 0, 1) := by decide +kernel
theorem dX2_init_1 : decode cX2_init 1 = .ok (.invokespecial 1, 3) := by decide +kernel
theorem dX2_init_4 : decode cX2_init 4 = .ok (.aload_n 0, 1) := by decide +kernel
theorem dX2_init_5 : decode cX2_init 5 = .ok (.iload_n 1, 1) := by decide +kernel
theorem dX2_init_6 : decode cX2_init 6 = .ok (.newarray .int, 2) := by decide +kernel
theorem dX2_init_8 : decode cX2_init 8 = .ok (.putfield 7, 3) := by decide +kernel
theorem dX2_init_11 : decode cX2_init 11 = .ok (.aload_n 0, 1) := by decide +kernel
theorem dX2_init_12 : decode cX2_init 12 = .ok (.iload_n 1, 1) := by decide +kernel
theorem dX2_init_13 : decode cX2_init 13 = .ok (.anewarray 13, 3) := by decide +kernel
theorem dX2_init_16 : decode cX2_init 16 = .ok (.putfield 15, 3) := by decide +kernel
theorem dX2_init_19 : decode cX2_init 19 = .ok (.return_, 1) := by decide +kernel
theorem dX2_firstNamed_0 : decode cX2_firstNamed 0 = .ok (.iconst 0, 1) := by decide +kernel
theorem dX2_firstNamed_1 : decode cX2_firstNamed 1 = .ok (.istore_n 2, 1) := by decide +kernel
theorem dX2_firstNamed_2 : decode cX2_firstNamed 2 = .ok (.iload_n 2, 1) := by decide +kernel
theorem dX2_firstNamed_3 : decode cX2_firstNamed 3 = .ok (.aload_n 0, 1) := by decide +kernel
theorem dX2_firstNamed_4 : decode cX2_firstNamed 4 = .ok (.getfield 7, 3) := by decide +kernel
theorem dX2_firstNamed_7 : decode cX2_firstNamed 7 = .ok (.arraylength, 1) := by decide +kernel
theorem dX2_firstNamed_8 : decode cX2_firstNamed 8 = .ok (.if_icmp .ge 26, 3) := by decide +kernel
theorem dX2_firstNamed_11 : decode cX2_firstNamed 11 = .ok (.aload_n 0, 1) := by decide +kernel
theorem dX2_firstNamed_12 : decode cX2_firstNamed 12 = .ok (.getfield 7, 3) := by decide +kernel
theorem dX2_firstNamed_15 : decode cX2_firstNamed 15 = .ok (.iload_n 2, 1) := by decide +kernel
theorem dX2_firstNamed_16 : decode cX2_firstNamed 16 = .ok (.iaload, 1) := by decide +kernel
theorem dX2_firstNamed_17 : decode cX2_firstNamed 17 = .ok (.iload_n 1, 1) := by decide +kernel
theorem dX2_firstNamed_18 : decode cX2_firstNamed 18 = .ok (.if_icmp .ne 10, 3) := by decide +kernel
theorem dX2_firstNamed_21 : decode cX2_firstNamed 21 = .ok (.aload_n 0, 1) := by decide +kernel
theorem dX2_firstNamed_22 : decode cX2_firstNamed 22 = .ok (.getfield 15, 3) := by decide +kernel
theorem dX2_firstNamed_25 : decode cX2_firstNamed 25 = .ok (.iload_n 2, 1) := by decide +kernel
theorem dX2_firstNamed_26 : decode cX2_firstNamed 26 = .ok (.aaload, 1) := by decide +kernel
theorem dX2_firstNamed_27 : decode cX2_firstNamed 27 = .ok (.areturn, 1) := by decide +kernel
theorem dX2_firstNamed_28 : decode cX2_firstNamed 28 = .ok (.iinc 2 1, 3) := by decide +kernel
theorem dX2_firstNamed_31 : decode cX2_firstNamed 31 = .ok (.goto (-29), 3) := by decide +kernel
theorem dX2_firstNamed_34 : decode cX2_firstNamed 34 = .ok (.aconst_null, 1) := by decide +kernel
theorem dX2_firstNamed_35 : decode cX2_firstNamed 35 = .ok (.areturn, 1) := by decide +kernel
theorem dX2_nth_0 : decode cX2_nth 0 = .ok (.iload_n 1, 1) := by decide +kernel
theorem dX2_nth_1 : decode cX2_nth 1 = .ok (.iconst 1, 1) := by decide +kernel
theorem dX2_nth_2 : decode cX2_nth 2 = .ok (.if_icmp .lt 23, 3) := by decide +kernel
theorem dX2_nth_5 : decode cX2_nth 5 = .ok (.iload_n 1, 1) := by decide +kernel
theorem dX2_nth_6 : decode cX2_nth 6 = .ok (.aload_n 0, 1) := by decide +kernel
theorem dX2_nth_7 : decode cX2_nth 7 = .ok (.getfield 15, 3) := by decide +kernel
theorem dX2_nth_10 : decode cX2_nth 10 = .ok (.arraylength, 1) := by decide +kernel
theorem dX2_nth_11 : decode cX2_nth 11 = .ok (.if_icmp .gt 14, 3) := by decide +kernel
theorem dX2_nth_14 : decode cX2_nth 14 = .ok (.aload_n 0, 1) := by decide +kernel
theorem dX2_nth_15 : decode cX2_nth 15 = .ok (.getfield 15, 3) := by decide +kernel
theorem dX2_nth_18 : decode cX2_nth 18 = .ok (.iload_n 1, 1) := by decide +kernel
theorem dX2_nth_19 : decode cX2_nth 19 = .ok (.iconst 1, 1) := by decide +kernel
theorem dX2_nth_20 : decode cX2_nth 20 = .ok (.isub, 1) := by decide +kernel
theorem dX2_nth_21 : decode cX2_nth 21 = .ok (.aaload, 1) := by decide +kernel
theorem dX2_nth_22 : decode cX2_nth 22 = .ok (.goto 4, 3) := by decide +kernel
theorem dX2_nth_25 : decode cX2_nth 25 = .ok (.aconst_null, 1) := by decide +kernel
theorem dX2_nth_26 : decode cX2_nth 26 = .ok (.areturn, 1) := by decide +kernel
theorem dX3_init_0 : decode cX3_init 0 = .ok (.aload_n 0, 1) := by decide +kernel
theorem dX3_init_1 : decode cX3_init 1 = .ok (.invokespecial 3, 3) := by decide +kernel
theorem dX3_init_4 : decode cX3_init 4 = .ok (.aload_n 0, 1) := by decide +kernel
theorem dX3_init_5 : decode cX3_init 5 = .ok (.bipush 13, 2) := by decide +kernel
theorem dX3_init_7 : decode cX3_init 7 = .ok (.newarray .int, 2) := by decide +kernel
theorem dX3_init_9 : decode cX3_init 9 = .ok (.putfield 9, 3) := by decide +kernel
theorem dX3_init_12 : decode cX3_init 12 = .ok (.aload_n 0, 1) := by decide +kernel
theorem dX3_init_13 : decode cX3_init 13 = .ok (.bipush 13, 2) := by decide +kernel
theorem dX3_init_15 : decode cX3_init 15 = .ok (.newarray .int, 2) := by decide +kernel
theorem dX3_init_17 : decode cX3_init 17 = .ok (.putfield 15, 3) := by decide +kernel
theorem dX3_init_20 : decode cX3_init 20 = .ok (.aload_n 0, 1) := by decide +kernel
theorem dX3_init_21 : decode cX3_init 21 = .ok (.bipush 13, 2) := by decide +kernel
theorem dX3_init_23 : decode cX3_init 23 = .ok (.newarray .int, 2) := by decide +kernel
theorem dX3_init_25 : decode cX3_init 25 = .ok (.putfield 18, 3) := by decide +kernel
theorem dX3_init_28 : decode cX3_init 28 = .ok (.aload_n 0, 1) := by decide +kernel
theorem dX3_init_29 : decode cX3_init 29 = .ok (.new 21, 3) := by decide +kernel
theorem dX3_init_32 : decode cX3_init 32 = .ok (.dup, 1) := by decide +kernel
theorem dX3_init_33 : decode cX3_init 33 = .ok (.iconst 0, 1) := by decide +kernel
theorem dX3_init_34 : decode cX3_init 34 = .ok (.invokespecial 23, 3) := by decide +kernel
theorem dX3_init_37 : decode cX3_init 37 = .ok (.putfield 26, 3) := by decide +kernel
theorem dX3_init_40 : decode cX3_init 40 = .ok (.return_, 1) := by decide +kernel
theorem dX3_readFile_0 : decode cX3_readFile 0 = .ok (.aload_n 0, 1) := by decide +kernel
theorem dX3_readFile_1 : decode cX3_readFile 1 = .ok (.aload_n 1, 1) := by decide +kernel
theorem dX3_readFile_2 : decode cX3_readFile 2 = .ok (.putfield 30, 3) := by decide +kernel
theorem dX3_readFile_5 : decode cX3_readFile 5 = .ok (.aload_n 0, 1) := by decide +kernel
theorem dX3_readFile_6 : decode cX3_readFile 6 = .ok (.iload_n 2, 1) := by decide +kernel
theorem dX3_readFile_7 : decode cX3_readFile 7 = .ok (.putfield 33, 3) := by decide +kernel
theorem dX3_readFile_10 : decode cX3_readFile 10 = .ok (.aload_n 0, 1) := by decide +kernel
theorem dX3_readFile_11 : decode cX3_readFile 11 = .ok (.aload_n 3, 1) := by decide +kernel
theorem dX3_readFile_12 : decode cX3_readFile 12 = .ok (.putfield 37, 3) := by decide +kernel
theorem dX3_readFile_15 : decode cX3_readFile 15 = .ok (.aload_n 0, 1) := by decide +kernel
theorem dX3_readFile_16 : decode cX3_readFile 16 = .ok (.aload 4, 2) := by decide +kernel
theorem dX3_readFile_18 : decode cX3_readFile 18 = .ok (.putfield 41, 3) := by decide +kernel
theorem dX3_readFile_21 : decode cX3_readFile 21 = .ok (.aload_n 0, 1) := by decide +kernel
theorem dX3_readFile_22 : decode cX3_readFile 22 = .ok (.iconst 0, 1) := by decide +kernel
theorem dX3_readFile_23 : decode cX3_readFile 23 = .ok (.putfield 45, 3) := by decide +kernel
theorem dX3_readFile_26 : decode cX3_readFile 26 = .ok (.aload_n 0, 1) := by decide +kernel
theorem dX3_readFile_27 : decode cX3_readFile 27 = .ok (.iconst 0, 1) := by decide +kernel
theorem dX3_readFile_28 : decode cX3_readFile 28 = .ok (.putfield 48, 3) := by decide +kernel
theorem dX3_readFile_31 : decode cX3_readFile 31 = .ok (.aload_n 0, 1) := by decide +kernel
theorem dX3_readFile_32 : decode cX3_readFile 32 = .ok (.sipush 202, 3) := by decide +kernel
theorem dX3_readFile_35 : decode cX3_readFile 35 = .ok (.invokevirtual 51, 3) := by decide +kernel
theorem dX3_readFile_38 : decode cX3_readFile 38 = .ok (.aload_n 0, 1) := by decide +kernel
theorem dX3_readFile_39 : decode cX3_readFile 39 = .ok (.sipush 254, 3) := by decide +kernel
theorem dX3_readFile_42 : decode cX3_readFile 42 = .ok (.invokevirtual 51, 3) := by decide +kernel
theorem dX3_readFile_45 : decode cX3_readFile 45 = .ok (.aload_n 0, 1) := by decide +kernel
theorem dX3_readFile_46 : decode cX3_readFile 46 = .ok (.invokevirtual 54, 3) := by decide +kernel
theorem dX3_readFile_49 : decode cX3_readFile 49 = .ok (.aload_n 0, 1) := by decide +kernel
theorem dX3_readFile_50 : decode cX3_readFile 50 = .ok (.invokevirtual 57, 3) := by decide +kernel
theorem dX3_readFile_53 : decode cX3_readFile 53 = .ok (.aload_n 0, 1) := by decide +kernel
theorem dX3_readFile_54 : decode cX3_readFile 54 = .ok (.iconst 3, 1) := by decide +kernel
theorem dX3_readFile_55 : decode cX3_readFile 55 = .ok (.invokevirtual 60, 3) := by decide +kernel
theorem dX3_readFile_58 : decode cX3_readFile 58 = .ok (.istore 5, 2) := by decide +kernel
theorem dX3_readFile_60 : decode cX3_readFile 60 = .ok (.aload_n 0, 1) := by decide +kernel
theorem dX3_readFile_61 : decode cX3_readFile 61 = .ok (.invokevirtual 64, 3) := by decide +kernel
theorem dX3_readFile_64 : decode cX3_readFile 64 = .ok (.istore 6, 2) := by decide +kernel
theorem dX3_readFile_66 : decode cX3_readFile 66 = .ok (.aload_n 0, 1) := by decide +kernel
theorem dX3_readFile_67 : decode cX3_readFile 67 = .ok (.invokevirtual 68, 3) := by decide +kernel
theorem dX3_readFile_70 : decode cX3_readFile 70 = .ok (.istore 7, 2) := by decide +kernel
theorem dX3_readFile_72 : decode cX3_readFile 72 = .ok (.aload_n 0, 1) := by decide +kernel
theorem dX3_readFile_73 : decode cX3_readFile 73 = .ok (.invokevirtual 68, 3) := by decide +kernel
theorem dX3_readFile_76 : decode cX3_readFile 76 = .ok (.istore 8, 2) := by decide +kernel
theorem dX3_readFile_78 : decode cX3_readFile 78 = .ok (.aload_n 0, 1) := by decide +kernel
theorem dX3_readFile_79 : decode cX3_readFile 79 = .ok (.invokevirtual 71, 3) := by decide +kernel
theorem dX3_readFile_82 : decode cX3_readFile 82 = .ok (.astore 9, 2) := by decide +kernel
theorem dX3_readFile_84 : decode cX3_readFile 84 = .ok (.aload_n 0, 1) := by decide +kernel
theorem dX3_readFile_85 : decode cX3_readFile 85 = .ok (.invokevirtual 75, 3) := by decide +kernel
theorem dX3_readFile_88 : decode cX3_readFile 88 = .ok (.astore 10, 2) := by decide +kernel
theorem dX3_readFile_90 : decode cX3_readFile 90 = .ok (.aload_n 0, 1) := by decide +kernel
theorem dX3_readFile_91 : decode cX3_readFile 91 = .ok (.iconst 1, 1) := by decide +kernel
theorem dX3_readFile_92 : decode cX3_readFile 92 = .ok (.iconst 1, 1) := by decide +kernel
theorem dX3_readFile_93 : decode cX3_readFile 93 = .ok (.invokevirtual 79, 3) := by decide +kernel
theorem dX3_readFile_96 : decode cX3_readFile 96 = .ok (.astore 11, 2) := by decide +kernel
theorem dX3_readFile_98 : decode cX3_readFile 98 = .ok (.aload_n 0, 1) := by decide +kernel
theorem dX3_readFile_99 : decode cX3_readFile 99 = .ok (.getfield 45, 3) := by decide +kernel
theorem dX3_readFile_102 : decode cX3_readFile 102 = .ok (.iload_n 2, 1) := by decide +kernel
theorem dX3_readFile_103 : decode cX3_readFile 103 = .ok (.if_icmp .ge 13, 3) := by decide +kernel
theorem dX3_readFile_106 : decode cX3_readFile 106 = .ok (.aload_n 0, 1) := by decide +kernel
theorem dX3_readFile_107 : decode cX3_readFile 107 = .ok (.bipush 8, 2) := by decide +kernel
theorem dX3_readFile_109 : decode cX3_readFile 109 = .ok (.aload_n 0, 1) := by decide +kernel
theorem dX3_readFile_110 : decode cX3_readFile 110 = .ok (.getfield 45, 3) := by decide +kernel
theorem dX3_readFile_113 : decode cX3_readFile 113 = .ok (.invokevirtual 83, 3) := by decide +kernel
theorem dX3_readFile_116 : decode cX3_readFile 116 = .ok (.aload_n 0, 1) := by decide +kernel
theorem dX3_readFile_117 : decode cX3_readFile 117 = .ok (.getfield 48, 3) := by decide +kernel
theorem dX3_readFile_120 : decode cX3_readFile 120 = .ok (.ifCond .eq 5, 3) := by decide +kernel
theorem dX3_readFile_123 : decode cX3_readFile 123 = .ok (.aconst_null, 1) := by decide +kernel
theorem dX3_readFile_124 : decode cX3_readFile 124 = .ok (.areturn, 1) := by decide +kernel
theorem dX3_readFile_125 : decode cX3_readFile 125 = .ok (.new 87, 3) := by decide +kernel
theorem dX3_readFile_128 : decode cX3_readFile 128 = .ok (.dup, 1) := by decide +kernel
theorem dX3_readFile_129 : decode cX3_readFile 129 = .ok (.iload 6, 2) := by decide +kernel
theorem dX3_readFile_131 : decode cX3_readFile 131 = .ok (.iload 5, 2) := by decide +kernel
theorem dX3_readFile_133 : decode cX3_readFile 133 = .ok (.iload 7, 2) := by decide +kernel
theorem dX3_readFile_135 : decode cX3_readFile 135 = .ok (.iload 8, 2) := by decide +kernel
theorem dX3_readFile_137 : decode cX3_readFile 137 = .ok (.aload 9, 2) := by decide +kernel
theorem dX3_readFile_139 : decode cX3_readFile 139 = .ok (.aload 10, 2) := by decide +kernel
theorem dX3_readFile_141 : decode cX3_readFile 141 = .ok (.aload 11, 2) := by decide +kernel
theorem dX3_readFile_143 : decode cX3_readFile 143 = .ok (.invokespecial 89, 3) := by decide +kernel
theorem dX3_readFile_146 : decode cX3_readFile 146 = .ok (.areturn, 1) := by decide +kernel
theorem dX3_refuse_0 : decode cX3_refuse 0 = .ok (.aload_n 0, 1) := by decide +kernel
theorem dX3_refuse_1 : decode cX3_refuse 1 = .ok (.getfield 48, 3) := by decide +kernel
theorem dX3_refuse_4 : decode cX3_refuse 4 = .ok (.ifCond .ne 14, 3) := by decide +kernel
theorem dX3_refuse_7 : decode cX3_refuse 7 = .ok (.aload_n 0, 1) := by decide +kernel
theorem dX3_refuse_8 : decode cX3_refuse 8 = .ok (.sipush 1000, 3) := by decide +kernel
theorem dX3_refuse_11 : decode cX3_refuse 11 = .ok (.iload_n 1, 1) := by decide +kernel
theorem dX3_refuse_12 : decode cX3_refuse 12 = .ok (.imul, 1) := by decide +kernel
theorem dX3_refuse_13 : decode cX3_refuse 13 = .ok (.iload_n 2, 1) := by decide +kernel
theorem dX3_refuse_14 : decode cX3_refuse 14 = .ok (.iadd, 1) := by decide +kernel
theorem dX3_refuse_15 : decode cX3_refuse 15 = .ok (.putfield 48, 3) := by decide +kernel
theorem dX3_refuse_18 : decode cX3_refuse 18 = .ok (.return_, 1) := by decide +kernel
theorem dX3_next_0 : decode cX3_next 0 = .ok (.aload_n 0, 1) := by decide +kernel
theorem dX3_next_1 : decode cX3_next 1 = .ok (.getfield 48, 3) := by decide +kernel
theorem dX3_next_4 : decode cX3_next 4 = .ok (.ifCond .eq 5, 3) := by decide +kernel
theorem dX3_next_7 : decode cX3_next 7 = .ok (.iconst 0, 1) := by decide +kernel
theorem dX3_next_8 : decode cX3_next 8 = .ok (.ireturn, 1) := by decide +kernel
theorem dX3_next_9 : decode cX3_next 9 = .ok (.aload_n 0, 1) := by decide +kernel
theorem dX3_next_10 : decode cX3_next 10 = .ok (.getfield 45, 3) := by decide +kernel
theorem dX3_next_13 : decode cX3_next 13 = .ok (.aload_n 0, 1) := by decide +kernel
theorem dX3_next_14 : decode cX3_next 14 = .ok (.getfield 33, 3) := by decide +kernel
theorem dX3_next_17 : decode cX3_next 17 = .ok (.if_icmp .lt 17, 3) := by decide +kernel
theorem dX3_next_20 : decode cX3_next 20 = .ok (.aload_n 0, 1) := by decide +kernel
theorem dX3_next_21 : decode cX3_next 21 = .ok (.sipush 1000, 3) := by decide +kernel
theorem dX3_next_24 : decode cX3_next 24 = .ok (.aload_n 0, 1) := by decide +kernel
theorem dX3_next_25 : decode cX3_next 25 = .ok (.getfield 33, 3) := by decide +kernel
theorem dX3_next_28 : decode cX3_next 28 = .ok (.iadd, 1) := by decide +kernel
theorem dX3_next_29 : decode cX3_next 29 = .ok (.putfield 48, 3) := by decide +kernel
theorem dX3_next_32 : decode cX3_next 32 = .ok (.iconst 0, 1) := by decide +kernel
theorem dX3_next_33 : decode cX3_next 33 = .ok (.ireturn, 1) := by decide +kernel
theorem dX3_next_34 : decode cX3_next 34 = .ok (.aload_n 0, 1) := by decide +kernel
theorem dX3_next_35 : decode cX3_next 35 = .ok (.dup, 1) := by decide +kernel
theorem dX3_next_36 : decode cX3_next 36 = .ok (.getfield 45, 3) := by decide +kernel
theorem dX3_next_39 : decode cX3_next 39 = .ok (.iconst 1, 1) := by decide +kernel
theorem dX3_next_40 : decode cX3_next 40 = .ok (.iadd, 1) := by decide +kernel
theorem dX3_next_41 : decode cX3_next 41 = .ok (.putfield 45, 3) := by decide +kernel
theorem dX3_next_44 : decode cX3_next 44 = .ok (.aload_n 0, 1) := by decide +kernel
theorem dX3_next_45 : decode cX3_next 45 = .ok (.getfield 30, 3) := by decide +kernel
theorem dX3_next_48 : decode cX3_next 48 = .ok (.aload_n 0, 1) := by decide +kernel
theorem dX3_next_49 : decode cX3_next 49 = .ok (.getfield 45, 3) := by decide +kernel
theorem dX3_next_52 : decode cX3_next 52 = .ok (.iconst 1, 1) := by decide +kernel
theorem dX3_next_53 : decode cX3_next 53 = .ok (.isub, 1) := by decide +kernel
theorem dX3_next_54 : decode cX3_next 54 = .ok (.iaload, 1) := by decide +kernel
theorem dX3_next_55 : decode cX3_next 55 = .ok (.ireturn, 1) := by decide +kernel
theorem dX3_readAtMost_0 : decode cX3_readAtMost 0 = .ok (.aload_n 0, 1) := by decide +kernel
theorem dX3_readAtMost_1 : decode cX3_readAtMost 1 = .ok (.getfield 45, 3) := by decide +kernel
theorem dX3_readAtMost_4 : decode cX3_readAtMost 4 = .ok (.istore_n 2, 1) := by decide +kernel
theorem dX3_readAtMost_5 : decode cX3_readAtMost 5 = .ok (.aload_n 0, 1) := by decide +kernel
theorem dX3_readAtMost_6 : decode cX3_readAtMost 6 = .ok (.invokevirtual 92, 3) := by decide +kernel
theorem dX3_readAtMost_9 : decode cX3_readAtMost 9 = .ok (.istore_n 3, 1) := by decide +kernel
theorem dX3_readAtMost_10 : decode cX3_readAtMost 10 = .ok (.iload_n 3, 1) := by decide +kernel
theorem dX3_readAtMost_11 : decode cX3_readAtMost 11 = .ok (.iload_n 1, 1) := by decide +kernel
theorem dX3_readAtMost_12 : decode cX3_readAtMost 12 = .ok (.if_icmp .le 11, 3) := by decide +kernel
theorem dX3_readAtMost_15 : decode cX3_readAtMost 15 = .ok (.aload_n 0, 1) := by decide +kernel
theorem dX3_readAtMost_16 : decode cX3_readAtMost 16 = .ok (.iconst 4, 1) := by decide +kernel
theorem dX3_readAtMost_17 : decode cX3_readAtMost 17 = .ok (.iload_n 2, 1) := by decide +kernel
theorem dX3_readAtMost_18 : decode cX3_readAtMost 18 = .ok (.invokevirtual 83, 3) := by decide +kernel
theorem dX3_readAtMost_21 : decode cX3_readAtMost 21 = .ok (.iconst 0, 1) := by decide +kernel
theorem dX3_readAtMost_22 : decode cX3_readAtMost 22 = .ok (.ireturn, 1) := by decide +kernel
theorem dX3_readAtMost_23 : decode cX3_readAtMost 23 = .ok (.iload_n 3, 1) := by decide +kernel
theorem dX3_readAtMost_24 : decode cX3_readAtMost 24 = .ok (.ireturn, 1) := by decide +kernel
theorem dX3_readStart_0 : decode cX3_readStart 0 = .ok (.aload_n 0, 1) := by decide +kernel
theorem dX3_readStart_1 : decode cX3_readStart 1 = .ok (.getfield 45, 3) := by decide +kernel
theorem dX3_readStart_4 : decode cX3_readStart 4 = .ok (.istore_n 2, 1) := by decide +kernel
theorem dX3_readStart_5 : decode cX3_readStart 5 = .ok (.aload_n 0, 1) := by decide +kernel
theorem dX3_readStart_6 : decode cX3_readStart 6 = .ok (.invokevirtual 92, 3) := by decide +kernel
theorem dX3_readStart_9 : decode cX3_readStart 9 = .ok (.iload_n 1, 1) := by decide +kernel
theorem dX3_readStart_10 : decode cX3_readStart 10 = .ok (.if_icmp .eq 9, 3) := by decide +kernel
theorem dX3_readStart_13 : decode cX3_readStart 13 = .ok (.aload_n 0, 1) := by decide +kernel
theorem dX3_readStart_14 : decode cX3_readStart 14 = .ok (.iconst 2, 1) := by decide +kernel
theorem dX3_readStart_15 : decode cX3_readStart 15 = .ok (.iload_n 2, 1) := by decide +kernel
theorem dX3_readStart_16 : decode cX3_readStart 16 = .ok (.invokevirtual 83, 3) := by decide +kernel
theorem dX3_readStart_19 : decode cX3_readStart 19 = .ok (.return_, 1) := by decide +kernel
