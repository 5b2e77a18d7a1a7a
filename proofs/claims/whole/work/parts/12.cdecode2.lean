theorem dX5_answer_0 : decode cX5_answer 0 = .ok (.aload_n 0, 1) := by decide +kernel
theorem dX5_answer_1 : decode cX5_answer 1 = .ok (.getfield 9, 3) := by decide +kernel
theorem dX5_answer_4 : decode cX5_answer 4 = .ok (.i2l, 1) := by decide +kernel
theorem dX5_answer_5 : decode cX5_answer 5 = .ok (.bipush 32, 2) := by decide +kernel
theorem dX5_answer_7 : decode cX5_answer 7 = .ok (.lshl, 1) := by decide +kernel
theorem dX5_answer_8 : decode cX5_answer 8 = .ok (.aload_n 0, 1) := by decide +kernel
theorem dX5_answer_9 : decode cX5_answer 9 = .ok (.getfield 15, 3) := by decide +kernel
theorem dX5_answer_12 : decode cX5_answer 12 = .ok (.i2l, 1) := by decide +kernel
theorem dX5_answer_13 : decode cX5_answer 13 = .ok (.ldc2_w 22, 3) := by decide +kernel
theorem dX5_answer_16 : decode cX5_answer 16 = .ok (.land, 1) := by decide +kernel
theorem dX5_answer_17 : decode cX5_answer 17 = .ok (.ladd, 1) := by decide +kernel
theorem dX5_answer_18 : decode cX5_answer 18 = .ok (.lreturn, 1) := by decide +kernel
theorem dX5_isAnnotationOf_0 : decode cX5_isAnnotationOf 0 = .ok (.aload_n 0, 1) := by decide +kernel
theorem dX5_isAnnotationOf_1 : decode cX5_isAnnotationOf 1 = .ok (.getfield 9, 3) := by decide +kernel
theorem dX5_isAnnotationOf_4 : decode cX5_isAnnotationOf 4 = .ok (.iconst 5, 1) := by decide +kernel
theorem dX5_isAnnotationOf_5 : decode cX5_isAnnotationOf 5 = .ok (.if_icmp .ne 15, 3) := by decide +kernel
theorem dX5_isAnnotationOf_8 : decode cX5_isAnnotationOf 8 = .ok (.aload_n 0, 1) := by decide +kernel
theorem dX5_isAnnotationOf_9 : decode cX5_isAnnotationOf 9 = .ok (.getfield 15, 3) := by decide +kernel
theorem dX5_isAnnotationOf_12 : decode cX5_isAnnotationOf 12 = .ok (.iload_n 1, 1) := by decide +kernel
theorem dX5_isAnnotationOf_13 : decode cX5_isAnnotationOf 13 = .ok (.if_icmp .ne 7, 3) := by decide +kernel
theorem dX5_isAnnotationOf_16 : decode cX5_isAnnotationOf 16 = .ok (.iconst 1, 1) := by decide +kernel
theorem dX5_isAnnotationOf_17 : decode cX5_isAnnotationOf 17 = .ok (.goto 4, 3) := by decide +kernel
theorem dX5_isAnnotationOf_20 : decode cX5_isAnnotationOf 20 = .ok (.iconst 0, 1) := by decide +kernel
theorem dX5_isAnnotationOf_21 : decode cX5_isAnnotationOf 21 = .ok (.ireturn, 1) := by decide +kernel
theorem dX5_contained_0 : decode cX5_contained 0 = .ok (.aload_n 0, 1) := by decide +kernel
theorem dX5_contained_1 : decode cX5_contained 1 = .ok (.getfield 18, 3) := by decide +kernel
theorem dX5_contained_4 : decode cX5_contained 4 = .ok (.iconst 1, 1) := by decide +kernel
theorem dX5_contained_5 : decode cX5_contained 5 = .ok (.invokevirtual 24, 3) := by decide +kernel
theorem dX5_contained_8 : decode cX5_contained 8 = .ok (.astore_n 2, 1) := by decide +kernel
theorem dX5_contained_9 : decode cX5_contained 9 = .ok (.aload_n 2, 1) := by decide +kernel
theorem dX5_contained_10 : decode cX5_contained 10 = .ok (.ifnull 11, 3) := by decide +kernel
theorem dX5_contained_13 : decode cX5_contained 13 = .ok (.aload_n 2, 1) := by decide +kernel
theorem dX5_contained_14 : decode cX5_contained 14 = .ok (.getfield 9, 3) := by decide +kernel
theorem dX5_contained_17 : decode cX5_contained 17 = .ok (.iconst 4, 1) := by decide +kernel
theorem dX5_contained_18 : decode cX5_contained 18 = .ok (.if_icmp .eq 5, 3) := by decide +kernel
theorem dX5_contained_21 : decode cX5_contained 21 = .ok (.iconst 0, 1) := by decide +kernel
theorem dX5_contained_22 : decode cX5_contained 22 = .ok (.ireturn, 1) := by decide +kernel
theorem dX5_contained_23 : decode cX5_contained 23 = .ok (.iconst 0, 1) := by decide +kernel
theorem dX5_contained_24 : decode cX5_contained 24 = .ok (.istore_n 3, 1) := by decide +kernel
theorem dX5_contained_25 : decode cX5_contained 25 = .ok (.iconst 1, 1) := by decide +kernel
theorem dX5_contained_26 : decode cX5_contained 26 = .ok (.istore 4, 2) := by decide +kernel
theorem dX5_contained_28 : decode cX5_contained 28 = .ok (.iload 4, 2) := by decide +kernel
theorem dX5_contained_30 : decode cX5_contained 30 = .ok (.aload_n 2, 1) := by decide +kernel
theorem dX5_contained_31 : decode cX5_contained 31 = .ok (.getfield 18, 3) := by decide +kernel
theorem dX5_contained_34 : decode cX5_contained 34 = .ok (.getfield 30, 3) := by decide +kernel
theorem dX5_contained_37 : decode cX5_contained 37 = .ok (.arraylength, 1) := by decide +kernel
theorem dX5_contained_38 : decode cX5_contained 38 = .ok (.if_icmp .gt 37, 3) := by decide +kernel
theorem dX5_contained_41 : decode cX5_contained 41 = .ok (.aload_n 2, 1) := by decide +kernel
theorem dX5_contained_42 : decode cX5_contained 42 = .ok (.getfield 18, 3) := by decide +kernel
theorem dX5_contained_45 : decode cX5_contained 45 = .ok (.iload 4, 2) := by decide +kernel
theorem dX5_contained_47 : decode cX5_contained 47 = .ok (.invokevirtual 24, 3) := by decide +kernel
theorem dX5_contained_50 : decode cX5_contained 50 = .ok (.astore 5, 2) := by decide +kernel
theorem dX5_contained_52 : decode cX5_contained 52 = .ok (.aload 5, 2) := by decide +kernel
theorem dX5_contained_54 : decode cX5_contained 54 = .ok (.ifnull 15, 3) := by decide +kernel
theorem dX5_contained_57 : decode cX5_contained 57 = .ok (.aload 5, 2) := by decide +kernel
theorem dX5_contained_59 : decode cX5_contained 59 = .ok (.iload_n 1, 1) := by decide +kernel
theorem dX5_contained_60 : decode cX5_contained 60 = .ok (.invokevirtual 34, 3) := by decide +kernel
theorem dX5_contained_63 : decode cX5_contained 63 = .ok (.ifCond .eq 6, 3) := by decide +kernel
theorem dX5_contained_66 : decode cX5_contained 66 = .ok (.iinc 3 1, 3) := by decide +kernel
theorem dX5_contained_69 : decode cX5_contained 69 = .ok (.iinc 4 1, 3) := by decide +kernel
theorem dX5_contained_72 : decode cX5_contained 72 = .ok (.goto (-44), 3) := by decide +kernel
theorem dX5_contained_75 : decode cX5_contained 75 = .ok (.iload_n 3, 1) := by decide +kernel
theorem dX5_contained_76 : decode cX5_contained 76 = .ok (.ireturn, 1) := by decide +kernel
theorem dX6_init_0 : decode cX6_init 0 = .ok (.aload_n 0, 1) := by decide +kernel
theorem dX6_init_1 : decode cX6_init 1 = .ok (.invokespecial 3, 3) := by decide +kernel
theorem dX6_init_4 : decode cX6_init 4 = .ok (.aload_n 0, 1) := by decide +kernel
theorem dX6_init_5 : decode cX6_init 5 = .ok (.bipush 120, 2) := by decide +kernel
theorem dX6_init_7 : decode cX6_init 7 = .ok (.newarray .int, 2) := by decide +kernel
theorem dX6_init_9 : decode cX6_init 9 = .ok (.putfield 9, 3) := by decide +kernel
theorem dX6_init_12 : decode cX6_init 12 = .ok (.aload_n 0, 1) := by decide +kernel
theorem dX6_init_13 : decode cX6_init 13 = .ok (.iconst 0, 1) := by decide +kernel
theorem dX6_init_14 : decode cX6_init 14 = .ok (.putfield 13, 3) := by decide +kernel
theorem dX6_init_17 : decode cX6_init 17 = .ok (.aload_n 0, 1) := by decide +kernel
theorem dX6_init_18 : decode cX6_init 18 = .ok (.new 17, 3) := by decide +kernel
theorem dX6_init_21 : decode cX6_init 21 = .ok (.dup, 1) := by decide +kernel
theorem dX6_init_22 : decode cX6_init 22 = .ok (.invokespecial 19, 3) := by decide +kernel
theorem dX6_init_25 : decode cX6_init 25 = .ok (.putfield 20, 3) := by decide +kernel
theorem dX6_init_28 : decode cX6_init 28 = .ok (.aload_n 0, 1) := by decide +kernel
theorem dX6_init_29 : decode cX6_init 29 = .ok (.new 24, 3) := by decide +kernel
theorem dX6_init_32 : decode cX6_init 32 = .ok (.dup, 1) := by decide +kernel
theorem dX6_init_33 : decode cX6_init 33 = .ok (.invokespecial 26, 3) := by decide +kernel
theorem dX6_init_36 : decode cX6_init 36 = .ok (.putfield 27, 3) := by decide +kernel
theorem dX6_init_39 : decode cX6_init 39 = .ok (.aload_n 0, 1) := by decide +kernel
theorem dX6_init_40 : decode cX6_init 40 = .ok (.new 31, 3) := by decide +kernel
theorem dX6_init_43 : decode cX6_init 43 = .ok (.dup, 1) := by decide +kernel
theorem dX6_init_44 : decode cX6_init 44 = .ok (.invokespecial 33, 3) := by decide +kernel
theorem dX6_init_47 : decode cX6_init 47 = .ok (.putfield 34, 3) := by decide +kernel
theorem dX6_init_50 : decode cX6_init 50 = .ok (.return_, 1) := by decide +kernel
theorem dX6_put_0 : decode cX6_put 0 = .ok (.iload_n 3, 1) := by decide +kernel
theorem dX6_put_1 : decode cX6_put 1 = .ok (.iconst 1, 1) := by decide +kernel
theorem dX6_put_2 : decode cX6_put 2 = .ok (.if_icmp .lt 20, 3) := by decide +kernel
theorem dX6_put_5 : decode cX6_put 5 = .ok (.iload_n 3, 1) := by decide +kernel
theorem dX6_put_6 : decode cX6_put 6 = .ok (.bipush 8, 2) := by decide +kernel
theorem dX6_put_8 : decode cX6_put 8 = .ok (.if_icmp .gt 14, 3) := by decide +kernel
theorem dX6_put_11 : decode cX6_put 11 = .ok (.aload_n 0, 1) := by decide +kernel
theorem dX6_put_12 : decode cX6_put 12 = .ok (.getfield 13, 3) := by decide +kernel
theorem dX6_put_15 : decode cX6_put 15 = .ok (.iload_n 3, 1) := by decide +kernel
theorem dX6_put_16 : decode cX6_put 16 = .ok (.iadd, 1) := by decide +kernel
theorem dX6_put_17 : decode cX6_put 17 = .ok (.bipush 120, 2) := by decide +kernel
theorem dX6_put_19 : decode cX6_put 19 = .ok (.if_icmp .le 5, 3) := by decide +kernel
theorem dX6_put_22 : decode cX6_put 22 = .ok (.iconst 0, 1) := by decide +kernel
theorem dX6_put_23 : decode cX6_put 23 = .ok (.ireturn, 1) := by decide +kernel
theorem dX6_put_24 : decode cX6_put 24 = .ok (.iload_n 3, 1) := by decide +kernel
theorem dX6_put_25 : decode cX6_put 25 = .ok (.iconst 1, 1) := by decide +kernel
theorem dX6_put_26 : decode cX6_put 26 = .ok (.isub, 1) := by decide +kernel
theorem dX6_put_27 : decode cX6_put 27 = .ok (.istore 4, 2) := by decide +kernel
theorem dX6_put_29 : decode cX6_put 29 = .ok (.iload 4, 2) := by decide +kernel
theorem dX6_put_31 : decode cX6_put 31 = .ok (.ifCond .lt 40, 3) := by decide +kernel
theorem dX6_put_34 : decode cX6_put 34 = .ok (.aload_n 0, 1) := by decide +kernel
theorem dX6_put_35 : decode cX6_put 35 = .ok (.getfield 9, 3) := by decide +kernel
theorem dX6_put_38 : decode cX6_put 38 = .ok (.aload_n 0, 1) := by decide +kernel
theorem dX6_put_39 : decode cX6_put 39 = .ok (.getfield 13, 3) := by decide +kernel
theorem dX6_put_42 : decode cX6_put 42 = .ok (.lload_n 1, 1) := by decide +kernel
theorem dX6_put_43 : decode cX6_put 43 = .ok (.bipush 8, 2) := by decide +kernel
theorem dX6_put_45 : decode cX6_put 45 = .ok (.iload 4, 2) := by decide +kernel
theorem dX6_put_47 : decode cX6_put 47 = .ok (.imul, 1) := by decide +kernel
theorem dX6_put_48 : decode cX6_put 48 = .ok (.lushr, 1) := by decide +kernel
theorem dX6_put_49 : decode cX6_put 49 = .ok (.l2i, 1) := by decide +kernel
theorem dX6_put_50 : decode cX6_put 50 = .ok (.sipush 255, 3) := by decide +kernel
theorem dX6_put_53 : decode cX6_put 53 = .ok (.iand, 1) := by decide +kernel
theorem dX6_put_54 : decode cX6_put 54 = .ok (.iastore, 1) := by decide +kernel
theorem dX6_put_55 : decode cX6_put 55 = .ok (.aload_n 0, 1) := by decide +kernel
theorem dX6_put_56 : decode cX6_put 56 = .ok (.dup, 1) := by decide +kernel
theorem dX6_put_57 : decode cX6_put 57 = .ok (.getfield 13, 3) := by decide +kernel
theorem dX6_put_60 : decode cX6_put 60 = .ok (.iconst 1, 1) := by decide +kernel
theorem dX6_put_61 : decode cX6_put 61 = .ok (.iadd, 1) := by decide +kernel
theorem dX6_put_62 : decode cX6_put 62 = .ok (.putfield 13, 3) := by decide +kernel
theorem dX6_put_65 : decode cX6_put 65 = .ok (.iinc 4 (-1), 3) := by decide +kernel
theorem dX6_put_68 : decode cX6_put 68 = .ok (.goto (-39), 3) := by decide +kernel
theorem dX6_put_71 : decode cX6_put 71 = .ok (.iconst 1, 1) := by decide +kernel
theorem dX6_put_72 : decode cX6_put 72 = .ok (.ireturn, 1) := by decide +kernel
theorem dX6_drop_0 : decode cX6_drop 0 = .ok (.aload_n 0, 1) := by decide +kernel
theorem dX6_drop_1 : decode cX6_drop 1 = .ok (.iconst 0, 1) := by decide +kernel
theorem dX6_drop_2 : decode cX6_drop 2 = .ok (.putfield 13, 3) := by decide +kernel
theorem dX6_drop_5 : decode cX6_drop 5 = .ok (.return_, 1) := by decide +kernel
theorem dX6_length_0 : decode cX6_length 0 = .ok (.aload_n 0, 1) := by decide +kernel
theorem dX6_length_1 : decode cX6_length 1 = .ok (.getfield 13, 3) := by decide +kernel
theorem dX6_length_4 : decode cX6_length 4 = .ok (.ireturn, 1) := by decide +kernel
theorem dX6_read_0 : decode cX6_read 0 = .ok (.aload_n 0, 1) := by decide +kernel
theorem dX6_read_1 : decode cX6_read 1 = .ok (.getfield 27, 3) := by decide +kernel
theorem dX6_read_4 : decode cX6_read 4 = .ok (.getfield 38, 3) := by decide +kernel
theorem dX6_read_7 : decode cX6_read 7 = .ok (.bipush 16, 2) := by decide +kernel
theorem dX6_read_9 : decode cX6_read 9 = .ok (.if_icmp .ne 5, 3) := by decide +kernel
theorem dX6_read_12 : decode cX6_read 12 = .ok (.iconst (-1), 1) := by decide +kernel
theorem dX6_read_13 : decode cX6_read 13 = .ok (.ireturn, 1) := by decide +kernel
theorem dX6_read_14 : decode cX6_read 14 = .ok (.aload_n 0, 1) := by decide +kernel
theorem dX6_read_15 : decode cX6_read 15 = .ok (.getfield 20, 3) := by decide +kernel
theorem dX6_read_18 : decode cX6_read 18 = .ok (.getfield 41, 3) := by decide +kernel
theorem dX6_read_21 : decode cX6_read 21 = .ok (.istore_n 1, 1) := by decide +kernel
theorem dX6_read_22 : decode cX6_read 22 = .ok (.aload_n 0, 1) := by decide +kernel
theorem dX6_read_23 : decode cX6_read 23 = .ok (.getfield 34, 3) := by decide +kernel
theorem dX6_read_26 : decode cX6_read 26 = .ok (.aload_n 0, 1) := by decide +kernel
theorem dX6_read_27 : decode cX6_read 27 = .ok (.getfield 9, 3) := by decide +kernel
theorem dX6_read_30 : decode cX6_read 30 = .ok (.aload_n 0, 1) := by decide +kernel
theorem dX6_read_31 : decode cX6_read 31 = .ok (.getfield 13, 3) := by decide +kernel
theorem dX6_read_34 : decode cX6_read 34 = .ok (.aload_n 0, 1) := by decide +kernel
theorem dX6_read_35 : decode cX6_read 35 = .ok (.getfield 20, 3) := by decide +kernel
theorem dX6_read_38 : decode cX6_read 38 = .ok (.aload_n 0, 1) := by decide +kernel
theorem dX6_read_39 : decode cX6_read 39 = .ok (.getfield 27, 3) := by decide +kernel
theorem dX6_read_42 : decode cX6_read 42 = .ok (.invokevirtual 42, 3) := by decide +kernel
theorem dX6_read_45 : decode cX6_read 45 = .ok (.astore_n 2, 1) := by decide +kernel
theorem dX6_read_46 : decode cX6_read 46 = .ok (.aload_n 0, 1) := by decide +kernel
theorem dX6_read_47 : decode cX6_read 47 = .ok (.iconst 0, 1) := by decide +kernel
theorem dX6_read_48 : decode cX6_read 48 = .ok (.putfield 13, 3) := by decide +kernel
theorem dX6_read_51 : decode cX6_read 51 = .ok (.aload_n 2, 1) := by decide +kernel
theorem dX6_read_52 : decode cX6_read 52 = .ok (.ifnonnull 20, 3) := by decide +kernel
theorem dX6_read_55 : decode cX6_read 55 = .ok (.aload_n 0, 1) := by decide +kernel
theorem dX6_read_56 : decode cX6_read 56 = .ok (.getfield 20, 3) := by decide +kernel
theorem dX6_read_59 : decode cX6_read 59 = .ok (.iload_n 1, 1) := by decide +kernel
theorem dX6_read_60 : decode cX6_read 60 = .ok (.invokevirtual 46, 3) := by decide +kernel
theorem dX6_read_63 : decode cX6_read 63 = .ok (.aload_n 0, 1) := by decide +kernel
theorem dX6_read_64 : decode cX6_read 64 = .ok (.getfield 34, 3) := by decide +kernel
theorem dX6_read_67 : decode cX6_read 67 = .ok (.getfield 50, 3) := by decide +kernel
theorem dX6_read_70 : decode cX6_read 70 = .ok (.ineg, 1) := by decide +kernel
theorem dX6_read_71 : decode cX6_read 71 = .ok (.ireturn, 1) := by decide +kernel
theorem dX6_read_72 : decode cX6_read 72 = .ok (.aload_n 0, 1) := by decide +kernel
theorem dX6_read_73 : decode cX6_read 73 = .ok (.getfield 27, 3) := by decide +kernel
theorem dX6_read_76 : decode cX6_read 76 = .ok (.aload_n 2, 1) := by decide +kernel
theorem dX6_read_77 : decode cX6_read 77 = .ok (.invokevirtual 53, 3) := by decide +kernel
theorem dX6_read_80 : decode cX6_read 80 = .ok (.ireturn, 1) := by decide +kernel
theorem dX6_classes_0 : decode cX6_classes 0 = .ok (.aload_n 0, 1) := by decide +kernel
theorem dX6_classes_1 : decode cX6_classes 1 = .ok (.getfield 27, 3) := by decide +kernel
theorem dX6_classes_4 : decode cX6_classes 4 = .ok (.getfield 38, 3) := by decide +kernel
theorem dX6_classes_7 : decode cX6_classes 7 = .ok (.ireturn, 1) := by decide +kernel
theorem dX6_texts_0 : decode cX6_texts 0 = .ok (.aload_n 0, 1) := by decide +kernel
theorem dX6_texts_1 : decode cX6_texts 1 = .ok (.getfield 20, 3) := by decide +kernel
theorem dX6_texts_4 : decode cX6_texts 4 = .ok (.getfield 41, 3) := by decide +kernel
theorem dX6_texts_7 : decode cX6_texts 7 = .ok (.ireturn, 1) := by decide +kernel
theorem dX6_letter_0 : decode cX6_letter 0 = .ok (.aload_n 0, 1) := by decide +kernel
theorem dX6_letter_1 : decode cX6_letter 1 = .ok (.getfield 20, 3) := by decide +kernel
theorem dX6_letter_4 : decode cX6_letter 4 = .ok (.iload_n 1, 1) := by decide +kernel
theorem dX6_letter_5 : decode cX6_letter 5 = .ok (.invokevirtual 57, 3) := by decide +kernel
theorem dX6_letter_8 : decode cX6_letter 8 = .ok (.ifCond .eq 15, 3) := by decide +kernel
theorem dX6_letter_11 : decode cX6_letter 11 = .ok (.aload_n 0, 1) := by decide +kernel
theorem dX6_letter_12 : decode cX6_letter 12 = .ok (.getfield 20, 3) := by decide +kernel
theorem dX6_letter_15 : decode cX6_letter 15 = .ok (.iload_n 1, 1) := by decide +kernel
theorem dX6_letter_16 : decode cX6_letter 16 = .ok (.iload_n 2, 1) := by decide +kernel
theorem dX6_letter_17 : decode cX6_letter 17 = .ok (.invokevirtual 61, 3) := by decide +kernel
theorem dX6_letter_20 : decode cX6_letter 20 = .ok (.goto 4, 3) := by decide +kernel
theorem dX6_letter_23 : decode cX6_letter 23 = .ok (.iconst (-1), 1) := by decide +kernel
theorem dX6_letter_24 : decode cX6_letter 24 = .ok (.ireturn, 1) := by decide +kernel
theorem dX6_find_0 : decode cX6_find 0 = .ok (.aload_n 0, 1) := by decide +kernel
theorem dX6_find_1 : decode cX6_find 1 = .ok (.getfield 27, 3) := by decide +kernel
theorem dX6_find_4 : decode cX6_find 4 = .ok (.iload_n 1, 1) := by decide +kernel
theorem dX6_find_5 : decode cX6_find 5 = .ok (.invokevirtual 65, 3) := by decide +kernel
theorem dX6_find_8 : decode cX6_find 8 = .ok (.ireturn, 1) := by decide +kernel
theorem dX6_name_0 : decode cX6_name 0 = .ok (.aload_n 0, 1) := by decide +kernel
theorem dX6_name_1 : decode cX6_name 1 = .ok (.getfield 27, 3) := by decide +kernel
theorem dX6_name_4 : decode cX6_name 4 = .ok (.iload_n 1, 1) := by decide +kernel
theorem dX6_name_5 : decode cX6_name 5 = .ok (.invokevirtual 69, 3) := by decide +kernel
theorem dX6_name_8 : decode cX6_name 8 = .ok (.ifCond .eq 18, 3) := by decide +kernel
theorem dX6_name_11 : decode cX6_name 11 = .ok (.aload_n 0, 1) := by decide +kernel
theorem dX6_name_12 : decode cX6_name 12 = .ok (.getfield 27, 3) := by decide +kernel
theorem dX6_name_15 : decode cX6_name 15 = .ok (.getfield 70, 3) := by decide +kernel
theorem dX6_name_18 : decode cX6_name 18 = .ok (.iload_n 1, 1) := by decide +kernel
theorem dX6_name_19 : decode cX6_name 19 = .ok (.aaload, 1) := by decide +kernel
theorem dX6_name_20 : decode cX6_name 20 = .ok (.getfield 74, 3) := by decide +kernel
theorem dX6_name_23 : decode cX6_name 23 = .ok (.goto 4, 3) := by decide +kernel
theorem dX6_name_26 : decode cX6_name 26 = .ok (.iconst (-1), 1) := by decide +kernel
theorem dX6_name_27 : decode cX6_name 27 = .ok (.ireturn, 1) := by decide +kernel
theorem dX6_flags_0 : decode cX6_flags 0 = .ok (.aload_n 0, 1) := by decide +kernel
theorem dX6_flags_1 : decode cX6_flags 1 = .ok (.getfield 27, 3) := by decide +kernel
theorem dX6_flags_4 : decode cX6_flags 4 = .ok (.iload_n 1, 1) := by decide +kernel
theorem dX6_flags_5 : decode cX6_flags 5 = .ok (.invokevirtual 69, 3) := by decide +kernel
theorem dX6_flags_8 : decode cX6_flags 8 = .ok (.ifCond .eq 18, 3) := by decide +kernel
theorem dX6_flags_11 : decode cX6_flags 11 = .ok (.aload_n 0, 1) := by decide +kernel
theorem dX6_flags_12 : decode cX6_flags 12 = .ok (.getfield 27, 3) := by decide +kernel
theorem dX6_flags_15 : decode cX6_flags 15 = .ok (.getfield 70, 3) := by decide +kernel
theorem dX6_flags_18 : decode cX6_flags 18 = .ok (.iload_n 1, 1) := by decide +kernel
theorem dX6_flags_19 : decode cX6_flags 19 = .ok (.aaload, 1) := by decide +kernel
theorem dX6_flags_20 : decode cX6_flags 20 = .ok (.getfield 79, 3) := by decide +kernel
theorem dX6_flags_23 : decode cX6_flags 23 = .ok (.goto 4, 3) := by decide +kernel
theorem dX6_flags_26 : decode cX6_flags 26 = .ok (.iconst (-1), 1) := by decide +kernel
theorem dX6_flags_27 : decode cX6_flags 27 = .ok (.ireturn, 1) := by decide +kernel
theorem dX6_superName_0 : decode cX6_superName 0 = .ok (.aload_n 0, 1) := by decide +kernel
theorem dX6_superName_1 : decode cX6_superName 1 = .ok (.getfield 27, 3) := by decide +kernel
theorem dX6_superName_4 : decode cX6_superName 4 = .ok (.iload_n 1, 1) := by decide +kernel
theorem dX6_superName_5 : decode cX6_superName 5 = .ok (.invokevirtual 69, 3) := by decide +kernel
theorem dX6_superName_8 : decode cX6_superName 8 = .ok (.ifCond .eq 18, 3) := by decide +kernel
theorem dX6_superName_11 : decode cX6_superName 11 = .ok (.aload_n 0, 1) := by decide +kernel
theorem dX6_superName_12 : decode cX6_superName 12 = .ok (.getfield 27, 3) := by decide +kernel
theorem dX6_superName_15 : decode cX6_superName 15 = .ok (.getfield 70, 3) := by decide +kernel
theorem dX6_superName_18 : decode cX6_superName 18 = .ok (.iload_n 1, 1) := by decide +kernel
theorem dX6_superName_19 : decode cX6_superName 19 = .ok (.aaload, 1) := by decide +kernel
theorem dX6_superName_20 : decode cX6_superName 20 = .ok (.getfield 82, 3) := by decide +kernel
theorem dX6_superName_23 : decode cX6_superName 23 = .ok (.goto 4, 3) := by decide +kernel
theorem dX6_superName_26 : decode cX6_superName 26 = .ok (.iconst (-1), 1) := by decide +kernel
theorem dX6_superName_27 : decode cX6_superName 27 = .ok (.ireturn, 1) := by decide +kernel
theorem dX6_subtype_0 : decode cX6_subtype 0 = .ok (.aload_n 0, 1) := by decide +kernel
theorem dX6_subtype_1 : decode cX6_subtype 1 = .ok (.iload_n 1, 1) := by decide +kernel
theorem dX6_subtype_2 : decode cX6_subtype 2 = .ok (.iload_n 2, 1) := by decide +kernel
theorem dX6_subtype_3 : decode cX6_subtype 3 = .ok (.invokevirtual 85, 3) := by decide +kernel
theorem dX6_subtype_6 : decode cX6_subtype 6 = .ok (.ifCond .eq 20, 3) := by decide +kernel
theorem dX6_subtype_9 : decode cX6_subtype 9 = .ok (.aload_n 0, 1) := by decide +kernel
theorem dX6_subtype_10 : decode cX6_subtype 10 = .ok (.getfield 27, 3) := by decide +kernel
theorem dX6_subtype_13 : decode cX6_subtype 13 = .ok (.iload_n 1, 1) := by decide +kernel
theorem dX6_subtype_14 : decode cX6_subtype 14 = .ok (.iload_n 2, 1) := by decide +kernel
theorem dX6_subtype_15 : decode cX6_subtype 15 = .ok (.iconst 0, 1) := by decide +kernel
theorem dX6_subtype_16 : decode cX6_subtype 16 = .ok (.invokevirtual 89, 3) := by decide +kernel
theorem dX6_subtype_19 : decode cX6_subtype 19 = .ok (.ifCond .eq 7, 3) := by decide +kernel
theorem dX6_subtype_22 : decode cX6_subtype 22 = .ok (.iconst 1, 1) := by decide +kernel
theorem dX6_subtype_23 : decode cX6_subtype 23 = .ok (.goto 4, 3) := by decide +kernel
theorem dX6_subtype_26 : decode cX6_subtype 26 = .ok (.iconst 0, 1) := by decide +kernel
theorem dX6_subtype_27 : decode cX6_subtype 27 = .ok (.ireturn, 1) := by decide +kernel
theorem dX6_subtypeAt_0 : decode cX6_subtypeAt 0 = .ok (.iload_n 2, 1) := by decide +kernel
theorem dX6_subtypeAt_1 : decode cX6_subtypeAt 1 = .ok (.ifCond .lt 14, 3) := by decide +kernel
theorem dX6_subtypeAt_4 : decode cX6_subtypeAt 4 = .ok (.aload_n 0, 1) := by decide +kernel
theorem dX6_subtypeAt_5 : decode cX6_subtypeAt 5 = .ok (.getfield 20, 3) := by decide +kernel
theorem dX6_subtypeAt_8 : decode cX6_subtypeAt 8 = .ok (.iload_n 1, 1) := by decide +kernel
theorem dX6_subtypeAt_9 : decode cX6_subtypeAt 9 = .ok (.invokevirtual 57, 3) := by decide +kernel
theorem dX6_subtypeAt_12 : decode cX6_subtypeAt 12 = .ok (.ifCond .ne 5, 3) := by decide +kernel
theorem dX6_subtypeAt_15 : decode cX6_subtypeAt 15 = .ok (.iconst (-1), 1) := by decide +kernel
theorem dX6_subtypeAt_16 : decode cX6_subtypeAt 16 = .ok (.ireturn, 1) := by decide +kernel
theorem dX6_subtypeAt_17 : decode cX6_subtypeAt 17 = .ok (.iconst 0, 1) := by decide +kernel
theorem dX6_subtypeAt_18 : decode cX6_subtypeAt 18 = .ok (.istore_n 3, 1) := by decide +kernel
theorem dX6_subtypeAt_19 : decode cX6_subtypeAt 19 = .ok (.iconst 0, 1) := by decide +kernel
theorem dX6_subtypeAt_20 : decode cX6_subtypeAt 20 = .ok (.istore 4, 2) := by decide +kernel
theorem dX6_subtypeAt_22 : decode cX6_subtypeAt 22 = .ok (.iload 4, 2) := by decide +kernel
theorem dX6_subtypeAt_24 : decode cX6_subtypeAt 24 = .ok (.aload_n 0, 1) := by decide +kernel
theorem dX6_subtypeAt_25 : decode cX6_subtypeAt 25 = .ok (.getfield 27, 3) := by decide +kernel
theorem dX6_subtypeAt_28 : decode cX6_subtypeAt 28 = .ok (.getfield 38, 3) := by decide +kernel
theorem dX6_subtypeAt_31 : decode cX6_subtypeAt 31 = .ok (.if_icmp .ge 34, 3) := by decide +kernel
theorem dX6_subtypeAt_34 : decode cX6_subtypeAt 34 = .ok (.aload_n 0, 1) := by decide +kernel
theorem dX6_subtypeAt_35 : decode cX6_subtypeAt 35 = .ok (.getfield 27, 3) := by decide +kernel
theorem dX6_subtypeAt_38 : decode cX6_subtypeAt 38 = .ok (.iload 4, 2) := by decide +kernel
theorem dX6_subtypeAt_40 : decode cX6_subtypeAt 40 = .ok (.iload_n 1, 1) := by decide +kernel
theorem dX6_subtypeAt_41 : decode cX6_subtypeAt 41 = .ok (.iconst 0, 1) := by decide +kernel
theorem dX6_subtypeAt_42 : decode cX6_subtypeAt 42 = .ok (.invokevirtual 89, 3) := by decide +kernel
theorem dX6_subtypeAt_45 : decode cX6_subtypeAt 45 = .ok (.ifCond .eq 14, 3) := by decide +kernel
theorem dX6_subtypeAt_48 : decode cX6_subtypeAt 48 = .ok (.iload_n 3, 1) := by decide +kernel
theorem dX6_subtypeAt_49 : decode cX6_subtypeAt 49 = .ok (.iload_n 2, 1) := by decide +kernel
theorem dX6_subtypeAt_50 : decode cX6_subtypeAt 50 = .ok (.if_icmp .ne 6, 3) := by decide +kernel
theorem dX6_subtypeAt_53 : decode cX6_subtypeAt 53 = .ok (.iload 4, 2) := by decide +kernel
theorem dX6_subtypeAt_55 : decode cX6_subtypeAt 55 = .ok (.ireturn, 1) := by decide +kernel
theorem dX6_subtypeAt_56 : decode cX6_subtypeAt 56 = .ok (.iinc 3 1, 3) := by decide +kernel
theorem dX6_subtypeAt_59 : decode cX6_subtypeAt 59 = .ok (.iinc 4 1, 3) := by decide +kernel
theorem dX6_subtypeAt_62 : decode cX6_subtypeAt 62 = .ok (.goto (-40), 3) := by decide +kernel
theorem dX6_subtypeAt_65 : decode cX6_subtypeAt 65 = .ok (.iconst (-1), 1) := by decide +kernel
theorem dX6_subtypeAt_66 : decode cX6_subtypeAt 66 = .ok (.ireturn, 1) := by decide +kernel
theorem dX6_holder_0 : decode cX6_holder 0 = .ok (.aload_n 0, 1) := by decide +kernel
theorem dX6_holder_1 : decode cX6_holder 1 = .ok (.iload_n 1, 1) := by decide +kernel
theorem dX6_holder_2 : decode cX6_holder 2 = .ok (.iload_n 2, 1) := by decide +kernel
theorem dX6_holder_3 : decode cX6_holder 3 = .ok (.invokevirtual 85, 3) := by decide +kernel
theorem dX6_holder_6 : decode cX6_holder 6 = .ok (.ifCond .ne 5, 3) := by decide +kernel
theorem dX6_holder_9 : decode cX6_holder 9 = .ok (.iconst (-1), 1) := by decide +kernel
theorem dX6_holder_10 : decode cX6_holder 10 = .ok (.ireturn, 1) := by decide +kernel
theorem dX6_holder_11 : decode cX6_holder 11 = .ok (.aload_n 0, 1) := by decide +kernel
theorem dX6_holder_12 : decode cX6_holder 12 = .ok (.getfield 27, 3) := by decide +kernel
theorem dX6_holder_15 : decode cX6_holder 15 = .ok (.iload_n 2, 1) := by decide +kernel
theorem dX6_holder_16 : decode cX6_holder 16 = .ok (.invokevirtual 93, 3) := by decide +kernel
theorem dX6_holder_19 : decode cX6_holder 19 = .ok (.istore_n 3, 1) := by decide +kernel
theorem dX6_holder_20 : decode cX6_holder 20 = .ok (.iload_n 1, 1) := by decide +kernel
theorem dX6_holder_21 : decode cX6_holder 21 = .ok (.istore 4, 2) := by decide +kernel
theorem dX6_holder_23 : decode cX6_holder 23 = .ok (.iconst 0, 1) := by decide +kernel
theorem dX6_holder_24 : decode cX6_holder 24 = .ok (.istore 5, 2) := by decide +kernel
theorem dX6_holder_26 : decode cX6_holder 26 = .ok (.iload 5, 2) := by decide +kernel
theorem dX6_holder_28 : decode cX6_holder 28 = .ok (.iload_n 3, 1) := by decide +kernel
theorem dX6_holder_29 : decode cX6_holder 29 = .ok (.if_icmp .ge 46, 3) := by decide +kernel
theorem dX6_holder_32 : decode cX6_holder 32 = .ok (.iload 4, 2) := by decide +kernel
theorem dX6_holder_34 : decode cX6_holder 34 = .ok (.iconst (-1), 1) := by decide +kernel
theorem dX6_holder_35 : decode cX6_holder 35 = .ok (.if_icmp .eq 40, 3) := by decide +kernel
theorem dX6_holder_38 : decode cX6_holder 38 = .ok (.aload_n 0, 1) := by decide +kernel
theorem dX6_holder_39 : decode cX6_holder 39 = .ok (.getfield 27, 3) := by decide +kernel
theorem dX6_holder_42 : decode cX6_holder 42 = .ok (.getfield 70, 3) := by decide +kernel
theorem dX6_holder_45 : decode cX6_holder 45 = .ok (.iload 4, 2) := by decide +kernel
theorem dX6_holder_47 : decode cX6_holder 47 = .ok (.aaload, 1) := by decide +kernel
theorem dX6_holder_48 : decode cX6_holder 48 = .ok (.iload_n 2, 1) := by decide +kernel
theorem dX6_holder_49 : decode cX6_holder 49 = .ok (.invokevirtual 96, 3) := by decide +kernel
theorem dX6_holder_52 : decode cX6_holder 52 = .ok (.ifnull 6, 3) := by decide +kernel
theorem dX6_holder_55 : decode cX6_holder 55 = .ok (.iload 4, 2) := by decide +kernel
theorem dX6_holder_57 : decode cX6_holder 57 = .ok (.ireturn, 1) := by decide +kernel
theorem dX6_holder_58 : decode cX6_holder 58 = .ok (.aload_n 0, 1) := by decide +kernel
theorem dX6_holder_59 : decode cX6_holder 59 = .ok (.getfield 27, 3) := by decide +kernel
theorem dX6_holder_62 : decode cX6_holder 62 = .ok (.iload 4, 2) := by decide +kernel
theorem dX6_holder_64 : decode cX6_holder 64 = .ok (.invokevirtual 100, 3) := by decide +kernel
theorem dX6_holder_67 : decode cX6_holder 67 = .ok (.istore 4, 2) := by decide +kernel
theorem dX6_holder_69 : decode cX6_holder 69 = .ok (.iinc 5 1, 3) := by decide +kernel
theorem dX6_holder_72 : decode cX6_holder 72 = .ok (.goto (-46), 3) := by decide +kernel
theorem dX6_holder_75 : decode cX6_holder 75 = .ok (.iconst (-1), 1) := by decide +kernel
theorem dX6_holder_76 : decode cX6_holder 76 = .ok (.ireturn, 1) := by decide +kernel
theorem dX6_count_0 : decode cX6_count 0 = .ok (.aload_n 0, 1) := by decide +kernel
theorem dX6_count_1 : decode cX6_count 1 = .ok (.iload_n 1, 1) := by decide +kernel
theorem dX6_count_2 : decode cX6_count 2 = .ok (.iload_n 2, 1) := by decide +kernel
theorem dX6_count_3 : decode cX6_count 3 = .ok (.invokevirtual 85, 3) := by decide +kernel
theorem dX6_count_6 : decode cX6_count 6 = .ok (.ifCond .ne 5, 3) := by decide +kernel
theorem dX6_count_9 : decode cX6_count 9 = .ok (.iconst 0, 1) := by decide +kernel
theorem dX6_count_10 : decode cX6_count 10 = .ok (.ireturn, 1) := by decide +kernel
theorem dX6_count_11 : decode cX6_count 11 = .ok (.aload_n 0, 1) := by decide +kernel
theorem dX6_count_12 : decode cX6_count 12 = .ok (.getfield 27, 3) := by decide +kernel
theorem dX6_count_15 : decode cX6_count 15 = .ok (.iload_n 2, 1) := by decide +kernel
theorem dX6_count_16 : decode cX6_count 16 = .ok (.invokevirtual 103, 3) := by decide +kernel
theorem dX6_count_19 : decode cX6_count 19 = .ok (.istore_n 3, 1) := by decide +kernel
theorem dX6_count_20 : decode cX6_count 20 = .ok (.aload_n 0, 1) := by decide +kernel
theorem dX6_count_21 : decode cX6_count 21 = .ok (.getfield 27, 3) := by decide +kernel
theorem dX6_count_24 : decode cX6_count 24 = .ok (.iload_n 2, 1) := by decide +kernel
theorem dX6_count_25 : decode cX6_count 25 = .ok (.invokevirtual 93, 3) := by decide +kernel
theorem dX6_count_28 : decode cX6_count 28 = .ok (.istore 4, 2) := by decide +kernel
theorem dX6_count_30 : decode cX6_count 30 = .ok (.iload_n 1, 1) := by decide +kernel
theorem dX6_count_31 : decode cX6_count 31 = .ok (.istore 5, 2) := by decide +kernel
theorem dX6_count_33 : decode cX6_count 33 = .ok (.iconst 0, 1) := by decide +kernel
theorem dX6_count_34 : decode cX6_count 34 = .ok (.istore 6, 2) := by decide +kernel
theorem dX6_count_36 : decode cX6_count 36 = .ok (.iload 6, 2) := by decide +kernel
theorem dX6_count_38 : decode cX6_count 38 = .ok (.iload 4, 2) := by decide +kernel
theorem dX6_count_40 : decode cX6_count 40 = .ok (.if_icmp .ge 51, 3) := by decide +kernel
theorem dX6_count_43 : decode cX6_count 43 = .ok (.iload 5, 2) := by decide +kernel
theorem dX6_count_45 : decode cX6_count 45 = .ok (.iconst (-1), 1) := by decide +kernel
theorem dX6_count_46 : decode cX6_count 46 = .ok (.if_icmp .eq 45, 3) := by decide +kernel
theorem dX6_count_49 : decode cX6_count 49 = .ok (.aload_n 0, 1) := by decide +kernel
theorem dX6_count_50 : decode cX6_count 50 = .ok (.getfield 27, 3) := by decide +kernel
theorem dX6_count_53 : decode cX6_count 53 = .ok (.getfield 70, 3) := by decide +kernel
theorem dX6_count_56 : decode cX6_count 56 = .ok (.iload 5, 2) := by decide +kernel
theorem dX6_count_58 : decode cX6_count 58 = .ok (.aaload, 1) := by decide +kernel
theorem dX6_count_59 : decode cX6_count 59 = .ok (.iload_n 2, 1) := by decide +kernel
theorem dX6_count_60 : decode cX6_count 60 = .ok (.iload_n 3, 1) := by decide +kernel
theorem dX6_count_61 : decode cX6_count 61 = .ok (.invokevirtual 106, 3) := by decide +kernel
theorem dX6_count_64 : decode cX6_count 64 = .ok (.istore 7, 2) := by decide +kernel
theorem dX6_count_66 : decode cX6_count 66 = .ok (.iload 7, 2) := by decide +kernel
theorem dX6_count_68 : decode cX6_count 68 = .ok (.ifCond .le 6, 3) := by decide +kernel
theorem dX6_count_71 : decode cX6_count 71 = .ok (.iload 7, 2) := by decide +kernel
theorem dX6_count_73 : decode cX6_count 73 = .ok (.ireturn, 1) := by decide +kernel
theorem dX6_count_74 : decode cX6_count 74 = .ok (.aload_n 0, 1) := by decide +kernel
theorem dX6_count_75 : decode cX6_count 75 = .ok (.getfield 27, 3) := by decide +kernel
theorem dX6_count_78 : decode cX6_count 78 = .ok (.iload 5, 2) := by decide +kernel
theorem dX6_count_80 : decode cX6_count 80 = .ok (.invokevirtual 100, 3) := by decide +kernel
theorem dX6_count_83 : decode cX6_count 83 = .ok (.istore 5, 2) := by decide +kernel
theorem dX6_count_85 : decode cX6_count 85 = .ok (.iinc 6 1, 3) := by decide +kernel
theorem dX6_count_88 : decode cX6_count 88 = .ok (.goto (-52), 3) := by decide +kernel
theorem dX6_count_91 : decode cX6_count 91 = .ok (.iconst 0, 1) := by decide +kernel
theorem dX6_count_92 : decode cX6_count 92 = .ok (.ireturn, 1) := by decide +kernel
theorem dX6_meta_0 : decode cX6_meta 0 = .ok (.aload_n 0, 1) := by decide +kernel
theorem dX6_meta_1 : decode cX6_meta 1 = .ok (.iload_n 1, 1) := by decide +kernel
theorem dX6_meta_2 : decode cX6_meta 2 = .ok (.iload_n 2, 1) := by decide +kernel
theorem dX6_meta_3 : decode cX6_meta 3 = .ok (.invokevirtual 85, 3) := by decide +kernel
theorem dX6_meta_6 : decode cX6_meta 6 = .ok (.ifCond .eq 20, 3) := by decide +kernel
theorem dX6_meta_9 : decode cX6_meta 9 = .ok (.aload_n 0, 1) := by decide +kernel
theorem dX6_meta_10 : decode cX6_meta 10 = .ok (.getfield 27, 3) := by decide +kernel
theorem dX6_meta_13 : decode cX6_meta 13 = .ok (.iload_n 1, 1) := by decide +kernel
theorem dX6_meta_14 : decode cX6_meta 14 = .ok (.iload_n 2, 1) := by decide +kernel
theorem dX6_meta_15 : decode cX6_meta 15 = .ok (.iconst 1, 1) := by decide +kernel
theorem dX6_meta_16 : decode cX6_meta 16 = .ok (.invokevirtual 89, 3) := by decide +kernel
theorem dX6_meta_19 : decode cX6_meta 19 = .ok (.ifCond .eq 7, 3) := by decide +kernel
theorem dX6_meta_22 : decode cX6_meta 22 = .ok (.iconst 1, 1) := by decide +kernel
theorem dX6_meta_23 : decode cX6_meta 23 = .ok (.goto 4, 3) := by decide +kernel
theorem dX6_meta_26 : decode cX6_meta 26 = .ok (.iconst 0, 1) := by decide +kernel
theorem dX6_meta_27 : decode cX6_meta 27 = .ok (.ireturn, 1) := by decide +kernel
theorem dX6_value_0 : decode cX6_value 0 = .ok (.aload_n 0, 1) := by decide +kernel
theorem dX6_value_1 : decode cX6_value 1 = .ok (.iload_n 1, 1) := by decide +kernel
theorem dX6_value_2 : decode cX6_value 2 = .ok (.iload_n 2, 1) := by decide +kernel
theorem dX6_value_3 : decode cX6_value 3 = .ok (.invokevirtual 109, 3) := by decide +kernel
theorem dX6_value_6 : decode cX6_value 6 = .ok (.istore 5, 2) := by decide +kernel
theorem dX6_value_8 : decode cX6_value 8 = .ok (.iload 5, 2) := by decide +kernel
theorem dX6_value_10 : decode cX6_value 10 = .ok (.iconst (-1), 1) := by decide +kernel
theorem dX6_value_11 : decode cX6_value 11 = .ok (.if_icmp .eq 8, 3) := by decide +kernel
theorem dX6_value_14 : decode cX6_value 14 = .ok (.iload 4, 2) := by decide +kernel
theorem dX6_value_16 : decode cX6_value 16 = .ok (.ifCond .ge 7, 3) := by decide +kernel
theorem dX6_value_19 : decode cX6_value 19 = .ok (.ldc2_w 112, 3) := by decide +kernel
theorem dX6_value_22 : decode cX6_value 22 = .ok (.lreturn, 1) := by decide +kernel
theorem dX6_value_23 : decode cX6_value 23 = .ok (.aload_n 0, 1) := by decide +kernel
theorem dX6_value_24 : decode cX6_value 24 = .ok (.iload 5, 2) := by decide +kernel
theorem dX6_value_26 : decode cX6_value 26 = .ok (.iload_n 2, 1) := by decide +kernel
theorem dX6_value_27 : decode cX6_value 27 = .ok (.iload_n 3, 1) := by decide +kernel
theorem dX6_value_28 : decode cX6_value 28 = .ok (.invokevirtual 114, 3) := by decide +kernel
theorem dX6_value_31 : decode cX6_value 31 = .ok (.astore 6, 2) := by decide +kernel
theorem dX6_value_33 : decode cX6_value 33 = .ok (.iload 4, 2) := by decide +kernel
theorem dX6_value_35 : decode cX6_value 35 = .ok (.istore 7, 2) := by decide +kernel
theorem dX6_value_37 : decode cX6_value 37 = .ok (.iconst 0, 1) := by decide +kernel
theorem dX6_value_38 : decode cX6_value 38 = .ok (.istore 8, 2) := by decide +kernel
theorem dX6_value_40 : decode cX6_value 40 = .ok (.iload 8, 2) := by decide +kernel
theorem dX6_value_42 : decode cX6_value 42 = .ok (.bipush 11, 2) := by decide +kernel
theorem dX6_value_44 : decode cX6_value 44 = .ok (.if_icmp .ge 41, 3) := by decide +kernel
theorem dX6_value_47 : decode cX6_value 47 = .ok (.iload 7, 2) := by decide +kernel
theorem dX6_value_49 : decode cX6_value 49 = .ok (.ifCond .le 36, 3) := by decide +kernel
theorem dX6_value_52 : decode cX6_value 52 = .ok (.aload 6, 2) := by decide +kernel
theorem dX6_value_54 : decode cX6_value 54 = .ok (.ifnull 31, 3) := by decide +kernel
theorem dX6_value_57 : decode cX6_value 57 = .ok (.aload 6, 2) := by decide +kernel
theorem dX6_value_59 : decode cX6_value 59 = .ok (.getfield 118, 3) := by decide +kernel
theorem dX6_value_62 : decode cX6_value 62 = .ok (.iload 7, 2) := by decide +kernel
theorem dX6_value_64 : decode cX6_value 64 = .ok (.bipush 8, 2) := by decide +kernel
theorem dX6_value_66 : decode cX6_value 66 = .ok (.irem, 1) := by decide +kernel
theorem dX6_value_67 : decode cX6_value 67 = .ok (.invokevirtual 124, 3) := by decide +kernel
theorem dX6_value_70 : decode cX6_value 70 = .ok (.astore 6, 2) := by decide +kernel
theorem dX6_value_72 : decode cX6_value 72 = .ok (.iload 7, 2) := by decide +kernel
theorem dX6_value_74 : decode cX6_value 74 = .ok (.bipush 8, 2) := by decide +kernel
theorem dX6_value_76 : decode cX6_value 76 = .ok (.idiv, 1) := by decide +kernel
theorem dX6_value_77 : decode cX6_value 77 = .ok (.istore 7, 2) := by decide +kernel
theorem dX6_value_79 : decode cX6_value 79 = .ok (.iinc 8 1, 3) := by decide +kernel
theorem dX6_value_82 : decode cX6_value 82 = .ok (.goto (-42), 3) := by decide +kernel
theorem dX6_value_85 : decode cX6_value 85 = .ok (.aload 6, 2) := by decide +kernel
theorem dX6_value_87 : decode cX6_value 87 = .ok (.ifnonnull 9, 3) := by decide +kernel
theorem dX6_value_90 : decode cX6_value 90 = .ok (.ldc2_w 112, 3) := by decide +kernel
theorem dX6_value_93 : decode cX6_value 93 = .ok (.goto 8, 3) := by decide +kernel
theorem dX6_value_96 : decode cX6_value 96 = .ok (.aload 6, 2) := by decide +kernel
theorem dX6_value_98 : decode cX6_value 98 = .ok (.invokevirtual 129, 3) := by decide +kernel
theorem dX6_value_101 : decode cX6_value 101 = .ok (.lreturn, 1) := by decide +kernel
theorem dX6_areThere_0 : decode cX6_areThere 0 = .ok (.aload_n 0, 1) := by decide +kernel
theorem dX6_areThere_1 : decode cX6_areThere 1 = .ok (.getfield 27, 3) := by decide +kernel
theorem dX6_areThere_4 : decode cX6_areThere 4 = .ok (.iload_n 1, 1) := by decide +kernel
theorem dX6_areThere_5 : decode cX6_areThere 5 = .ok (.invokevirtual 69, 3) := by decide +kernel
theorem dX6_areThere_8 : decode cX6_areThere 8 = .ok (.ifCond .eq 18, 3) := by decide +kernel
theorem dX6_areThere_11 : decode cX6_areThere 11 = .ok (.aload_n 0, 1) := by decide +kernel
theorem dX6_areThere_12 : decode cX6_areThere 12 = .ok (.getfield 20, 3) := by decide +kernel
theorem dX6_areThere_15 : decode cX6_areThere 15 = .ok (.iload_n 2, 1) := by decide +kernel
theorem dX6_areThere_16 : decode cX6_areThere 16 = .ok (.invokevirtual 57, 3) := by decide +kernel
theorem dX6_areThere_19 : decode cX6_areThere 19 = .ok (.ifCond .eq 7, 3) := by decide +kernel
theorem dX6_areThere_22 : decode cX6_areThere 22 = .ok (.iconst 1, 1) := by decide +kernel
theorem dX6_areThere_23 : decode cX6_areThere 23 = .ok (.goto 4, 3) := by decide +kernel
theorem dX6_areThere_26 : decode cX6_areThere 26 = .ok (.iconst 0, 1) := by decide +kernel
theorem dX6_areThere_27 : decode cX6_areThere 27 = .ok (.ireturn, 1) := by decide +kernel
theorem dX6_elementOrDefault_0 : decode cX6_elementOrDefault 0 = .ok (.aload_n 0, 1) := by decide +kernel
theorem dX6_elementOrDefault_1 : decode cX6_elementOrDefault 1 = .ok (.getfield 27, 3) := by decide +kernel
theorem dX6_elementOrDefault_4 : decode cX6_elementOrDefault 4 = .ok (.getfield 70, 3) := by decide +kernel
theorem dX6_elementOrDefault_7 : decode cX6_elementOrDefault 7 = .ok (.iload_n 1, 1) := by decide +kernel
theorem dX6_elementOrDefault_8 : decode cX6_elementOrDefault 8 = .ok (.aaload, 1) := by decide +kernel
theorem dX6_elementOrDefault_9 : decode cX6_elementOrDefault 9 = .ok (.iload_n 2, 1) := by decide +kernel
theorem dX6_elementOrDefault_10 : decode cX6_elementOrDefault 10 = .ok (.invokevirtual 96, 3) := by decide +kernel
theorem dX6_elementOrDefault_13 : decode cX6_elementOrDefault 13 = .ok (.astore 4, 2) := by decide +kernel
theorem dX6_elementOrDefault_15 : decode cX6_elementOrDefault 15 = .ok (.aload 4, 2) := by decide +kernel
theorem dX6_elementOrDefault_17 : decode cX6_elementOrDefault 17 = .ok (.ifnonnull 7, 3) := by decide +kernel
theorem dX6_elementOrDefault_20 : decode cX6_elementOrDefault 20 = .ok (.aconst_null, 1) := by decide +kernel
theorem dX6_elementOrDefault_21 : decode cX6_elementOrDefault 21 = .ok (.goto 12, 3) := by decide +kernel
theorem dX6_elementOrDefault_24 : decode cX6_elementOrDefault 24 = .ok (.aload 4, 2) := by decide +kernel
theorem dX6_elementOrDefault_26 : decode cX6_elementOrDefault 26 = .ok (.getfield 118, 3) := by decide +kernel
theorem dX6_elementOrDefault_29 : decode cX6_elementOrDefault 29 = .ok (.iload_n 3, 1) := by decide +kernel
theorem dX6_elementOrDefault_30 : decode cX6_elementOrDefault 30 = .ok (.invokevirtual 133, 3) := by decide +kernel
theorem dX6_elementOrDefault_33 : decode cX6_elementOrDefault 33 = .ok (.astore 5, 2) := by decide +kernel
theorem dX6_elementOrDefault_35 : decode cX6_elementOrDefault 35 = .ok (.aload_n 0, 1) := by decide +kernel
theorem dX6_elementOrDefault_36 : decode cX6_elementOrDefault 36 = .ok (.getfield 27, 3) := by decide +kernel
theorem dX6_elementOrDefault_39 : decode cX6_elementOrDefault 39 = .ok (.iload_n 2, 1) := by decide +kernel
theorem dX6_elementOrDefault_40 : decode cX6_elementOrDefault 40 = .ok (.invokevirtual 65, 3) := by decide +kernel
theorem dX6_elementOrDefault_43 : decode cX6_elementOrDefault 43 = .ok (.istore 6, 2) := by decide +kernel
theorem dX6_elementOrDefault_45 : decode cX6_elementOrDefault 45 = .ok (.aload 5, 2) := by decide +kernel
theorem dX6_elementOrDefault_47 : decode cX6_elementOrDefault 47 = .ok (.ifnonnull 28, 3) := by decide +kernel
theorem dX6_elementOrDefault_50 : decode cX6_elementOrDefault 50 = .ok (.iload 6, 2) := by decide +kernel
theorem dX6_elementOrDefault_52 : decode cX6_elementOrDefault 52 = .ok (.iconst (-1), 1) := by decide +kernel
theorem dX6_elementOrDefault_53 : decode cX6_elementOrDefault 53 = .ok (.if_icmp .eq 22, 3) := by decide +kernel
theorem dX6_elementOrDefault_56 : decode cX6_elementOrDefault 56 = .ok (.aload_n 0, 1) := by decide +kernel
theorem dX6_elementOrDefault_57 : decode cX6_elementOrDefault 57 = .ok (.getfield 27, 3) := by decide +kernel
theorem dX6_elementOrDefault_60 : decode cX6_elementOrDefault 60 = .ok (.getfield 70, 3) := by decide +kernel
theorem dX6_elementOrDefault_63 : decode cX6_elementOrDefault 63 = .ok (.iload 6, 2) := by decide +kernel
theorem dX6_elementOrDefault_65 : decode cX6_elementOrDefault 65 = .ok (.aaload, 1) := by decide +kernel
theorem dX6_elementOrDefault_66 : decode cX6_elementOrDefault 66 = .ok (.getfield 136, 3) := by decide +kernel
theorem dX6_elementOrDefault_69 : decode cX6_elementOrDefault 69 = .ok (.iload_n 3, 1) := by decide +kernel
theorem dX6_elementOrDefault_70 : decode cX6_elementOrDefault 70 = .ok (.invokevirtual 133, 3) := by decide +kernel
theorem dX6_elementOrDefault_73 : decode cX6_elementOrDefault 73 = .ok (.astore 5, 2) := by decide +kernel
theorem dX6_elementOrDefault_75 : decode cX6_elementOrDefault 75 = .ok (.aload 5, 2) := by decide +kernel
theorem dX6_elementOrDefault_77 : decode cX6_elementOrDefault 77 = .ok (.areturn, 1) := by decide +kernel
