theorem dX9_init_0 : decode cX9_init 0 = .ok (.aload_n 0, 1) := by decide +kernel
theorem dX9_init_1 : decode cX9_init 1 = .ok (.invokespecial 1, 3) := by decide +kernel
theorem dX9_init_4 : decode cX9_init 4 = .ok (.aload_n 0, 1) := by decide +kernel
theorem dX9_init_5 : decode cX9_init 5 = .ok (.bipush 8, 2) := by decide +kernel
theorem dX9_init_7 : decode cX9_init 7 = .ok (.anewarray 9, 3) := by decide +kernel
theorem dX9_init_10 : decode cX9_init 10 = .ok (.putfield 11, 3) := by decide +kernel
theorem dX9_init_13 : decode cX9_init 13 = .ok (.aload_n 0, 1) := by decide +kernel
theorem dX9_init_14 : decode cX9_init 14 = .ok (.bipush 100, 2) := by decide +kernel
theorem dX9_init_16 : decode cX9_init 16 = .ok (.anewarray 15, 3) := by decide +kernel
theorem dX9_init_19 : decode cX9_init 19 = .ok (.putfield 17, 3) := by decide +kernel
theorem dX9_init_22 : decode cX9_init 22 = .ok (.aload_n 0, 1) := by decide +kernel
theorem dX9_init_23 : decode cX9_init 23 = .ok (.new 21, 3) := by decide +kernel
theorem dX9_init_26 : decode cX9_init 26 = .ok (.dup, 1) := by decide +kernel
theorem dX9_init_27 : decode cX9_init 27 = .ok (.invokespecial 23, 3) := by decide +kernel
theorem dX9_init_30 : decode cX9_init 30 = .ok (.putfield 24, 3) := by decide +kernel
theorem dX9_init_33 : decode cX9_init 33 = .ok (.aload_n 0, 1) := by decide +kernel
theorem dX9_init_34 : decode cX9_init 34 = .ok (.new 28, 3) := by decide +kernel
theorem dX9_init_37 : decode cX9_init 37 = .ok (.dup, 1) := by decide +kernel
theorem dX9_init_38 : decode cX9_init 38 = .ok (.invokespecial 30, 3) := by decide +kernel
theorem dX9_init_41 : decode cX9_init 41 = .ok (.putfield 31, 3) := by decide +kernel
theorem dX9_init_44 : decode cX9_init 44 = .ok (.aload_n 0, 1) := by decide +kernel
theorem dX9_init_45 : decode cX9_init 45 = .ok (.new 35, 3) := by decide +kernel
theorem dX9_init_48 : decode cX9_init 48 = .ok (.dup, 1) := by decide +kernel
theorem dX9_init_49 : decode cX9_init 49 = .ok (.invokespecial 37, 3) := by decide +kernel
theorem dX9_init_52 : decode cX9_init 52 = .ok (.putfield 38, 3) := by decide +kernel
theorem dX9_init_55 : decode cX9_init 55 = .ok (.aload_n 0, 1) := by decide +kernel
theorem dX9_init_56 : decode cX9_init 56 = .ok (.new 42, 3) := by decide +kernel
theorem dX9_init_59 : decode cX9_init 59 = .ok (.dup, 1) := by decide +kernel
theorem dX9_init_60 : decode cX9_init 60 = .ok (.invokespecial 44, 3) := by decide +kernel
theorem dX9_init_63 : decode cX9_init 63 = .ok (.putfield 45, 3) := by decide +kernel
theorem dX9_init_66 : decode cX9_init 66 = .ok (.aload_n 0, 1) := by decide +kernel
theorem dX9_init_67 : decode cX9_init 67 = .ok (.new 49, 3) := by decide +kernel
theorem dX9_init_70 : decode cX9_init 70 = .ok (.dup, 1) := by decide +kernel
theorem dX9_init_71 : decode cX9_init 71 = .ok (.invokespecial 51, 3) := by decide +kernel
theorem dX9_init_74 : decode cX9_init 74 = .ok (.putfield 52, 3) := by decide +kernel
theorem dX9_init_77 : decode cX9_init 77 = .ok (.aload_n 0, 1) := by decide +kernel
theorem dX9_init_78 : decode cX9_init 78 = .ok (.new 56, 3) := by decide +kernel
theorem dX9_init_81 : decode cX9_init 81 = .ok (.dup, 1) := by decide +kernel
theorem dX9_init_82 : decode cX9_init 82 = .ok (.invokespecial 58, 3) := by decide +kernel
theorem dX9_init_85 : decode cX9_init 85 = .ok (.putfield 59, 3) := by decide +kernel
theorem dX9_init_88 : decode cX9_init 88 = .ok (.aload_n 0, 1) := by decide +kernel
theorem dX9_init_89 : decode cX9_init 89 = .ok (.bipush 40, 2) := by decide +kernel
theorem dX9_init_91 : decode cX9_init 91 = .ok (.newarray .int, 2) := by decide +kernel
theorem dX9_init_93 : decode cX9_init 93 = .ok (.putfield 63, 3) := by decide +kernel
theorem dX9_init_96 : decode cX9_init 96 = .ok (.return_, 1) := by decide +kernel
theorem dX9_box_0 : decode cX9_box 0 = .ok (.iload_n 1, 1) := by decide +kernel
theorem dX9_box_1 : decode cX9_box 1 = .ok (.ifCond .lt 8, 3) := by decide +kernel
theorem dX9_box_4 : decode cX9_box 4 = .ok (.iload_n 1, 1) := by decide +kernel
theorem dX9_box_5 : decode cX9_box 5 = .ok (.iconst 3, 1) := by decide +kernel
theorem dX9_box_6 : decode cX9_box 6 = .ok (.if_icmp .lt 13, 3) := by decide +kernel
theorem dX9_box_9 : decode cX9_box 9 = .ok (.new 67, 3) := by decide +kernel
theorem dX9_box_12 : decode cX9_box 12 = .ok (.dup, 1) := by decide +kernel
theorem dX9_box_13 : decode cX9_box 13 = .ok (.ldc 69, 2) := by decide +kernel
theorem dX9_box_15 : decode cX9_box 15 = .ok (.invokespecial 71, 3) := by decide +kernel
theorem dX9_box_18 : decode cX9_box 18 = .ok (.athrow, 1) := by decide +kernel
theorem dX9_box_19 : decode cX9_box 19 = .ok (.aload_n 0, 1) := by decide +kernel
theorem dX9_box_20 : decode cX9_box 20 = .ok (.getfield 74, 3) := by decide +kernel
theorem dX9_box_23 : decode cX9_box 23 = .ok (.bipush 8, 2) := by decide +kernel
theorem dX9_box_25 : decode cX9_box 25 = .ok (.if_icmp .lt 13, 3) := by decide +kernel
theorem dX9_box_28 : decode cX9_box 28 = .ok (.new 78, 3) := by decide +kernel
theorem dX9_box_31 : decode cX9_box 31 = .ok (.dup, 1) := by decide +kernel
theorem dX9_box_32 : decode cX9_box 32 = .ok (.ldc 80, 2) := by decide +kernel
theorem dX9_box_34 : decode cX9_box 34 = .ok (.invokespecial 82, 3) := by decide +kernel
theorem dX9_box_37 : decode cX9_box 37 = .ok (.athrow, 1) := by decide +kernel
theorem dX9_box_38 : decode cX9_box 38 = .ok (.aload_n 0, 1) := by decide +kernel
theorem dX9_box_39 : decode cX9_box 39 = .ok (.getfield 11, 3) := by decide +kernel
theorem dX9_box_42 : decode cX9_box 42 = .ok (.aload_n 0, 1) := by decide +kernel
theorem dX9_box_43 : decode cX9_box 43 = .ok (.getfield 74, 3) := by decide +kernel
theorem dX9_box_46 : decode cX9_box 46 = .ok (.new 9, 3) := by decide +kernel
theorem dX9_box_49 : decode cX9_box 49 = .ok (.dup, 1) := by decide +kernel
theorem dX9_box_50 : decode cX9_box 50 = .ok (.iload_n 1, 1) := by decide +kernel
theorem dX9_box_51 : decode cX9_box 51 = .ok (.invokespecial 83, 3) := by decide +kernel
theorem dX9_box_54 : decode cX9_box 54 = .ok (.aastore, 1) := by decide +kernel
theorem dX9_box_55 : decode cX9_box 55 = .ok (.aload_n 0, 1) := by decide +kernel
theorem dX9_box_56 : decode cX9_box 56 = .ok (.dup, 1) := by decide +kernel
theorem dX9_box_57 : decode cX9_box 57 = .ok (.getfield 74, 3) := by decide +kernel
theorem dX9_box_60 : decode cX9_box 60 = .ok (.iconst 1, 1) := by decide +kernel
theorem dX9_box_61 : decode cX9_box 61 = .ok (.iadd, 1) := by decide +kernel
theorem dX9_box_62 : decode cX9_box 62 = .ok (.putfield 74, 3) := by decide +kernel
theorem dX9_box_65 : decode cX9_box 65 = .ok (.aload_n 0, 1) := by decide +kernel
theorem dX9_box_66 : decode cX9_box 66 = .ok (.getfield 74, 3) := by decide +kernel
theorem dX9_box_69 : decode cX9_box 69 = .ok (.iconst 1, 1) := by decide +kernel
theorem dX9_box_70 : decode cX9_box 70 = .ok (.isub, 1) := by decide +kernel
theorem dX9_box_71 : decode cX9_box 71 = .ok (.ireturn, 1) := by decide +kernel
theorem dX9_row_0 : decode cX9_row 0 = .ok (.aload_n 0, 1) := by decide +kernel
theorem dX9_row_1 : decode cX9_row 1 = .ok (.iload_n 1, 1) := by decide +kernel
theorem dX9_row_2 : decode cX9_row 2 = .ok (.iload_n 2, 1) := by decide +kernel
theorem dX9_row_3 : decode cX9_row 3 = .ok (.invokevirtual 86, 3) := by decide +kernel
theorem dX9_row_6 : decode cX9_row 6 = .ok (.astore 4, 2) := by decide +kernel
theorem dX9_row_8 : decode cX9_row 8 = .ok (.iload_n 3, 1) := by decide +kernel
theorem dX9_row_9 : decode cX9_row 9 = .ok (.ifCond .lt 9, 3) := by decide +kernel
theorem dX9_row_12 : decode cX9_row 12 = .ok (.iload_n 3, 1) := by decide +kernel
theorem dX9_row_13 : decode cX9_row 13 = .ok (.bipush 30, 2) := by decide +kernel
theorem dX9_row_15 : decode cX9_row 15 = .ok (.if_icmp .le 5, 3) := by decide +kernel
theorem dX9_row_18 : decode cX9_row 18 = .ok (.iconst (-1), 1) := by decide +kernel
theorem dX9_row_19 : decode cX9_row 19 = .ok (.ireturn, 1) := by decide +kernel
theorem dX9_row_20 : decode cX9_row 20 = .ok (.aload 4, 2) := by decide +kernel
theorem dX9_row_22 : decode cX9_row 22 = .ok (.iload_n 2, 1) := by decide +kernel
theorem dX9_row_23 : decode cX9_row 23 = .ok (.iload_n 3, 1) := by decide +kernel
theorem dX9_row_24 : decode cX9_row 24 = .ok (.invokevirtual 90, 3) := by decide +kernel
theorem dX9_row_27 : decode cX9_row 27 = .ok (.iload_n 3, 1) := by decide +kernel
theorem dX9_row_28 : decode cX9_row 28 = .ok (.ireturn, 1) := by decide +kernel
theorem dX9_put_0 : decode cX9_put 0 = .ok (.aload_n 0, 1) := by decide +kernel
theorem dX9_put_1 : decode cX9_put 1 = .ok (.iload_n 1, 1) := by decide +kernel
theorem dX9_put_2 : decode cX9_put 2 = .ok (.iload_n 2, 1) := by decide +kernel
theorem dX9_put_3 : decode cX9_put 3 = .ok (.invokevirtual 86, 3) := by decide +kernel
theorem dX9_put_6 : decode cX9_put 6 = .ok (.astore 6, 2) := by decide +kernel
theorem dX9_put_8 : decode cX9_put 8 = .ok (.aload 6, 2) := by decide +kernel
theorem dX9_put_10 : decode cX9_put 10 = .ok (.iload_n 2, 1) := by decide +kernel
theorem dX9_put_11 : decode cX9_put 11 = .ok (.invokevirtual 94, 3) := by decide +kernel
theorem dX9_put_14 : decode cX9_put 14 = .ok (.istore 7, 2) := by decide +kernel
theorem dX9_put_16 : decode cX9_put 16 = .ok (.iload 7, 2) := by decide +kernel
theorem dX9_put_18 : decode cX9_put 18 = .ok (.iconst (-1), 1) := by decide +kernel
theorem dX9_put_19 : decode cX9_put 19 = .ok (.if_icmp .ne 5, 3) := by decide +kernel
theorem dX9_put_22 : decode cX9_put 22 = .ok (.iconst (-1), 1) := by decide +kernel
theorem dX9_put_23 : decode cX9_put 23 = .ok (.ireturn, 1) := by decide +kernel
theorem dX9_put_24 : decode cX9_put 24 = .ok (.iload_n 3, 1) := by decide +kernel
theorem dX9_put_25 : decode cX9_put 25 = .ok (.ifCond .lt 9, 3) := by decide +kernel
theorem dX9_put_28 : decode cX9_put 28 = .ok (.iload_n 3, 1) := by decide +kernel
theorem dX9_put_29 : decode cX9_put 29 = .ok (.iload 7, 2) := by decide +kernel
theorem dX9_put_31 : decode cX9_put 31 = .ok (.if_icmp .lt 6, 3) := by decide +kernel
theorem dX9_put_34 : decode cX9_put 34 = .ok (.bipush (-2), 2) := by decide +kernel
theorem dX9_put_36 : decode cX9_put 36 = .ok (.ireturn, 1) := by decide +kernel
theorem dX9_put_37 : decode cX9_put 37 = .ok (.aload 6, 2) := by decide +kernel
theorem dX9_put_39 : decode cX9_put 39 = .ok (.iload_n 2, 1) := by decide +kernel
theorem dX9_put_40 : decode cX9_put 40 = .ok (.iload_n 3, 1) := by decide +kernel
theorem dX9_put_41 : decode cX9_put 41 = .ok (.lload 4, 2) := by decide +kernel
theorem dX9_put_43 : decode cX9_put 43 = .ok (.invokevirtual 98, 3) := by decide +kernel
theorem dX9_put_46 : decode cX9_put 46 = .ok (.iconst 1, 1) := by decide +kernel
theorem dX9_put_47 : decode cX9_put 47 = .ok (.ireturn, 1) := by decide +kernel
theorem dX9_copy_0 : decode cX9_copy 0 = .ok (.aload_n 0, 1) := by decide +kernel
theorem dX9_copy_1 : decode cX9_copy 1 = .ok (.iload_n 1, 1) := by decide +kernel
theorem dX9_copy_2 : decode cX9_copy 2 = .ok (.iload_n 2, 1) := by decide +kernel
theorem dX9_copy_3 : decode cX9_copy 3 = .ok (.invokevirtual 86, 3) := by decide +kernel
theorem dX9_copy_6 : decode cX9_copy 6 = .ok (.astore 8, 2) := by decide +kernel
theorem dX9_copy_8 : decode cX9_copy 8 = .ok (.aload_n 0, 1) := by decide +kernel
theorem dX9_copy_9 : decode cX9_copy 9 = .ok (.iload 4, 2) := by decide +kernel
theorem dX9_copy_11 : decode cX9_copy 11 = .ok (.iload 5, 2) := by decide +kernel
theorem dX9_copy_13 : decode cX9_copy 13 = .ok (.invokevirtual 86, 3) := by decide +kernel
theorem dX9_copy_16 : decode cX9_copy 16 = .ok (.astore 9, 2) := by decide +kernel
theorem dX9_copy_18 : decode cX9_copy 18 = .ok (.aload 8, 2) := by decide +kernel
theorem dX9_copy_20 : decode cX9_copy 20 = .ok (.iload_n 2, 1) := by decide +kernel
theorem dX9_copy_21 : decode cX9_copy 21 = .ok (.invokevirtual 94, 3) := by decide +kernel
theorem dX9_copy_24 : decode cX9_copy 24 = .ok (.istore 10, 2) := by decide +kernel
theorem dX9_copy_26 : decode cX9_copy 26 = .ok (.aload 9, 2) := by decide +kernel
theorem dX9_copy_28 : decode cX9_copy 28 = .ok (.iload 5, 2) := by decide +kernel
theorem dX9_copy_30 : decode cX9_copy 30 = .ok (.invokevirtual 94, 3) := by decide +kernel
theorem dX9_copy_33 : decode cX9_copy 33 = .ok (.istore 11, 2) := by decide +kernel
theorem dX9_copy_35 : decode cX9_copy 35 = .ok (.iload 10, 2) := by decide +kernel
theorem dX9_copy_37 : decode cX9_copy 37 = .ok (.iconst (-1), 1) := by decide +kernel
theorem dX9_copy_38 : decode cX9_copy 38 = .ok (.if_icmp .eq 9, 3) := by decide +kernel
theorem dX9_copy_41 : decode cX9_copy 41 = .ok (.iload 11, 2) := by decide +kernel
theorem dX9_copy_43 : decode cX9_copy 43 = .ok (.iconst (-1), 1) := by decide +kernel
theorem dX9_copy_44 : decode cX9_copy 44 = .ok (.if_icmp .ne 5, 3) := by decide +kernel
theorem dX9_copy_47 : decode cX9_copy 47 = .ok (.iconst (-1), 1) := by decide +kernel
theorem dX9_copy_48 : decode cX9_copy 48 = .ok (.ireturn, 1) := by decide +kernel
theorem dX9_copy_49 : decode cX9_copy 49 = .ok (.iload_n 3, 1) := by decide +kernel
theorem dX9_copy_50 : decode cX9_copy 50 = .ok (.ifCond .lt 32, 3) := by decide +kernel
theorem dX9_copy_53 : decode cX9_copy 53 = .ok (.iload 6, 2) := by decide +kernel
theorem dX9_copy_55 : decode cX9_copy 55 = .ok (.ifCond .lt 27, 3) := by decide +kernel
theorem dX9_copy_58 : decode cX9_copy 58 = .ok (.iload 7, 2) := by decide +kernel
theorem dX9_copy_60 : decode cX9_copy 60 = .ok (.ifCond .lt 22, 3) := by decide +kernel
theorem dX9_copy_63 : decode cX9_copy 63 = .ok (.iload_n 3, 1) := by decide +kernel
theorem dX9_copy_64 : decode cX9_copy 64 = .ok (.iload 10, 2) := by decide +kernel
theorem dX9_copy_66 : decode cX9_copy 66 = .ok (.iload 7, 2) := by decide +kernel
theorem dX9_copy_68 : decode cX9_copy 68 = .ok (.isub, 1) := by decide +kernel
theorem dX9_copy_69 : decode cX9_copy 69 = .ok (.if_icmp .gt 13, 3) := by decide +kernel
theorem dX9_copy_72 : decode cX9_copy 72 = .ok (.iload 6, 2) := by decide +kernel
theorem dX9_copy_74 : decode cX9_copy 74 = .ok (.iload 11, 2) := by decide +kernel
theorem dX9_copy_76 : decode cX9_copy 76 = .ok (.iload 7, 2) := by decide +kernel
theorem dX9_copy_78 : decode cX9_copy 78 = .ok (.isub, 1) := by decide +kernel
theorem dX9_copy_79 : decode cX9_copy 79 = .ok (.if_icmp .le 6, 3) := by decide +kernel
theorem dX9_copy_82 : decode cX9_copy 82 = .ok (.bipush (-2), 2) := by decide +kernel
theorem dX9_copy_84 : decode cX9_copy 84 = .ok (.ireturn, 1) := by decide +kernel
theorem dX9_copy_85 : decode cX9_copy 85 = .ok (.aload 8, 2) := by decide +kernel
theorem dX9_copy_87 : decode cX9_copy 87 = .ok (.getfield 102, 3) := by decide +kernel
theorem dX9_copy_90 : decode cX9_copy 90 = .ok (.aload 9, 2) := by decide +kernel
theorem dX9_copy_92 : decode cX9_copy 92 = .ok (.getfield 102, 3) := by decide +kernel
theorem dX9_copy_95 : decode cX9_copy 95 = .ok (.if_icmp .eq 6, 3) := by decide +kernel
theorem dX9_copy_98 : decode cX9_copy 98 = .ok (.bipush (-3), 2) := by decide +kernel
theorem dX9_copy_100 : decode cX9_copy 100 = .ok (.ireturn, 1) := by decide +kernel
theorem dX9_copy_101 : decode cX9_copy 101 = .ok (.aload 8, 2) := by decide +kernel
theorem dX9_copy_103 : decode cX9_copy 103 = .ok (.getfield 105, 3) := by decide +kernel
theorem dX9_copy_106 : decode cX9_copy 106 = .ok (.iload_n 2, 1) := by decide +kernel
theorem dX9_copy_107 : decode cX9_copy 107 = .ok (.bipush 30, 2) := by decide +kernel
theorem dX9_copy_109 : decode cX9_copy 109 = .ok (.imul, 1) := by decide +kernel
theorem dX9_copy_110 : decode cX9_copy 110 = .ok (.iload_n 3, 1) := by decide +kernel
theorem dX9_copy_111 : decode cX9_copy 111 = .ok (.iadd, 1) := by decide +kernel
theorem dX9_copy_112 : decode cX9_copy 112 = .ok (.aload 9, 2) := by decide +kernel
theorem dX9_copy_114 : decode cX9_copy 114 = .ok (.getfield 105, 3) := by decide +kernel
theorem dX9_copy_117 : decode cX9_copy 117 = .ok (.iload 5, 2) := by decide +kernel
theorem dX9_copy_119 : decode cX9_copy 119 = .ok (.bipush 30, 2) := by decide +kernel
theorem dX9_copy_121 : decode cX9_copy 121 = .ok (.imul, 1) := by decide +kernel
theorem dX9_copy_122 : decode cX9_copy 122 = .ok (.iload 6, 2) := by decide +kernel
theorem dX9_copy_124 : decode cX9_copy 124 = .ok (.iadd, 1) := by decide +kernel
theorem dX9_copy_125 : decode cX9_copy 125 = .ok (.iload 7, 2) := by decide +kernel
theorem dX9_copy_127 : decode cX9_copy 127 = .ok (.invokestatic 109, 3) := by decide +kernel
theorem dX9_copy_130 : decode cX9_copy 130 = .ok (.iload 7, 2) := by decide +kernel
theorem dX9_copy_132 : decode cX9_copy 132 = .ok (.ireturn, 1) := by decide +kernel
theorem dX9_tear_0 : decode cX9_tear 0 = .ok (.aload_n 0, 1) := by decide +kernel
theorem dX9_tear_1 : decode cX9_tear 1 = .ok (.iload_n 1, 1) := by decide +kernel
theorem dX9_tear_2 : decode cX9_tear 2 = .ok (.iload_n 2, 1) := by decide +kernel
theorem dX9_tear_3 : decode cX9_tear 3 = .ok (.invokevirtual 86, 3) := by decide +kernel
theorem dX9_tear_6 : decode cX9_tear 6 = .ok (.iload_n 2, 1) := by decide +kernel
theorem dX9_tear_7 : decode cX9_tear 7 = .ok (.invokevirtual 115, 3) := by decide +kernel
theorem dX9_tear_10 : decode cX9_tear 10 = .ok (.ireturn, 1) := by decide +kernel
theorem dX9_lay_0 : decode cX9_lay 0 = .ok (.aload_n 0, 1) := by decide +kernel
theorem dX9_lay_1 : decode cX9_lay 1 = .ok (.iload_n 2, 1) := by decide +kernel
theorem dX9_lay_2 : decode cX9_lay 2 = .ok (.iload_n 3, 1) := by decide +kernel
theorem dX9_lay_3 : decode cX9_lay 3 = .ok (.invokevirtual 86, 3) := by decide +kernel
theorem dX9_lay_6 : decode cX9_lay 6 = .ok (.astore 6, 2) := by decide +kernel
theorem dX9_lay_8 : decode cX9_lay 8 = .ok (.iload_n 1, 1) := by decide +kernel
theorem dX9_lay_9 : decode cX9_lay 9 = .ok (.iload 4, 2) := by decide +kernel
theorem dX9_lay_11 : decode cX9_lay 11 = .ok (.iload 5, 2) := by decide +kernel
theorem dX9_lay_13 : decode cX9_lay 13 = .ok (.invokestatic 118, 3) := by decide +kernel
theorem dX9_lay_16 : decode cX9_lay 16 = .ok (.ifCond .ne 13, 3) := by decide +kernel
theorem dX9_lay_19 : decode cX9_lay 19 = .ok (.new 67, 3) := by decide +kernel
theorem dX9_lay_22 : decode cX9_lay 22 = .ok (.dup, 1) := by decide +kernel
theorem dX9_lay_23 : decode cX9_lay 23 = .ok (.ldc 122, 2) := by decide +kernel
theorem dX9_lay_25 : decode cX9_lay 25 = .ok (.invokespecial 71, 3) := by decide +kernel
theorem dX9_lay_28 : decode cX9_lay 28 = .ok (.athrow, 1) := by decide +kernel
theorem dX9_lay_29 : decode cX9_lay 29 = .ok (.new 15, 3) := by decide +kernel
theorem dX9_lay_32 : decode cX9_lay 32 = .ok (.dup, 1) := by decide +kernel
theorem dX9_lay_33 : decode cX9_lay 33 = .ok (.iload_n 1, 1) := by decide +kernel
theorem dX9_lay_34 : decode cX9_lay 34 = .ok (.iload 4, 2) := by decide +kernel
theorem dX9_lay_36 : decode cX9_lay 36 = .ok (.iload 5, 2) := by decide +kernel
theorem dX9_lay_38 : decode cX9_lay 38 = .ok (.invokespecial 124, 3) := by decide +kernel
theorem dX9_lay_41 : decode cX9_lay 41 = .ok (.astore 7, 2) := by decide +kernel
theorem dX9_lay_43 : decode cX9_lay 43 = .ok (.aload 7, 2) := by decide +kernel
theorem dX9_lay_45 : decode cX9_lay 45 = .ok (.aload 6, 2) := by decide +kernel
theorem dX9_lay_47 : decode cX9_lay 47 = .ok (.iload_n 3, 1) := by decide +kernel
theorem dX9_lay_48 : decode cX9_lay 48 = .ok (.invokevirtual 127, 3) := by decide +kernel
theorem dX9_lay_51 : decode cX9_lay 51 = .ok (.istore 8, 2) := by decide +kernel
theorem dX9_lay_53 : decode cX9_lay 53 = .ok (.iload 8, 2) := by decide +kernel
theorem dX9_lay_55 : decode cX9_lay 55 = .ok (.ifCond .eq 6, 3) := by decide +kernel
theorem dX9_lay_58 : decode cX9_lay 58 = .ok (.iload 8, 2) := by decide +kernel
theorem dX9_lay_60 : decode cX9_lay 60 = .ok (.ireturn, 1) := by decide +kernel
theorem dX9_lay_61 : decode cX9_lay 61 = .ok (.aload_n 0, 1) := by decide +kernel
theorem dX9_lay_62 : decode cX9_lay 62 = .ok (.getfield 131, 3) := by decide +kernel
theorem dX9_lay_65 : decode cX9_lay 65 = .ok (.bipush 40, 2) := by decide +kernel
theorem dX9_lay_67 : decode cX9_lay 67 = .ok (.if_icmp .ge 12, 3) := by decide +kernel
theorem dX9_lay_70 : decode cX9_lay 70 = .ok (.aload_n 0, 1) := by decide +kernel
theorem dX9_lay_71 : decode cX9_lay 71 = .ok (.getfield 134, 3) := by decide +kernel
theorem dX9_lay_74 : decode cX9_lay 74 = .ok (.bipush 100, 2) := by decide +kernel
theorem dX9_lay_76 : decode cX9_lay 76 = .ok (.if_icmp .lt 6, 3) := by decide +kernel
theorem dX9_lay_79 : decode cX9_lay 79 = .ok (.bipush (-5), 2) := by decide +kernel
theorem dX9_lay_81 : decode cX9_lay 81 = .ok (.ireturn, 1) := by decide +kernel
theorem dX9_lay_82 : decode cX9_lay 82 = .ok (.aload_n 0, 1) := by decide +kernel
theorem dX9_lay_83 : decode cX9_lay 83 = .ok (.aload 7, 2) := by decide +kernel
theorem dX9_lay_85 : decode cX9_lay 85 = .ok (.invokevirtual 137, 3) := by decide +kernel
theorem dX9_lay_88 : decode cX9_lay 88 = .ok (.istore 9, 2) := by decide +kernel
theorem dX9_lay_90 : decode cX9_lay 90 = .ok (.iload 9, 2) := by decide +kernel
theorem dX9_lay_92 : decode cX9_lay 92 = .ok (.iconst (-1), 1) := by decide +kernel
theorem dX9_lay_93 : decode cX9_lay 93 = .ok (.if_icmp .eq 9, 3) := by decide +kernel
theorem dX9_lay_96 : decode cX9_lay 96 = .ok (.bipush (-10), 2) := by decide +kernel
theorem dX9_lay_98 : decode cX9_lay 98 = .ok (.iload 9, 2) := by decide +kernel
theorem dX9_lay_100 : decode cX9_lay 100 = .ok (.isub, 1) := by decide +kernel
theorem dX9_lay_101 : decode cX9_lay 101 = .ok (.ireturn, 1) := by decide +kernel
theorem dX9_lay_102 : decode cX9_lay 102 = .ok (.aload_n 0, 1) := by decide +kernel
theorem dX9_lay_103 : decode cX9_lay 103 = .ok (.getfield 134, 3) := by decide +kernel
theorem dX9_lay_106 : decode cX9_lay 106 = .ok (.istore 10, 2) := by decide +kernel
theorem dX9_lay_108 : decode cX9_lay 108 = .ok (.aload_n 0, 1) := by decide +kernel
theorem dX9_lay_109 : decode cX9_lay 109 = .ok (.getfield 17, 3) := by decide +kernel
theorem dX9_lay_112 : decode cX9_lay 112 = .ok (.iload 10, 2) := by decide +kernel
theorem dX9_lay_114 : decode cX9_lay 114 = .ok (.aload 7, 2) := by decide +kernel
theorem dX9_lay_116 : decode cX9_lay 116 = .ok (.aastore, 1) := by decide +kernel
theorem dX9_lay_117 : decode cX9_lay 117 = .ok (.aload_n 0, 1) := by decide +kernel
theorem dX9_lay_118 : decode cX9_lay 118 = .ok (.dup, 1) := by decide +kernel
theorem dX9_lay_119 : decode cX9_lay 119 = .ok (.getfield 134, 3) := by decide +kernel
theorem dX9_lay_122 : decode cX9_lay 122 = .ok (.iconst 1, 1) := by decide +kernel
theorem dX9_lay_123 : decode cX9_lay 123 = .ok (.iadd, 1) := by decide +kernel
theorem dX9_lay_124 : decode cX9_lay 124 = .ok (.putfield 134, 3) := by decide +kernel
theorem dX9_lay_127 : decode cX9_lay 127 = .ok (.aload_n 0, 1) := by decide +kernel
theorem dX9_lay_128 : decode cX9_lay 128 = .ok (.aload 7, 2) := by decide +kernel
theorem dX9_lay_130 : decode cX9_lay 130 = .ok (.invokevirtual 141, 3) := by decide +kernel
theorem dX9_lay_133 : decode cX9_lay 133 = .ok (.aload_n 0, 1) := by decide +kernel
theorem dX9_lay_134 : decode cX9_lay 134 = .ok (.getfield 31, 3) := by decide +kernel
theorem dX9_lay_137 : decode cX9_lay 137 = .ok (.iconst 1, 1) := by decide +kernel
theorem dX9_lay_138 : decode cX9_lay 138 = .ok (.iload 10, 2) := by decide +kernel
theorem dX9_lay_140 : decode cX9_lay 140 = .ok (.iconst 0, 1) := by decide +kernel
theorem dX9_lay_141 : decode cX9_lay 141 = .ok (.iconst 0, 1) := by decide +kernel
theorem dX9_lay_142 : decode cX9_lay 142 = .ok (.iconst 0, 1) := by decide +kernel
theorem dX9_lay_143 : decode cX9_lay 143 = .ok (.invokevirtual 145, 3) := by decide +kernel
theorem dX9_lay_146 : decode cX9_lay 146 = .ok (.iload 10, 2) := by decide +kernel
theorem dX9_lay_148 : decode cX9_lay 148 = .ok (.ireturn, 1) := by decide +kernel
theorem dX9_move_0 : decode cX9_move 0 = .ok (.aload_n 0, 1) := by decide +kernel
theorem dX9_move_1 : decode cX9_move 1 = .ok (.iload_n 1, 1) := by decide +kernel
theorem dX9_move_2 : decode cX9_move 2 = .ok (.invokevirtual 149, 3) := by decide +kernel
theorem dX9_move_5 : decode cX9_move 5 = .ok (.astore 5, 2) := by decide +kernel
theorem dX9_move_7 : decode cX9_move 7 = .ok (.aload 5, 2) := by decide +kernel
theorem dX9_move_9 : decode cX9_move 9 = .ok (.iload_n 2, 1) := by decide +kernel
theorem dX9_move_10 : decode cX9_move 10 = .ok (.iload_n 3, 1) := by decide +kernel
theorem dX9_move_11 : decode cX9_move 11 = .ok (.iload 4, 2) := by decide +kernel
theorem dX9_move_13 : decode cX9_move 13 = .ok (.invokevirtual 153, 3) := by decide +kernel
theorem dX9_move_16 : decode cX9_move 16 = .ok (.ifCond .ne 6, 3) := by decide +kernel
theorem dX9_move_19 : decode cX9_move 19 = .ok (.bipush (-3), 2) := by decide +kernel
theorem dX9_move_21 : decode cX9_move 21 = .ok (.ireturn, 1) := by decide +kernel
theorem dX9_move_22 : decode cX9_move 22 = .ok (.aload 5, 2) := by decide +kernel
theorem dX9_move_24 : decode cX9_move 24 = .ok (.iload_n 2, 1) := by decide +kernel
theorem dX9_move_25 : decode cX9_move 25 = .ok (.iload_n 3, 1) := by decide +kernel
theorem dX9_move_26 : decode cX9_move 26 = .ok (.iload 4, 2) := by decide +kernel
theorem dX9_move_28 : decode cX9_move 28 = .ok (.invokevirtual 156, 3) := by decide +kernel
theorem dX9_move_31 : decode cX9_move 31 = .ok (.aload_n 0, 1) := by decide +kernel
theorem dX9_move_32 : decode cX9_move 32 = .ok (.aload 5, 2) := by decide +kernel
theorem dX9_move_34 : decode cX9_move 34 = .ok (.invokevirtual 137, 3) := by decide +kernel
theorem dX9_move_37 : decode cX9_move 37 = .ok (.istore 6, 2) := by decide +kernel
theorem dX9_move_39 : decode cX9_move 39 = .ok (.iload 6, 2) := by decide +kernel
theorem dX9_move_41 : decode cX9_move 41 = .ok (.iconst (-1), 1) := by decide +kernel
theorem dX9_move_42 : decode cX9_move 42 = .ok (.if_icmp .eq 21, 3) := by decide +kernel
theorem dX9_move_45 : decode cX9_move 45 = .ok (.aload 5, 2) := by decide +kernel
theorem dX9_move_47 : decode cX9_move 47 = .ok (.iload_n 2, 1) := by decide +kernel
theorem dX9_move_48 : decode cX9_move 48 = .ok (.ineg, 1) := by decide +kernel
theorem dX9_move_49 : decode cX9_move 49 = .ok (.iload_n 3, 1) := by decide +kernel
theorem dX9_move_50 : decode cX9_move 50 = .ok (.ineg, 1) := by decide +kernel
theorem dX9_move_51 : decode cX9_move 51 = .ok (.iload 4, 2) := by decide +kernel
theorem dX9_move_53 : decode cX9_move 53 = .ok (.ineg, 1) := by decide +kernel
theorem dX9_move_54 : decode cX9_move 54 = .ok (.invokevirtual 156, 3) := by decide +kernel
theorem dX9_move_57 : decode cX9_move 57 = .ok (.bipush (-10), 2) := by decide +kernel
theorem dX9_move_59 : decode cX9_move 59 = .ok (.iload 6, 2) := by decide +kernel
theorem dX9_move_61 : decode cX9_move 61 = .ok (.isub, 1) := by decide +kernel
theorem dX9_move_62 : decode cX9_move 62 = .ok (.ireturn, 1) := by decide +kernel
theorem dX9_move_63 : decode cX9_move 63 = .ok (.aload_n 0, 1) := by decide +kernel
theorem dX9_move_64 : decode cX9_move 64 = .ok (.getfield 31, 3) := by decide +kernel
theorem dX9_move_67 : decode cX9_move 67 = .ok (.iconst 2, 1) := by decide +kernel
theorem dX9_move_68 : decode cX9_move 68 = .ok (.iload_n 1, 1) := by decide +kernel
theorem dX9_move_69 : decode cX9_move 69 = .ok (.iload_n 2, 1) := by decide +kernel
theorem dX9_move_70 : decode cX9_move 70 = .ok (.iload_n 3, 1) := by decide +kernel
theorem dX9_move_71 : decode cX9_move 71 = .ok (.iload 4, 2) := by decide +kernel
theorem dX9_move_73 : decode cX9_move 73 = .ok (.invokevirtual 145, 3) := by decide +kernel
theorem dX9_move_76 : decode cX9_move 76 = .ok (.aload_n 0, 1) := by decide +kernel
theorem dX9_move_77 : decode cX9_move 77 = .ok (.invokevirtual 159, 3) := by decide +kernel
theorem dX9_move_80 : decode cX9_move 80 = .ok (.iconst 1, 1) := by decide +kernel
theorem dX9_move_81 : decode cX9_move 81 = .ok (.ireturn, 1) := by decide +kernel
theorem dX9_away_0 : decode cX9_away 0 = .ok (.aload_n 0, 1) := by decide +kernel
theorem dX9_away_1 : decode cX9_away 1 = .ok (.aload_n 0, 1) := by decide +kernel
theorem dX9_away_2 : decode cX9_away 2 = .ok (.iload_n 1, 1) := by decide +kernel
theorem dX9_away_3 : decode cX9_away 3 = .ok (.invokevirtual 149, 3) := by decide +kernel
theorem dX9_away_6 : decode cX9_away 6 = .ok (.invokevirtual 162, 3) := by decide +kernel
theorem dX9_away_9 : decode cX9_away 9 = .ok (.aload_n 0, 1) := by decide +kernel
theorem dX9_away_10 : decode cX9_away 10 = .ok (.getfield 31, 3) := by decide +kernel
theorem dX9_away_13 : decode cX9_away 13 = .ok (.iconst 3, 1) := by decide +kernel
theorem dX9_away_14 : decode cX9_away 14 = .ok (.iload_n 1, 1) := by decide +kernel
theorem dX9_away_15 : decode cX9_away 15 = .ok (.iconst 0, 1) := by decide +kernel
theorem dX9_away_16 : decode cX9_away 16 = .ok (.iconst 0, 1) := by decide +kernel
theorem dX9_away_17 : decode cX9_away 17 = .ok (.iconst 0, 1) := by decide +kernel
theorem dX9_away_18 : decode cX9_away 18 = .ok (.invokevirtual 145, 3) := by decide +kernel
theorem dX9_away_21 : decode cX9_away 21 = .ok (.aload_n 0, 1) := by decide +kernel
theorem dX9_away_22 : decode cX9_away 22 = .ok (.getfield 131, 3) := by decide +kernel
theorem dX9_away_25 : decode cX9_away 25 = .ok (.ireturn, 1) := by decide +kernel
theorem dX9_lift_0 : decode cX9_lift 0 = .ok (.aload_n 0, 1) := by decide +kernel
theorem dX9_lift_1 : decode cX9_lift 1 = .ok (.iload_n 1, 1) := by decide +kernel
theorem dX9_lift_2 : decode cX9_lift 2 = .ok (.invokevirtual 149, 3) := by decide +kernel
theorem dX9_lift_5 : decode cX9_lift 5 = .ok (.astore_n 2, 1) := by decide +kernel
theorem dX9_lift_6 : decode cX9_lift 6 = .ok (.aload_n 0, 1) := by decide +kernel
theorem dX9_lift_7 : decode cX9_lift 7 = .ok (.invokevirtual 165, 3) := by decide +kernel
theorem dX9_lift_10 : decode cX9_lift 10 = .ok (.iload_n 1, 1) := by decide +kernel
theorem dX9_lift_11 : decode cX9_lift 11 = .ok (.invokevirtual 169, 3) := by decide +kernel
theorem dX9_lift_14 : decode cX9_lift 14 = .ok (.ifCond .ne 5, 3) := by decide +kernel
theorem dX9_lift_17 : decode cX9_lift 17 = .ok (.iconst 0, 1) := by decide +kernel
theorem dX9_lift_18 : decode cX9_lift 18 = .ok (.ireturn, 1) := by decide +kernel
theorem dX9_lift_19 : decode cX9_lift 19 = .ok (.aload_n 0, 1) := by decide +kernel
theorem dX9_lift_20 : decode cX9_lift 20 = .ok (.aload_n 2, 1) := by decide +kernel
theorem dX9_lift_21 : decode cX9_lift 21 = .ok (.invokevirtual 162, 3) := by decide +kernel
theorem dX9_lift_24 : decode cX9_lift 24 = .ok (.aload_n 0, 1) := by decide +kernel
theorem dX9_lift_25 : decode cX9_lift 25 = .ok (.getfield 31, 3) := by decide +kernel
theorem dX9_lift_28 : decode cX9_lift 28 = .ok (.iconst 3, 1) := by decide +kernel
theorem dX9_lift_29 : decode cX9_lift 29 = .ok (.iload_n 1, 1) := by decide +kernel
theorem dX9_lift_30 : decode cX9_lift 30 = .ok (.iconst 0, 1) := by decide +kernel
theorem dX9_lift_31 : decode cX9_lift 31 = .ok (.iconst 0, 1) := by decide +kernel
theorem dX9_lift_32 : decode cX9_lift 32 = .ok (.iconst 0, 1) := by decide +kernel
theorem dX9_lift_33 : decode cX9_lift 33 = .ok (.invokevirtual 145, 3) := by decide +kernel
theorem dX9_lift_36 : decode cX9_lift 36 = .ok (.iconst 1, 1) := by decide +kernel
theorem dX9_lift_37 : decode cX9_lift 37 = .ok (.ireturn, 1) := by decide +kernel
theorem dX9_turn_0 : decode cX9_turn 0 = .ok (.iload_n 1, 1) := by decide +kernel
theorem dX9_turn_1 : decode cX9_turn 1 = .ok (.invokestatic 173, 3) := by decide +kernel
theorem dX9_turn_4 : decode cX9_turn 4 = .ok (.ifCond .eq 29, 3) := by decide +kernel
theorem dX9_turn_7 : decode cX9_turn 7 = .ok (.iload_n 2, 1) := by decide +kernel
theorem dX9_turn_8 : decode cX9_turn 8 = .ok (.invokestatic 173, 3) := by decide +kernel
theorem dX9_turn_11 : decode cX9_turn 11 = .ok (.ifCond .eq 22, 3) := by decide +kernel
theorem dX9_turn_14 : decode cX9_turn 14 = .ok (.iload_n 3, 1) := by decide +kernel
theorem dX9_turn_15 : decode cX9_turn 15 = .ok (.invokestatic 173, 3) := by decide +kernel
theorem dX9_turn_18 : decode cX9_turn 18 = .ok (.ifCond .eq 15, 3) := by decide +kernel
theorem dX9_turn_21 : decode cX9_turn 21 = .ok (.iload_n 1, 1) := by decide +kernel
theorem dX9_turn_22 : decode cX9_turn 22 = .ok (.ifCond .ne 21, 3) := by decide +kernel
theorem dX9_turn_25 : decode cX9_turn 25 = .ok (.iload_n 2, 1) := by decide +kernel
theorem dX9_turn_26 : decode cX9_turn 26 = .ok (.ifCond .ne 17, 3) := by decide +kernel
theorem dX9_turn_29 : decode cX9_turn 29 = .ok (.iload_n 3, 1) := by decide +kernel
theorem dX9_turn_30 : decode cX9_turn 30 = .ok (.ifCond .ne 13, 3) := by decide +kernel
theorem dX9_turn_33 : decode cX9_turn 33 = .ok (.new 67, 3) := by decide +kernel
theorem dX9_turn_36 : decode cX9_turn 36 = .ok (.dup, 1) := by decide +kernel
theorem dX9_turn_37 : decode cX9_turn 37 = .ok (.ldc 176, 2) := by decide +kernel
theorem dX9_turn_39 : decode cX9_turn 39 = .ok (.invokespecial 71, 3) := by decide +kernel
theorem dX9_turn_42 : decode cX9_turn 42 = .ok (.athrow, 1) := by decide +kernel
theorem dX9_turn_43 : decode cX9_turn 43 = .ok (.aload_n 0, 1) := by decide +kernel
theorem dX9_turn_44 : decode cX9_turn 44 = .ok (.getfield 24, 3) := by decide +kernel
theorem dX9_turn_47 : decode cX9_turn 47 = .ok (.iload_n 1, 1) := by decide +kernel
theorem dX9_turn_48 : decode cX9_turn 48 = .ok (.iload_n 2, 1) := by decide +kernel
theorem dX9_turn_49 : decode cX9_turn 49 = .ok (.iload_n 3, 1) := by decide +kernel
theorem dX9_turn_50 : decode cX9_turn 50 = .ok (.invokevirtual 178, 3) := by decide +kernel
theorem dX9_turn_53 : decode cX9_turn 53 = .ok (.aload_n 0, 1) := by decide +kernel
theorem dX9_turn_54 : decode cX9_turn 54 = .ok (.invokevirtual 159, 3) := by decide +kernel
theorem dX9_turn_57 : decode cX9_turn 57 = .ok (.return_, 1) := by decide +kernel
theorem dX9_undo_0 : decode cX9_undo 0 = .ok (.aload_n 0, 1) := by decide +kernel
theorem dX9_undo_1 : decode cX9_undo 1 = .ok (.getfield 31, 3) := by decide +kernel
theorem dX9_undo_4 : decode cX9_undo 4 = .ok (.getfield 181, 3) := by decide +kernel
theorem dX9_undo_7 : decode cX9_undo 7 = .ok (.ifCond .ne 5, 3) := by decide +kernel
theorem dX9_undo_10 : decode cX9_undo 10 = .ok (.iconst (-1), 1) := by decide +kernel
theorem dX9_undo_11 : decode cX9_undo 11 = .ok (.ireturn, 1) := by decide +kernel
theorem dX9_undo_12 : decode cX9_undo 12 = .ok (.aload_n 0, 1) := by decide +kernel
theorem dX9_undo_13 : decode cX9_undo 13 = .ok (.getfield 31, 3) := by decide +kernel
theorem dX9_undo_16 : decode cX9_undo 16 = .ok (.invokevirtual 184, 3) := by decide +kernel
theorem dX9_undo_19 : decode cX9_undo 19 = .ok (.istore_n 1, 1) := by decide +kernel
theorem dX9_undo_20 : decode cX9_undo 20 = .ok (.aload_n 0, 1) := by decide +kernel
theorem dX9_undo_21 : decode cX9_undo 21 = .ok (.getfield 31, 3) := by decide +kernel
theorem dX9_undo_24 : decode cX9_undo 24 = .ok (.getfield 188, 3) := by decide +kernel
theorem dX9_undo_27 : decode cX9_undo 27 = .ok (.iload_n 1, 1) := by decide +kernel
theorem dX9_undo_28 : decode cX9_undo 28 = .ok (.iaload, 1) := by decide +kernel
theorem dX9_undo_29 : decode cX9_undo 29 = .ok (.istore_n 2, 1) := by decide +kernel
theorem dX9_undo_30 : decode cX9_undo 30 = .ok (.aload_n 0, 1) := by decide +kernel
theorem dX9_undo_31 : decode cX9_undo 31 = .ok (.iload_n 2, 1) := by decide +kernel
theorem dX9_undo_32 : decode cX9_undo 32 = .ok (.invokevirtual 190, 3) := by decide +kernel
theorem dX9_undo_35 : decode cX9_undo 35 = .ok (.ifCond .ne 5, 3) := by decide +kernel
theorem dX9_undo_38 : decode cX9_undo 38 = .ok (.iconst (-1), 1) := by decide +kernel
theorem dX9_undo_39 : decode cX9_undo 39 = .ok (.ireturn, 1) := by decide +kernel
theorem dX9_undo_40 : decode cX9_undo 40 = .ok (.aload_n 0, 1) := by decide +kernel
theorem dX9_undo_41 : decode cX9_undo 41 = .ok (.getfield 17, 3) := by decide +kernel
theorem dX9_undo_44 : decode cX9_undo 44 = .ok (.iload_n 2, 1) := by decide +kernel
theorem dX9_undo_45 : decode cX9_undo 45 = .ok (.aaload, 1) := by decide +kernel
theorem dX9_undo_46 : decode cX9_undo 46 = .ok (.astore_n 3, 1) := by decide +kernel
theorem dX9_undo_47 : decode cX9_undo 47 = .ok (.aload_n 0, 1) := by decide +kernel
theorem dX9_undo_48 : decode cX9_undo 48 = .ok (.getfield 31, 3) := by decide +kernel
theorem dX9_undo_51 : decode cX9_undo 51 = .ok (.getfield 193, 3) := by decide +kernel
theorem dX9_undo_54 : decode cX9_undo 54 = .ok (.iload_n 1, 1) := by decide +kernel
theorem dX9_undo_55 : decode cX9_undo 55 = .ok (.iaload, 1) := by decide +kernel
theorem dX9_undo_56 : decode cX9_undo 56 = .ok (.istore 4, 2) := by decide +kernel
theorem dX9_undo_58 : decode cX9_undo 58 = .ok (.iload 4, 2) := by decide +kernel
theorem dX9_undo_60 : decode cX9_undo 60 = .ok (.iconst 1, 1) := by decide +kernel
theorem dX9_undo_61 : decode cX9_undo 61 = .ok (.if_icmp .ne 11, 3) := by decide +kernel
theorem dX9_undo_64 : decode cX9_undo 64 = .ok (.aload_n 0, 1) := by decide +kernel
theorem dX9_undo_65 : decode cX9_undo 65 = .ok (.aload_n 3, 1) := by decide +kernel
theorem dX9_undo_66 : decode cX9_undo 66 = .ok (.invokevirtual 162, 3) := by decide +kernel
theorem dX9_undo_69 : decode cX9_undo 69 = .ok (.goto 55, 3) := by decide +kernel
theorem dX9_undo_72 : decode cX9_undo 72 = .ok (.iload 4, 2) := by decide +kernel
theorem dX9_undo_74 : decode cX9_undo 74 = .ok (.iconst 2, 1) := by decide +kernel
theorem dX9_undo_75 : decode cX9_undo 75 = .ok (.if_icmp .ne 44, 3) := by decide +kernel
theorem dX9_undo_78 : decode cX9_undo 78 = .ok (.aload_n 3, 1) := by decide +kernel
theorem dX9_undo_79 : decode cX9_undo 79 = .ok (.aload_n 0, 1) := by decide +kernel
theorem dX9_undo_80 : decode cX9_undo 80 = .ok (.getfield 31, 3) := by decide +kernel
theorem dX9_undo_83 : decode cX9_undo 83 = .ok (.getfield 196, 3) := by decide +kernel
theorem dX9_undo_86 : decode cX9_undo 86 = .ok (.iload_n 1, 1) := by decide +kernel
theorem dX9_undo_87 : decode cX9_undo 87 = .ok (.iaload, 1) := by decide +kernel
theorem dX9_undo_88 : decode cX9_undo 88 = .ok (.ineg, 1) := by decide +kernel
theorem dX9_undo_89 : decode cX9_undo 89 = .ok (.aload_n 0, 1) := by decide +kernel
theorem dX9_undo_90 : decode cX9_undo 90 = .ok (.getfield 31, 3) := by decide +kernel
theorem dX9_undo_93 : decode cX9_undo 93 = .ok (.getfield 199, 3) := by decide +kernel
theorem dX9_undo_96 : decode cX9_undo 96 = .ok (.iload_n 1, 1) := by decide +kernel
theorem dX9_undo_97 : decode cX9_undo 97 = .ok (.iaload, 1) := by decide +kernel
theorem dX9_undo_98 : decode cX9_undo 98 = .ok (.ineg, 1) := by decide +kernel
theorem dX9_undo_99 : decode cX9_undo 99 = .ok (.aload_n 0, 1) := by decide +kernel
theorem dX9_undo_100 : decode cX9_undo 100 = .ok (.getfield 31, 3) := by decide +kernel
theorem dX9_undo_103 : decode cX9_undo 103 = .ok (.getfield 202, 3) := by decide +kernel
theorem dX9_undo_106 : decode cX9_undo 106 = .ok (.iload_n 1, 1) := by decide +kernel
theorem dX9_undo_107 : decode cX9_undo 107 = .ok (.iaload, 1) := by decide +kernel
theorem dX9_undo_108 : decode cX9_undo 108 = .ok (.ineg, 1) := by decide +kernel
theorem dX9_undo_109 : decode cX9_undo 109 = .ok (.invokevirtual 156, 3) := by decide +kernel
theorem dX9_undo_112 : decode cX9_undo 112 = .ok (.aload_n 0, 1) := by decide +kernel
theorem dX9_undo_113 : decode cX9_undo 113 = .ok (.invokevirtual 159, 3) := by decide +kernel
theorem dX9_undo_116 : decode cX9_undo 116 = .ok (.goto 8, 3) := by decide +kernel
theorem dX9_undo_119 : decode cX9_undo 119 = .ok (.aload_n 0, 1) := by decide +kernel
theorem dX9_undo_120 : decode cX9_undo 120 = .ok (.aload_n 3, 1) := by decide +kernel
theorem dX9_undo_121 : decode cX9_undo 121 = .ok (.invokevirtual 141, 3) := by decide +kernel
theorem dX9_undo_124 : decode cX9_undo 124 = .ok (.iload 4, 2) := by decide +kernel
theorem dX9_undo_126 : decode cX9_undo 126 = .ok (.ireturn, 1) := by decide +kernel
theorem dX9_told_0 : decode cX9_told 0 = .ok (.aload_n 0, 1) := by decide +kernel
theorem dX9_told_1 : decode cX9_told 1 = .ok (.iload_n 1, 1) := by decide +kernel
theorem dX9_told_2 : decode cX9_told 2 = .ok (.invokevirtual 149, 3) := by decide +kernel
theorem dX9_told_5 : decode cX9_told 5 = .ok (.astore_n 3, 1) := by decide +kernel
theorem dX9_told_6 : decode cX9_told 6 = .ok (.iload_n 2, 1) := by decide +kernel
theorem dX9_told_7 : decode cX9_told 7 = .ok (.tableswitch 49 0 3 #[29, 34, 39, 44], 29) := by decide +kernel
theorem dX9_told_36 : decode cX9_told 36 = .ok (.aload_n 3, 1) := by decide +kernel
theorem dX9_told_37 : decode cX9_told 37 = .ok (.getfield 205, 3) := by decide +kernel
theorem dX9_told_40 : decode cX9_told 40 = .ok (.ireturn, 1) := by decide +kernel
theorem dX9_told_41 : decode cX9_told 41 = .ok (.aload_n 3, 1) := by decide +kernel
theorem dX9_told_42 : decode cX9_told 42 = .ok (.getfield 208, 3) := by decide +kernel
theorem dX9_told_45 : decode cX9_told 45 = .ok (.ireturn, 1) := by decide +kernel
theorem dX9_told_46 : decode cX9_told 46 = .ok (.aload_n 3, 1) := by decide +kernel
theorem dX9_told_47 : decode cX9_told 47 = .ok (.getfield 211, 3) := by decide +kernel
theorem dX9_told_50 : decode cX9_told 50 = .ok (.ireturn, 1) := by decide +kernel
theorem dX9_told_51 : decode cX9_told 51 = .ok (.aload_n 3, 1) := by decide +kernel
theorem dX9_told_52 : decode cX9_told 52 = .ok (.getfield 214, 3) := by decide +kernel
theorem dX9_told_55 : decode cX9_told 55 = .ok (.ireturn, 1) := by decide +kernel
theorem dX9_told_56 : decode cX9_told 56 = .ok (.iload_n 2, 1) := by decide +kernel
theorem dX9_told_57 : decode cX9_told 57 = .ok (.iconst 4, 1) := by decide +kernel
theorem dX9_told_58 : decode cX9_told 58 = .ok (.if_icmp .lt 13, 3) := by decide +kernel
theorem dX9_told_61 : decode cX9_told 61 = .ok (.iload_n 2, 1) := by decide +kernel
theorem dX9_told_62 : decode cX9_told 62 = .ok (.iconst 4, 1) := by decide +kernel
theorem dX9_told_63 : decode cX9_told 63 = .ok (.aload_n 3, 1) := by decide +kernel
theorem dX9_told_64 : decode cX9_told 64 = .ok (.invokevirtual 217, 3) := by decide +kernel
theorem dX9_told_67 : decode cX9_told 67 = .ok (.iadd, 1) := by decide +kernel
theorem dX9_told_68 : decode cX9_told 68 = .ok (.if_icmp .lt 13, 3) := by decide +kernel
theorem dX9_told_71 : decode cX9_told 71 = .ok (.new 67, 3) := by decide +kernel
theorem dX9_told_74 : decode cX9_told 74 = .ok (.dup, 1) := by decide +kernel
theorem dX9_told_75 : decode cX9_told 75 = .ok (.ldc 220, 2) := by decide +kernel
theorem dX9_told_77 : decode cX9_told 77 = .ok (.invokespecial 71, 3) := by decide +kernel
theorem dX9_told_80 : decode cX9_told 80 = .ok (.athrow, 1) := by decide +kernel
theorem dX9_told_81 : decode cX9_told 81 = .ok (.aload_n 3, 1) := by decide +kernel
theorem dX9_told_82 : decode cX9_told 82 = .ok (.getfield 222, 3) := by decide +kernel
theorem dX9_told_85 : decode cX9_told 85 = .ok (.iload_n 2, 1) := by decide +kernel
theorem dX9_told_86 : decode cX9_told 86 = .ok (.iconst 4, 1) := by decide +kernel
theorem dX9_told_87 : decode cX9_told 87 = .ok (.isub, 1) := by decide +kernel
theorem dX9_told_88 : decode cX9_told 88 = .ok (.iaload, 1) := by decide +kernel
theorem dX9_told_89 : decode cX9_told 89 = .ok (.ireturn, 1) := by decide +kernel
theorem dX9_count_0 : decode cX9_count 0 = .ok (.iload_n 1, 1) := by decide +kernel
theorem dX9_count_1 : decode cX9_count 1 = .ok (.tableswitch 78 0 5 #[39, 44, 49, 54, 62, 70], 39) := by decide +kernel
theorem dX9_count_40 : decode cX9_count 40 = .ok (.aload_n 0, 1) := by decide +kernel
theorem dX9_count_41 : decode cX9_count 41 = .ok (.getfield 74, 3) := by decide +kernel
theorem dX9_count_44 : decode cX9_count 44 = .ok (.ireturn, 1) := by decide +kernel
theorem dX9_count_45 : decode cX9_count 45 = .ok (.aload_n 0, 1) := by decide +kernel
theorem dX9_count_46 : decode cX9_count 46 = .ok (.getfield 131, 3) := by decide +kernel
theorem dX9_count_49 : decode cX9_count 49 = .ok (.ireturn, 1) := by decide +kernel
theorem dX9_count_50 : decode cX9_count 50 = .ok (.aload_n 0, 1) := by decide +kernel
theorem dX9_count_51 : decode cX9_count 51 = .ok (.getfield 134, 3) := by decide +kernel
theorem dX9_count_54 : decode cX9_count 54 = .ok (.ireturn, 1) := by decide +kernel
theorem dX9_count_55 : decode cX9_count 55 = .ok (.aload_n 0, 1) := by decide +kernel
theorem dX9_count_56 : decode cX9_count 56 = .ok (.getfield 38, 3) := by decide +kernel
theorem dX9_count_59 : decode cX9_count 59 = .ok (.getfield 225, 3) := by decide +kernel
theorem dX9_count_62 : decode cX9_count 62 = .ok (.ireturn, 1) := by decide +kernel
theorem dX9_count_63 : decode cX9_count 63 = .ok (.aload_n 0, 1) := by decide +kernel
theorem dX9_count_64 : decode cX9_count 64 = .ok (.getfield 31, 3) := by decide +kernel
theorem dX9_count_67 : decode cX9_count 67 = .ok (.getfield 181, 3) := by decide +kernel
theorem dX9_count_70 : decode cX9_count 70 = .ok (.ireturn, 1) := by decide +kernel
theorem dX9_count_71 : decode cX9_count 71 = .ok (.aload_n 0, 1) := by decide +kernel
theorem dX9_count_72 : decode cX9_count 72 = .ok (.invokevirtual 165, 3) := by decide +kernel
theorem dX9_count_75 : decode cX9_count 75 = .ok (.invokevirtual 226, 3) := by decide +kernel
theorem dX9_count_78 : decode cX9_count 78 = .ok (.ireturn, 1) := by decide +kernel
theorem dX9_count_79 : decode cX9_count 79 = .ok (.iconst (-1), 1) := by decide +kernel
theorem dX9_count_80 : decode cX9_count 80 = .ok (.ireturn, 1) := by decide +kernel
theorem dX9_after_0 : decode cX9_after 0 = .ok (.iconst 0, 1) := by decide +kernel
theorem dX9_after_1 : decode cX9_after 1 = .ok (.istore_n 2, 1) := by decide +kernel
theorem dX9_after_2 : decode cX9_after 2 = .ok (.iload_n 2, 1) := by decide +kernel
theorem dX9_after_3 : decode cX9_after 3 = .ok (.aload_n 0, 1) := by decide +kernel
theorem dX9_after_4 : decode cX9_after 4 = .ok (.getfield 134, 3) := by decide +kernel
theorem dX9_after_7 : decode cX9_after 7 = .ok (.if_icmp .ge 24, 3) := by decide +kernel
theorem dX9_after_10 : decode cX9_after 10 = .ok (.iload_n 2, 1) := by decide +kernel
theorem dX9_after_11 : decode cX9_after 11 = .ok (.iload_n 1, 1) := by decide +kernel
theorem dX9_after_12 : decode cX9_after 12 = .ok (.if_icmp .le 13, 3) := by decide +kernel
theorem dX9_after_15 : decode cX9_after 15 = .ok (.aload_n 0, 1) := by decide +kernel
theorem dX9_after_16 : decode cX9_after 16 = .ok (.iload_n 2, 1) := by decide +kernel
theorem dX9_after_17 : decode cX9_after 17 = .ok (.invokevirtual 229, 3) := by decide +kernel
theorem dX9_after_20 : decode cX9_after 20 = .ok (.ifCond .eq 5, 3) := by decide +kernel
theorem dX9_after_23 : decode cX9_after 23 = .ok (.iload_n 2, 1) := by decide +kernel
theorem dX9_after_24 : decode cX9_after 24 = .ok (.ireturn, 1) := by decide +kernel
theorem dX9_after_25 : decode cX9_after 25 = .ok (.iinc 2 1, 3) := by decide +kernel
theorem dX9_after_28 : decode cX9_after 28 = .ok (.goto (-26), 3) := by decide +kernel
theorem dX9_after_31 : decode cX9_after 31 = .ok (.iconst (-1), 1) := by decide +kernel
theorem dX9_after_32 : decode cX9_after 32 = .ok (.ireturn, 1) := by decide +kernel
theorem dX9_bars_0 : decode cX9_bars 0 = .ok (.aload_n 0, 1) := by decide +kernel
theorem dX9_bars_1 : decode cX9_bars 1 = .ok (.iload_n 1, 1) := by decide +kernel
theorem dX9_bars_2 : decode cX9_bars 2 = .ok (.invokevirtual 149, 3) := by decide +kernel
theorem dX9_bars_5 : decode cX9_bars 5 = .ok (.pop, 1) := by decide +kernel
theorem dX9_bars_6 : decode cX9_bars 6 = .ok (.aload_n 0, 1) := by decide +kernel
theorem dX9_bars_7 : decode cX9_bars 7 = .ok (.iload_n 2, 1) := by decide +kernel
theorem dX9_bars_8 : decode cX9_bars 8 = .ok (.invokevirtual 149, 3) := by decide +kernel
theorem dX9_bars_11 : decode cX9_bars 11 = .ok (.pop, 1) := by decide +kernel
theorem dX9_bars_12 : decode cX9_bars 12 = .ok (.aload_n 0, 1) := by decide +kernel
theorem dX9_bars_13 : decode cX9_bars 13 = .ok (.invokevirtual 165, 3) := by decide +kernel
theorem dX9_bars_16 : decode cX9_bars 16 = .ok (.astore_n 3, 1) := by decide +kernel
theorem dX9_bars_17 : decode cX9_bars 17 = .ok (.aload_n 3, 1) := by decide +kernel
theorem dX9_bars_18 : decode cX9_bars 18 = .ok (.aload_n 3, 1) := by decide +kernel
theorem dX9_bars_19 : decode cX9_bars 19 = .ok (.iload_n 1, 1) := by decide +kernel
theorem dX9_bars_20 : decode cX9_bars 20 = .ok (.invokevirtual 232, 3) := by decide +kernel
theorem dX9_bars_23 : decode cX9_bars 23 = .ok (.aload_n 3, 1) := by decide +kernel
theorem dX9_bars_24 : decode cX9_bars 24 = .ok (.iload_n 2, 1) := by decide +kernel
theorem dX9_bars_25 : decode cX9_bars 25 = .ok (.invokevirtual 232, 3) := by decide +kernel
theorem dX9_bars_28 : decode cX9_bars 28 = .ok (.invokevirtual 235, 3) := by decide +kernel
theorem dX9_bars_31 : decode cX9_bars 31 = .ok (.ireturn, 1) := by decide +kernel
theorem dX9_crossings_0 : decode cX9_crossings 0 = .ok (.aload_n 0, 1) := by decide +kernel
theorem dX9_crossings_1 : decode cX9_crossings 1 = .ok (.iload_n 1, 1) := by decide +kernel
theorem dX9_crossings_2 : decode cX9_crossings 2 = .ok (.invokevirtual 239, 3) := by decide +kernel
theorem dX9_crossings_5 : decode cX9_crossings 5 = .ok (.getfield 243, 3) := by decide +kernel
theorem dX9_crossings_8 : decode cX9_crossings 8 = .ok (.ireturn, 1) := by decide +kernel
theorem dX9_crossing_0 : decode cX9_crossing 0 = .ok (.aload_n 0, 1) := by decide +kernel
theorem dX9_crossing_1 : decode cX9_crossing 1 = .ok (.iload_n 1, 1) := by decide +kernel
theorem dX9_crossing_2 : decode cX9_crossing 2 = .ok (.invokevirtual 239, 3) := by decide +kernel
theorem dX9_crossing_5 : decode cX9_crossing 5 = .ok (.iload_n 2, 1) := by decide +kernel
theorem dX9_crossing_6 : decode cX9_crossing 6 = .ok (.invokevirtual 244, 3) := by decide +kernel
theorem dX9_crossing_9 : decode cX9_crossing 9 = .ok (.astore 4, 2) := by decide +kernel
theorem dX9_crossing_11 : decode cX9_crossing 11 = .ok (.aload 4, 2) := by decide +kernel
theorem dX9_crossing_13 : decode cX9_crossing 13 = .ok (.ifnonnull 5, 3) := by decide +kernel
theorem dX9_crossing_16 : decode cX9_crossing 16 = .ok (.iconst (-1), 1) := by decide +kernel
theorem dX9_crossing_17 : decode cX9_crossing 17 = .ok (.ireturn, 1) := by decide +kernel
theorem dX9_crossing_18 : decode cX9_crossing 18 = .ok (.iload_n 3, 1) := by decide +kernel
theorem dX9_crossing_19 : decode cX9_crossing 19 = .ok (.tableswitch 63 0 3 #[29, 35, 41, 47], 29) := by decide +kernel
theorem dX9_crossing_48 : decode cX9_crossing 48 = .ok (.aload 4, 2) := by decide +kernel
theorem dX9_crossing_50 : decode cX9_crossing 50 = .ok (.getfield 248, 3) := by decide +kernel
theorem dX9_crossing_53 : decode cX9_crossing 53 = .ok (.ireturn, 1) := by decide +kernel
theorem dX9_crossing_54 : decode cX9_crossing 54 = .ok (.aload 4, 2) := by decide +kernel
theorem dX9_crossing_56 : decode cX9_crossing 56 = .ok (.getfield 253, 3) := by decide +kernel
theorem dX9_crossing_59 : decode cX9_crossing 59 = .ok (.ireturn, 1) := by decide +kernel
theorem dX9_crossing_60 : decode cX9_crossing 60 = .ok (.aload 4, 2) := by decide +kernel
theorem dX9_crossing_62 : decode cX9_crossing 62 = .ok (.getfield 256, 3) := by decide +kernel
theorem dX9_crossing_65 : decode cX9_crossing 65 = .ok (.ireturn, 1) := by decide +kernel
theorem dX9_crossing_66 : decode cX9_crossing 66 = .ok (.aload 4, 2) := by decide +kernel
theorem dX9_crossing_68 : decode cX9_crossing 68 = .ok (.getfield 259, 3) := by decide +kernel
theorem dX9_crossing_71 : decode cX9_crossing 71 = .ok (.lconst 0, 1) := by decide +kernel
theorem dX9_crossing_72 : decode cX9_crossing 72 = .ok (.lcmp, 1) := by decide +kernel
theorem dX9_crossing_73 : decode cX9_crossing 73 = .ok (.ifCond .le 7, 3) := by decide +kernel
theorem dX9_crossing_76 : decode cX9_crossing 76 = .ok (.iconst 1, 1) := by decide +kernel
theorem dX9_crossing_77 : decode cX9_crossing 77 = .ok (.goto 4, 3) := by decide +kernel
theorem dX9_crossing_80 : decode cX9_crossing 80 = .ok (.iconst 0, 1) := by decide +kernel
theorem dX9_crossing_81 : decode cX9_crossing 81 = .ok (.ireturn, 1) := by decide +kernel
theorem dX9_crossing_82 : decode cX9_crossing 82 = .ok (.iconst (-1), 1) := by decide +kernel
theorem dX9_crossing_83 : decode cX9_crossing 83 = .ok (.ireturn, 1) := by decide +kernel
theorem dX9_print_0 : decode cX9_print 0 = .ok (.aload_n 0, 1) := by decide +kernel
theorem dX9_print_1 : decode cX9_print 1 = .ok (.iload_n 1, 1) := by decide +kernel
theorem dX9_print_2 : decode cX9_print 2 = .ok (.invokevirtual 239, 3) := by decide +kernel
theorem dX9_print_5 : decode cX9_print 5 = .ok (.iload_n 2, 1) := by decide +kernel
theorem dX9_print_6 : decode cX9_print 6 = .ok (.invokevirtual 244, 3) := by decide +kernel
theorem dX9_print_9 : decode cX9_print 9 = .ok (.astore 4, 2) := by decide +kernel
theorem dX9_print_11 : decode cX9_print 11 = .ok (.aload 4, 2) := by decide +kernel
theorem dX9_print_13 : decode cX9_print 13 = .ok (.ifnull 12, 3) := by decide +kernel
theorem dX9_print_16 : decode cX9_print 16 = .ok (.iload_n 3, 1) := by decide +kernel
theorem dX9_print_17 : decode cX9_print 17 = .ok (.ifCond .lt 8, 3) := by decide +kernel
theorem dX9_print_20 : decode cX9_print 20 = .ok (.iload_n 3, 1) := by decide +kernel
theorem dX9_print_21 : decode cX9_print 21 = .ok (.iconst 1, 1) := by decide +kernel
theorem dX9_print_22 : decode cX9_print 22 = .ok (.if_icmp .le 5, 3) := by decide +kernel
theorem dX9_print_25 : decode cX9_print 25 = .ok (.iconst (-1), 1) := by decide +kernel
theorem dX9_print_26 : decode cX9_print 26 = .ok (.ireturn, 1) := by decide +kernel
theorem dX9_print_27 : decode cX9_print 27 = .ok (.iload_n 3, 1) := by decide +kernel
theorem dX9_print_28 : decode cX9_print 28 = .ok (.ifCond .ne 23, 3) := by decide +kernel
theorem dX9_print_31 : decode cX9_print 31 = .ok (.aload_n 0, 1) := by decide +kernel
theorem dX9_print_32 : decode cX9_print 32 = .ok (.getfield 38, 3) := by decide +kernel
theorem dX9_print_35 : decode cX9_print 35 = .ok (.aload 4, 2) := by decide +kernel
theorem dX9_print_37 : decode cX9_print 37 = .ok (.getfield 263, 3) := by decide +kernel
theorem dX9_print_40 : decode cX9_print 40 = .ok (.aload 4, 2) := by decide +kernel
theorem dX9_print_42 : decode cX9_print 42 = .ok (.getfield 266, 3) := by decide +kernel
theorem dX9_print_45 : decode cX9_print 45 = .ok (.invokevirtual 269, 3) := by decide +kernel
theorem dX9_print_48 : decode cX9_print 48 = .ok (.goto 20, 3) := by decide +kernel
theorem dX9_print_51 : decode cX9_print 51 = .ok (.aload_n 0, 1) := by decide +kernel
theorem dX9_print_52 : decode cX9_print 52 = .ok (.getfield 38, 3) := by decide +kernel
theorem dX9_print_55 : decode cX9_print 55 = .ok (.aload 4, 2) := by decide +kernel
theorem dX9_print_57 : decode cX9_print 57 = .ok (.getfield 259, 3) := by decide +kernel
theorem dX9_print_60 : decode cX9_print 60 = .ok (.aload 4, 2) := by decide +kernel
theorem dX9_print_62 : decode cX9_print 62 = .ok (.getfield 273, 3) := by decide +kernel
theorem dX9_print_65 : decode cX9_print 65 = .ok (.invokevirtual 269, 3) := by decide +kernel
theorem dX9_print_68 : decode cX9_print 68 = .ok (.aload_n 0, 1) := by decide +kernel
theorem dX9_print_69 : decode cX9_print 69 = .ok (.getfield 38, 3) := by decide +kernel
theorem dX9_print_72 : decode cX9_print 72 = .ok (.getfield 225, 3) := by decide +kernel
theorem dX9_print_75 : decode cX9_print 75 = .ok (.ireturn, 1) := by decide +kernel
theorem dX9_free_0 : decode cX9_free 0 = .ok (.aload_n 0, 1) := by decide +kernel
theorem dX9_free_1 : decode cX9_free 1 = .ok (.iload_n 1, 1) := by decide +kernel
theorem dX9_free_2 : decode cX9_free 2 = .ok (.invokevirtual 149, 3) := by decide +kernel
theorem dX9_free_5 : decode cX9_free 5 = .ok (.pop, 1) := by decide +kernel
theorem dX9_free_6 : decode cX9_free 6 = .ok (.aload_n 0, 1) := by decide +kernel
theorem dX9_free_7 : decode cX9_free 7 = .ok (.invokevirtual 165, 3) := by decide +kernel
theorem dX9_free_10 : decode cX9_free 10 = .ok (.iload_n 1, 1) := by decide +kernel
theorem dX9_free_11 : decode cX9_free 11 = .ok (.invokevirtual 169, 3) := by decide +kernel
theorem dX9_free_14 : decode cX9_free 14 = .ok (.ireturn, 1) := by decide +kernel
theorem dX9_order_0 : decode cX9_order 0 = .ok (.aload_n 0, 1) := by decide +kernel
theorem dX9_order_1 : decode cX9_order 1 = .ok (.invokevirtual 165, 3) := by decide +kernel
theorem dX9_order_4 : decode cX9_order 4 = .ok (.astore_n 2, 1) := by decide +kernel
theorem dX9_order_5 : decode cX9_order 5 = .ok (.iload_n 1, 1) := by decide +kernel
theorem dX9_order_6 : decode cX9_order 6 = .ok (.ifCond .lt 11, 3) := by decide +kernel
theorem dX9_order_9 : decode cX9_order 9 = .ok (.iload_n 1, 1) := by decide +kernel
theorem dX9_order_10 : decode cX9_order 10 = .ok (.aload_n 2, 1) := by decide +kernel
theorem dX9_order_11 : decode cX9_order 11 = .ok (.getfield 276, 3) := by decide +kernel
theorem dX9_order_14 : decode cX9_order 14 = .ok (.if_icmp .lt 7, 3) := by decide +kernel
theorem dX9_order_17 : decode cX9_order 17 = .ok (.iconst (-1), 1) := by decide +kernel
theorem dX9_order_18 : decode cX9_order 18 = .ok (.goto 13, 3) := by decide +kernel
theorem dX9_order_21 : decode cX9_order 21 = .ok (.aload_n 2, 1) := by decide +kernel
theorem dX9_order_22 : decode cX9_order 22 = .ok (.aload_n 2, 1) := by decide +kernel
theorem dX9_order_23 : decode cX9_order 23 = .ok (.getfield 279, 3) := by decide +kernel
theorem dX9_order_26 : decode cX9_order 26 = .ok (.iload_n 1, 1) := by decide +kernel
theorem dX9_order_27 : decode cX9_order 27 = .ok (.iaload, 1) := by decide +kernel
theorem dX9_order_28 : decode cX9_order 28 = .ok (.invokevirtual 282, 3) := by decide +kernel
theorem dX9_order_31 : decode cX9_order 31 = .ok (.ireturn, 1) := by decide +kernel
theorem dX9_knots_0 : decode cX9_knots 0 = .ok (.aload_n 0, 1) := by decide +kernel
theorem dX9_knots_1 : decode cX9_knots 1 = .ok (.invokevirtual 165, 3) := by decide +kernel
theorem dX9_knots_4 : decode cX9_knots 4 = .ok (.getfield 285, 3) := by decide +kernel
theorem dX9_knots_7 : decode cX9_knots 7 = .ok (.ireturn, 1) := by decide +kernel
theorem dX9_knot_0 : decode cX9_knot 0 = .ok (.aload_n 0, 1) := by decide +kernel
theorem dX9_knot_1 : decode cX9_knot 1 = .ok (.invokevirtual 165, 3) := by decide +kernel
theorem dX9_knot_4 : decode cX9_knot 4 = .ok (.astore 4, 2) := by decide +kernel
theorem dX9_knot_6 : decode cX9_knot 6 = .ok (.iload_n 1, 1) := by decide +kernel
theorem dX9_knot_7 : decode cX9_knot 7 = .ok (.ifCond .lt 12, 3) := by decide +kernel
theorem dX9_knot_10 : decode cX9_knot 10 = .ok (.iload_n 1, 1) := by decide +kernel
theorem dX9_knot_11 : decode cX9_knot 11 = .ok (.aload 4, 2) := by decide +kernel
theorem dX9_knot_13 : decode cX9_knot 13 = .ok (.getfield 285, 3) := by decide +kernel
theorem dX9_knot_16 : decode cX9_knot 16 = .ok (.if_icmp .lt 5, 3) := by decide +kernel
theorem dX9_knot_19 : decode cX9_knot 19 = .ok (.iconst (-1), 1) := by decide +kernel
theorem dX9_knot_20 : decode cX9_knot 20 = .ok (.ireturn, 1) := by decide +kernel
theorem dX9_knot_21 : decode cX9_knot 21 = .ok (.iload_n 2, 1) := by decide +kernel
theorem dX9_knot_22 : decode cX9_knot 22 = .ok (.lookupswitch 62 #[(0, 26), (1, 43)], 26) := by decide +kernel
theorem dX9_knot_48 : decode cX9_knot 48 = .ok (.aload 4, 2) := by decide +kernel
theorem dX9_knot_50 : decode cX9_knot 50 = .ok (.aload 4, 2) := by decide +kernel
theorem dX9_knot_52 : decode cX9_knot 52 = .ok (.getfield 288, 3) := by decide +kernel
theorem dX9_knot_55 : decode cX9_knot 55 = .ok (.iload_n 1, 1) := by decide +kernel
theorem dX9_knot_56 : decode cX9_knot 56 = .ok (.laload, 1) := by decide +kernel
theorem dX9_knot_57 : decode cX9_knot 57 = .ok (.iload_n 3, 1) := by decide +kernel
theorem dX9_knot_58 : decode cX9_knot 58 = .ok (.invokestatic 291, 3) := by decide +kernel
theorem dX9_knot_61 : decode cX9_knot 61 = .ok (.invokevirtual 282, 3) := by decide +kernel
theorem dX9_knot_64 : decode cX9_knot 64 = .ok (.ireturn, 1) := by decide +kernel
theorem dX9_knot_65 : decode cX9_knot 65 = .ok (.aload 4, 2) := by decide +kernel
theorem dX9_knot_67 : decode cX9_knot 67 = .ok (.aload 4, 2) := by decide +kernel
theorem dX9_knot_69 : decode cX9_knot 69 = .ok (.aload 4, 2) := by decide +kernel
theorem dX9_knot_71 : decode cX9_knot 71 = .ok (.getfield 288, 3) := by decide +kernel
theorem dX9_knot_74 : decode cX9_knot 74 = .ok (.iload_n 1, 1) := by decide +kernel
theorem dX9_knot_75 : decode cX9_knot 75 = .ok (.laload, 1) := by decide +kernel
theorem dX9_knot_76 : decode cX9_knot 76 = .ok (.iload_n 3, 1) := by decide +kernel
theorem dX9_knot_77 : decode cX9_knot 77 = .ok (.invokevirtual 295, 3) := by decide +kernel
theorem dX9_knot_80 : decode cX9_knot 80 = .ok (.invokevirtual 282, 3) := by decide +kernel
theorem dX9_knot_83 : decode cX9_knot 83 = .ok (.ireturn, 1) := by decide +kernel
theorem dX9_knot_84 : decode cX9_knot 84 = .ok (.iconst (-1), 1) := by decide +kernel
theorem dX9_knot_85 : decode cX9_knot 85 = .ok (.ireturn, 1) := by decide +kernel
theorem dX9_fewest_0 : decode cX9_fewest 0 = .ok (.aload_n 0, 1) := by decide +kernel
theorem dX9_fewest_1 : decode cX9_fewest 1 = .ok (.aload_n 0, 1) := by decide +kernel
theorem dX9_fewest_2 : decode cX9_fewest 2 = .ok (.invokevirtual 165, 3) := by decide +kernel
theorem dX9_fewest_5 : decode cX9_fewest 5 = .ok (.invokevirtual 298, 3) := by decide +kernel
theorem dX9_fewest_8 : decode cX9_fewest 8 = .ok (.getfield 302, 3) := by decide +kernel
theorem dX9_fewest_11 : decode cX9_fewest 11 = .ok (.ireturn, 1) := by decide +kernel
theorem dX9_few_0 : decode cX9_few 0 = .ok (.aload_n 0, 1) := by decide +kernel
theorem dX9_few_1 : decode cX9_few 1 = .ok (.invokevirtual 165, 3) := by decide +kernel
theorem dX9_few_4 : decode cX9_few 4 = .ok (.astore_n 2, 1) := by decide +kernel
theorem dX9_few_5 : decode cX9_few 5 = .ok (.aload_n 2, 1) := by decide +kernel
theorem dX9_few_6 : decode cX9_few 6 = .ok (.aload_n 0, 1) := by decide +kernel
theorem dX9_few_7 : decode cX9_few 7 = .ok (.aload_n 2, 1) := by decide +kernel
theorem dX9_few_8 : decode cX9_few 8 = .ok (.invokevirtual 298, 3) := by decide +kernel
theorem dX9_few_11 : decode cX9_few 11 = .ok (.getfield 303, 3) := by decide +kernel
theorem dX9_few_14 : decode cX9_few 14 = .ok (.iload_n 1, 1) := by decide +kernel
theorem dX9_few_15 : decode cX9_few 15 = .ok (.invokestatic 291, 3) := by decide +kernel
theorem dX9_few_18 : decode cX9_few 18 = .ok (.invokevirtual 282, 3) := by decide +kernel
theorem dX9_few_21 : decode cX9_few 21 = .ok (.ireturn, 1) := by decide +kernel
theorem dX9_layer_0 : decode cX9_layer 0 = .ok (.aload_n 0, 1) := by decide +kernel
theorem dX9_layer_1 : decode cX9_layer 1 = .ok (.iload_n 1, 1) := by decide +kernel
theorem dX9_layer_2 : decode cX9_layer 2 = .ok (.invokevirtual 149, 3) := by decide +kernel
theorem dX9_layer_5 : decode cX9_layer 5 = .ok (.pop, 1) := by decide +kernel
theorem dX9_layer_6 : decode cX9_layer 6 = .ok (.aload_n 0, 1) := by decide +kernel
theorem dX9_layer_7 : decode cX9_layer 7 = .ok (.invokevirtual 165, 3) := by decide +kernel
theorem dX9_layer_10 : decode cX9_layer 10 = .ok (.astore_n 2, 1) := by decide +kernel
theorem dX9_layer_11 : decode cX9_layer 11 = .ok (.aload_n 2, 1) := by decide +kernel
theorem dX9_layer_12 : decode cX9_layer 12 = .ok (.iload_n 1, 1) := by decide +kernel
theorem dX9_layer_13 : decode cX9_layer 13 = .ok (.invokevirtual 232, 3) := by decide +kernel
theorem dX9_layer_16 : decode cX9_layer 16 = .ok (.istore_n 3, 1) := by decide +kernel
theorem dX9_layer_17 : decode cX9_layer 17 = .ok (.aload_n 2, 1) := by decide +kernel
theorem dX9_layer_18 : decode cX9_layer 18 = .ok (.getfield 285, 3) := by decide +kernel
theorem dX9_layer_21 : decode cX9_layer 21 = .ok (.ifCond .gt 8, 3) := by decide +kernel
theorem dX9_layer_24 : decode cX9_layer 24 = .ok (.iload_n 3, 1) := by decide +kernel
theorem dX9_layer_25 : decode cX9_layer 25 = .ok (.iconst (-1), 1) := by decide +kernel
theorem dX9_layer_26 : decode cX9_layer 26 = .ok (.if_icmp .ne 7, 3) := by decide +kernel
theorem dX9_layer_29 : decode cX9_layer 29 = .ok (.iconst (-1), 1) := by decide +kernel
theorem dX9_layer_30 : decode cX9_layer 30 = .ok (.goto 9, 3) := by decide +kernel
theorem dX9_layer_33 : decode cX9_layer 33 = .ok (.aload_n 2, 1) := by decide +kernel
theorem dX9_layer_34 : decode cX9_layer 34 = .ok (.getfield 306, 3) := by decide +kernel
theorem dX9_layer_37 : decode cX9_layer 37 = .ok (.iload_n 3, 1) := by decide +kernel
theorem dX9_layer_38 : decode cX9_layer 38 = .ok (.iaload, 1) := by decide +kernel
theorem dX9_layer_39 : decode cX9_layer 39 = .ok (.ireturn, 1) := by decide +kernel
theorem dX9_push_0 : decode cX9_push 0 = .ok (.aload_n 0, 1) := by decide +kernel
theorem dX9_push_1 : decode cX9_push 1 = .ok (.getfield 309, 3) := by decide +kernel
theorem dX9_push_4 : decode cX9_push 4 = .ok (.aload_n 0, 1) := by decide +kernel
theorem dX9_push_5 : decode cX9_push 5 = .ok (.getfield 63, 3) := by decide +kernel
theorem dX9_push_8 : decode cX9_push 8 = .ok (.arraylength, 1) := by decide +kernel
theorem dX9_push_9 : decode cX9_push 9 = .ok (.if_icmp .lt 5, 3) := by decide +kernel
theorem dX9_push_12 : decode cX9_push 12 = .ok (.iconst (-1), 1) := by decide +kernel
theorem dX9_push_13 : decode cX9_push 13 = .ok (.ireturn, 1) := by decide +kernel
theorem dX9_push_14 : decode cX9_push 14 = .ok (.aload_n 0, 1) := by decide +kernel
theorem dX9_push_15 : decode cX9_push 15 = .ok (.getfield 63, 3) := by decide +kernel
theorem dX9_push_18 : decode cX9_push 18 = .ok (.aload_n 0, 1) := by decide +kernel
theorem dX9_push_19 : decode cX9_push 19 = .ok (.getfield 309, 3) := by decide +kernel
theorem dX9_push_22 : decode cX9_push 22 = .ok (.iload_n 1, 1) := by decide +kernel
theorem dX9_push_23 : decode cX9_push 23 = .ok (.iastore, 1) := by decide +kernel
theorem dX9_push_24 : decode cX9_push 24 = .ok (.aload_n 0, 1) := by decide +kernel
theorem dX9_push_25 : decode cX9_push 25 = .ok (.dup, 1) := by decide +kernel
theorem dX9_push_26 : decode cX9_push 26 = .ok (.getfield 309, 3) := by decide +kernel
theorem dX9_push_29 : decode cX9_push 29 = .ok (.iconst 1, 1) := by decide +kernel
theorem dX9_push_30 : decode cX9_push 30 = .ok (.iadd, 1) := by decide +kernel
theorem dX9_push_31 : decode cX9_push 31 = .ok (.putfield 309, 3) := by decide +kernel
theorem dX9_push_34 : decode cX9_push 34 = .ok (.aload_n 0, 1) := by decide +kernel
theorem dX9_push_35 : decode cX9_push 35 = .ok (.getfield 309, 3) := by decide +kernel
theorem dX9_push_38 : decode cX9_push 38 = .ok (.ireturn, 1) := by decide +kernel
theorem dX9_check_0 : decode cX9_check 0 = .ok (.iload_n 1, 1) := by decide +kernel
theorem dX9_check_1 : decode cX9_check 1 = .ok (.ifCond .eq 19, 3) := by decide +kernel
theorem dX9_check_4 : decode cX9_check 4 = .ok (.iload_n 1, 1) := by decide +kernel
theorem dX9_check_5 : decode cX9_check 5 = .ok (.iconst 1, 1) := by decide +kernel
theorem dX9_check_6 : decode cX9_check 6 = .ok (.if_icmp .eq 14, 3) := by decide +kernel
theorem dX9_check_9 : decode cX9_check 9 = .ok (.new 67, 3) := by decide +kernel
theorem dX9_check_12 : decode cX9_check 12 = .ok (.dup, 1) := by decide +kernel
theorem dX9_check_13 : decode cX9_check 13 = .ok (.ldc_w 312, 3) := by decide +kernel
theorem dX9_check_16 : decode cX9_check 16 = .ok (.invokespecial 71, 3) := by decide +kernel
theorem dX9_check_19 : decode cX9_check 19 = .ok (.athrow, 1) := by decide +kernel
theorem dX9_check_20 : decode cX9_check 20 = .ok (.iload_n 1, 1) := by decide +kernel
theorem dX9_check_21 : decode cX9_check 21 = .ok (.ifCond .ne 14, 3) := by decide +kernel
theorem dX9_check_24 : decode cX9_check 24 = .ok (.aload_n 0, 1) := by decide +kernel
theorem dX9_check_25 : decode cX9_check 25 = .ok (.aload_n 0, 1) := by decide +kernel
theorem dX9_check_26 : decode cX9_check 26 = .ok (.invokevirtual 165, 3) := by decide +kernel
theorem dX9_check_29 : decode cX9_check 29 = .ok (.invokevirtual 314, 3) := by decide +kernel
theorem dX9_check_32 : decode cX9_check 32 = .ok (.goto 11, 3) := by decide +kernel
theorem dX9_check_35 : decode cX9_check 35 = .ok (.aload_n 0, 1) := by decide +kernel
theorem dX9_check_36 : decode cX9_check 36 = .ok (.aload_n 0, 1) := by decide +kernel
theorem dX9_check_37 : decode cX9_check 37 = .ok (.invokevirtual 165, 3) := by decide +kernel
theorem dX9_check_40 : decode cX9_check 40 = .ok (.invokevirtual 318, 3) := by decide +kernel
theorem dX9_check_43 : decode cX9_check 43 = .ok (.istore_n 2, 1) := by decide +kernel
theorem dX9_check_44 : decode cX9_check 44 = .ok (.aload_n 0, 1) := by decide +kernel
theorem dX9_check_45 : decode cX9_check 45 = .ok (.iconst 0, 1) := by decide +kernel
theorem dX9_check_46 : decode cX9_check 46 = .ok (.putfield 309, 3) := by decide +kernel
theorem dX9_check_49 : decode cX9_check 49 = .ok (.iload_n 2, 1) := by decide +kernel
theorem dX9_check_50 : decode cX9_check 50 = .ok (.ireturn, 1) := by decide +kernel
theorem dX9_octet_0 : decode cX9_octet 0 = .ok (.iload_n 1, 1) := by decide +kernel
theorem dX9_octet_1 : decode cX9_octet 1 = .ok (.ifCond .lt 14, 3) := by decide +kernel
theorem dX9_octet_4 : decode cX9_octet 4 = .ok (.iload_n 1, 1) := by decide +kernel
theorem dX9_octet_5 : decode cX9_octet 5 = .ok (.aload_n 0, 1) := by decide +kernel
theorem dX9_octet_6 : decode cX9_octet 6 = .ok (.getfield 38, 3) := by decide +kernel
theorem dX9_octet_9 : decode cX9_octet 9 = .ok (.getfield 225, 3) := by decide +kernel
theorem dX9_octet_12 : decode cX9_octet 12 = .ok (.if_icmp .lt 7, 3) := by decide +kernel
theorem dX9_octet_15 : decode cX9_octet 15 = .ok (.iconst (-1), 1) := by decide +kernel
theorem dX9_octet_16 : decode cX9_octet 16 = .ok (.goto 12, 3) := by decide +kernel
theorem dX9_octet_19 : decode cX9_octet 19 = .ok (.aload_n 0, 1) := by decide +kernel
theorem dX9_octet_20 : decode cX9_octet 20 = .ok (.getfield 38, 3) := by decide +kernel
theorem dX9_octet_23 : decode cX9_octet 23 = .ok (.getfield 321, 3) := by decide +kernel
theorem dX9_octet_26 : decode cX9_octet 26 = .ok (.iload_n 1, 1) := by decide +kernel
theorem dX9_octet_27 : decode cX9_octet 27 = .ok (.baload, 1) := by decide +kernel
theorem dX9_octet_28 : decode cX9_octet 28 = .ok (.ireturn, 1) := by decide +kernel
theorem dX9_boxWithRow_0 : decode cX9_boxWithRow 0 = .ok (.iload_n 1, 1) := by decide +kernel
theorem dX9_boxWithRow_1 : decode cX9_boxWithRow 1 = .ok (.ifCond .lt 30, 3) := by decide +kernel
theorem dX9_boxWithRow_4 : decode cX9_boxWithRow 4 = .ok (.iload_n 1, 1) := by decide +kernel
theorem dX9_boxWithRow_5 : decode cX9_boxWithRow 5 = .ok (.aload_n 0, 1) := by decide +kernel
theorem dX9_boxWithRow_6 : decode cX9_boxWithRow 6 = .ok (.getfield 74, 3) := by decide +kernel
theorem dX9_boxWithRow_9 : decode cX9_boxWithRow 9 = .ok (.if_icmp .ge 22, 3) := by decide +kernel
theorem dX9_boxWithRow_12 : decode cX9_boxWithRow 12 = .ok (.aload_n 0, 1) := by decide +kernel
theorem dX9_boxWithRow_13 : decode cX9_boxWithRow 13 = .ok (.getfield 11, 3) := by decide +kernel
theorem dX9_boxWithRow_16 : decode cX9_boxWithRow 16 = .ok (.iload_n 1, 1) := by decide +kernel
theorem dX9_boxWithRow_17 : decode cX9_boxWithRow 17 = .ok (.aaload, 1) := by decide +kernel
theorem dX9_boxWithRow_18 : decode cX9_boxWithRow 18 = .ok (.ifnull 13, 3) := by decide +kernel
theorem dX9_boxWithRow_21 : decode cX9_boxWithRow 21 = .ok (.iload_n 2, 1) := by decide +kernel
theorem dX9_boxWithRow_22 : decode cX9_boxWithRow 22 = .ok (.ifCond .lt 9, 3) := by decide +kernel
theorem dX9_boxWithRow_25 : decode cX9_boxWithRow 25 = .ok (.iload_n 2, 1) := by decide +kernel
theorem dX9_boxWithRow_26 : decode cX9_boxWithRow 26 = .ok (.bipush 20, 2) := by decide +kernel
theorem dX9_boxWithRow_28 : decode cX9_boxWithRow 28 = .ok (.if_icmp .lt 14, 3) := by decide +kernel
theorem dX9_boxWithRow_31 : decode cX9_boxWithRow 31 = .ok (.new 325, 3) := by decide +kernel
theorem dX9_boxWithRow_34 : decode cX9_boxWithRow 34 = .ok (.dup, 1) := by decide +kernel
theorem dX9_boxWithRow_35 : decode cX9_boxWithRow 35 = .ok (.ldc_w 327, 3) := by decide +kernel
theorem dX9_boxWithRow_38 : decode cX9_boxWithRow 38 = .ok (.invokespecial 329, 3) := by decide +kernel
theorem dX9_boxWithRow_41 : decode cX9_boxWithRow 41 = .ok (.athrow, 1) := by decide +kernel
theorem dX9_boxWithRow_42 : decode cX9_boxWithRow 42 = .ok (.aload_n 0, 1) := by decide +kernel
theorem dX9_boxWithRow_43 : decode cX9_boxWithRow 43 = .ok (.getfield 11, 3) := by decide +kernel
theorem dX9_boxWithRow_46 : decode cX9_boxWithRow 46 = .ok (.iload_n 1, 1) := by decide +kernel
theorem dX9_boxWithRow_47 : decode cX9_boxWithRow 47 = .ok (.aaload, 1) := by decide +kernel
theorem dX9_boxWithRow_48 : decode cX9_boxWithRow 48 = .ok (.areturn, 1) := by decide +kernel
theorem dX9_isKind_0 : decode cX9_isKind 0 = .ok (.iload_n 0, 1) := by decide +kernel
theorem dX9_isKind_1 : decode cX9_isKind 1 = .ok (.ifCond .lt 8, 3) := by decide +kernel
theorem dX9_isKind_4 : decode cX9_isKind 4 = .ok (.iload_n 0, 1) := by decide +kernel
theorem dX9_isKind_5 : decode cX9_isKind 5 = .ok (.iconst 3, 1) := by decide +kernel
theorem dX9_isKind_6 : decode cX9_isKind 6 = .ok (.if_icmp .le 5, 3) := by decide +kernel
theorem dX9_isKind_9 : decode cX9_isKind 9 = .ok (.iconst 0, 1) := by decide +kernel
theorem dX9_isKind_10 : decode cX9_isKind 10 = .ok (.ireturn, 1) := by decide +kernel
theorem dX9_isKind_11 : decode cX9_isKind 11 = .ok (.iload_n 0, 1) := by decide +kernel
theorem dX9_isKind_12 : decode cX9_isKind 12 = .ok (.iconst 2, 1) := by decide +kernel
theorem dX9_isKind_13 : decode cX9_isKind 13 = .ok (.if_icmp .lt 8, 3) := by decide +kernel
theorem dX9_isKind_16 : decode cX9_isKind 16 = .ok (.bipush 127, 2) := by decide +kernel
theorem dX9_isKind_18 : decode cX9_isKind 18 = .ok (.goto 4, 3) := by decide +kernel
theorem dX9_isKind_21 : decode cX9_isKind 21 = .ok (.iconst 0, 1) := by decide +kernel
theorem dX9_isKind_22 : decode cX9_isKind 22 = .ok (.istore_n 3, 1) := by decide +kernel
theorem dX9_isKind_23 : decode cX9_isKind 23 = .ok (.iload_n 0, 1) := by decide +kernel
theorem dX9_isKind_24 : decode cX9_isKind 24 = .ok (.iconst 3, 1) := by decide +kernel
theorem dX9_isKind_25 : decode cX9_isKind 25 = .ok (.if_icmp .ne 7, 3) := by decide +kernel
theorem dX9_isKind_28 : decode cX9_isKind 28 = .ok (.iconst 2, 1) := by decide +kernel
theorem dX9_isKind_29 : decode cX9_isKind 29 = .ok (.goto 4, 3) := by decide +kernel
theorem dX9_isKind_32 : decode cX9_isKind 32 = .ok (.iconst 1, 1) := by decide +kernel
theorem dX9_isKind_33 : decode cX9_isKind 33 = .ok (.istore 4, 2) := by decide +kernel
theorem dX9_isKind_35 : decode cX9_isKind 35 = .ok (.iload_n 0, 1) := by decide +kernel
theorem dX9_isKind_36 : decode cX9_isKind 36 = .ok (.iconst 3, 1) := by decide +kernel
theorem dX9_isKind_37 : decode cX9_isKind 37 = .ok (.if_icmp .ne 8, 3) := by decide +kernel
theorem dX9_isKind_40 : decode cX9_isKind 40 = .ok (.bipush 100, 2) := by decide +kernel
theorem dX9_isKind_42 : decode cX9_isKind 42 = .ok (.goto 4, 3) := by decide +kernel
theorem dX9_isKind_45 : decode cX9_isKind 45 = .ok (.iconst 1, 1) := by decide +kernel
theorem dX9_isKind_46 : decode cX9_isKind 46 = .ok (.istore 5, 2) := by decide +kernel
theorem dX9_isKind_48 : decode cX9_isKind 48 = .ok (.iload_n 1, 1) := by decide +kernel
theorem dX9_isKind_49 : decode cX9_isKind 49 = .ok (.ifCond .lt 24, 3) := by decide +kernel
theorem dX9_isKind_52 : decode cX9_isKind 52 = .ok (.iload_n 1, 1) := by decide +kernel
theorem dX9_isKind_53 : decode cX9_isKind 53 = .ok (.iload_n 3, 1) := by decide +kernel
theorem dX9_isKind_54 : decode cX9_isKind 54 = .ok (.if_icmp .gt 19, 3) := by decide +kernel
theorem dX9_isKind_57 : decode cX9_isKind 57 = .ok (.iload_n 2, 1) := by decide +kernel
theorem dX9_isKind_58 : decode cX9_isKind 58 = .ok (.iload 4, 2) := by decide +kernel
theorem dX9_isKind_60 : decode cX9_isKind 60 = .ok (.if_icmp .lt 13, 3) := by decide +kernel
theorem dX9_isKind_63 : decode cX9_isKind 63 = .ok (.iload_n 2, 1) := by decide +kernel
theorem dX9_isKind_64 : decode cX9_isKind 64 = .ok (.iload 5, 2) := by decide +kernel
theorem dX9_isKind_66 : decode cX9_isKind 66 = .ok (.if_icmp .gt 7, 3) := by decide +kernel
theorem dX9_isKind_69 : decode cX9_isKind 69 = .ok (.iconst 1, 1) := by decide +kernel
theorem dX9_isKind_70 : decode cX9_isKind 70 = .ok (.goto 4, 3) := by decide +kernel
theorem dX9_isKind_73 : decode cX9_isKind 73 = .ok (.iconst 0, 1) := by decide +kernel
theorem dX9_isKind_74 : decode cX9_isKind 74 = .ok (.ireturn, 1) := by decide +kernel
theorem dX9_isSlope_0 : decode cX9_isSlope 0 = .ok (.iload_n 0, 1) := by decide +kernel
theorem dX9_isSlope_1 : decode cX9_isSlope 1 = .ok (.bipush (-100), 2) := by decide +kernel
theorem dX9_isSlope_3 : decode cX9_isSlope 3 = .ok (.if_icmp .lt 13, 3) := by decide +kernel
theorem dX9_isSlope_6 : decode cX9_isSlope 6 = .ok (.iload_n 0, 1) := by decide +kernel
theorem dX9_isSlope_7 : decode cX9_isSlope 7 = .ok (.bipush 100, 2) := by decide +kernel
theorem dX9_isSlope_9 : decode cX9_isSlope 9 = .ok (.if_icmp .gt 7, 3) := by decide +kernel
theorem dX9_isSlope_12 : decode cX9_isSlope 12 = .ok (.iconst 1, 1) := by decide +kernel
theorem dX9_isSlope_13 : decode cX9_isSlope 13 = .ok (.goto 4, 3) := by decide +kernel
theorem dX9_isSlope_16 : decode cX9_isSlope 16 = .ok (.iconst 0, 1) := by decide +kernel
theorem dX9_isSlope_17 : decode cX9_isSlope 17 = .ok (.ireturn, 1) := by decide +kernel
theorem dX9_wasGiven_0 : decode cX9_wasGiven 0 = .ok (.iload_n 1, 1) := by decide +kernel
theorem dX9_wasGiven_1 : decode cX9_wasGiven 1 = .ok (.ifCond .lt 24, 3) := by decide +kernel
theorem dX9_wasGiven_4 : decode cX9_wasGiven 4 = .ok (.iload_n 1, 1) := by decide +kernel
theorem dX9_wasGiven_5 : decode cX9_wasGiven 5 = .ok (.aload_n 0, 1) := by decide +kernel
theorem dX9_wasGiven_6 : decode cX9_wasGiven 6 = .ok (.getfield 134, 3) := by decide +kernel
theorem dX9_wasGiven_9 : decode cX9_wasGiven 9 = .ok (.if_icmp .ge 16, 3) := by decide +kernel
theorem dX9_wasGiven_12 : decode cX9_wasGiven 12 = .ok (.aload_n 0, 1) := by decide +kernel
theorem dX9_wasGiven_13 : decode cX9_wasGiven 13 = .ok (.getfield 17, 3) := by decide +kernel
theorem dX9_wasGiven_16 : decode cX9_wasGiven 16 = .ok (.iload_n 1, 1) := by decide +kernel
theorem dX9_wasGiven_17 : decode cX9_wasGiven 17 = .ok (.aaload, 1) := by decide +kernel
theorem dX9_wasGiven_18 : decode cX9_wasGiven 18 = .ok (.ifnull 7, 3) := by decide +kernel
theorem dX9_wasGiven_21 : decode cX9_wasGiven 21 = .ok (.iconst 1, 1) := by decide +kernel
theorem dX9_wasGiven_22 : decode cX9_wasGiven 22 = .ok (.goto 4, 3) := by decide +kernel
theorem dX9_wasGiven_25 : decode cX9_wasGiven 25 = .ok (.iconst 0, 1) := by decide +kernel
theorem dX9_wasGiven_26 : decode cX9_wasGiven 26 = .ok (.ireturn, 1) := by decide +kernel
theorem dX9_isHere_0 : decode cX9_isHere 0 = .ok (.aload_n 0, 1) := by decide +kernel
theorem dX9_isHere_1 : decode cX9_isHere 1 = .ok (.iload_n 1, 1) := by decide +kernel
theorem dX9_isHere_2 : decode cX9_isHere 2 = .ok (.invokevirtual 190, 3) := by decide +kernel
theorem dX9_isHere_5 : decode cX9_isHere 5 = .ok (.ifCond .eq 19, 3) := by decide +kernel
theorem dX9_isHere_8 : decode cX9_isHere 8 = .ok (.aload_n 0, 1) := by decide +kernel
theorem dX9_isHere_9 : decode cX9_isHere 9 = .ok (.getfield 17, 3) := by decide +kernel
theorem dX9_isHere_12 : decode cX9_isHere 12 = .ok (.iload_n 1, 1) := by decide +kernel
theorem dX9_isHere_13 : decode cX9_isHere 13 = .ok (.aaload, 1) := by decide +kernel
theorem dX9_isHere_14 : decode cX9_isHere 14 = .ok (.getfield 330, 3) := by decide +kernel
theorem dX9_isHere_17 : decode cX9_isHere 17 = .ok (.ifCond .eq 7, 3) := by decide +kernel
theorem dX9_isHere_20 : decode cX9_isHere 20 = .ok (.iconst 1, 1) := by decide +kernel
theorem dX9_isHere_21 : decode cX9_isHere 21 = .ok (.goto 4, 3) := by decide +kernel
theorem dX9_isHere_24 : decode cX9_isHere 24 = .ok (.iconst 0, 1) := by decide +kernel
theorem dX9_isHere_25 : decode cX9_isHere 25 = .ok (.ireturn, 1) := by decide +kernel
theorem dX9_stickOnTable_0 : decode cX9_stickOnTable 0 = .ok (.aload_n 0, 1) := by decide +kernel
theorem dX9_stickOnTable_1 : decode cX9_stickOnTable 1 = .ok (.iload_n 1, 1) := by decide +kernel
theorem dX9_stickOnTable_2 : decode cX9_stickOnTable 2 = .ok (.invokevirtual 229, 3) := by decide +kernel
theorem dX9_stickOnTable_5 : decode cX9_stickOnTable 5 = .ok (.ifCond .ne 14, 3) := by decide +kernel
theorem dX9_stickOnTable_8 : decode cX9_stickOnTable 8 = .ok (.new 333, 3) := by decide +kernel
theorem dX9_stickOnTable_11 : decode cX9_stickOnTable 11 = .ok (.dup, 1) := by decide +kernel
theorem dX9_stickOnTable_12 : decode cX9_stickOnTable 12 = .ok (.ldc_w 335, 3) := by decide +kernel
theorem dX9_stickOnTable_15 : decode cX9_stickOnTable 15 = .ok (.invokespecial 337, 3) := by decide +kernel
theorem dX9_stickOnTable_18 : decode cX9_stickOnTable 18 = .ok (.athrow, 1) := by decide +kernel
theorem dX9_stickOnTable_19 : decode cX9_stickOnTable 19 = .ok (.aload_n 0, 1) := by decide +kernel
theorem dX9_stickOnTable_20 : decode cX9_stickOnTable 20 = .ok (.getfield 17, 3) := by decide +kernel
theorem dX9_stickOnTable_23 : decode cX9_stickOnTable 23 = .ok (.iload_n 1, 1) := by decide +kernel
theorem dX9_stickOnTable_24 : decode cX9_stickOnTable 24 = .ok (.aaload, 1) := by decide +kernel
theorem dX9_stickOnTable_25 : decode cX9_stickOnTable 25 = .ok (.areturn, 1) := by decide +kernel
theorem dX9_leastTouched_0 : decode cX9_leastTouched 0 = .ok (.iconst 0, 1) := by decide +kernel
theorem dX9_leastTouched_1 : decode cX9_leastTouched 1 = .ok (.istore_n 2, 1) := by decide +kernel
theorem dX9_leastTouched_2 : decode cX9_leastTouched 2 = .ok (.iload_n 2, 1) := by decide +kernel
theorem dX9_leastTouched_3 : decode cX9_leastTouched 3 = .ok (.aload_n 0, 1) := by decide +kernel
theorem dX9_leastTouched_4 : decode cX9_leastTouched 4 = .ok (.getfield 134, 3) := by decide +kernel
theorem dX9_leastTouched_7 : decode cX9_leastTouched 7 = .ok (.if_icmp .ge 46, 3) := by decide +kernel
theorem dX9_leastTouched_10 : decode cX9_leastTouched 10 = .ok (.aload_n 0, 1) := by decide +kernel
theorem dX9_leastTouched_11 : decode cX9_leastTouched 11 = .ok (.iload_n 2, 1) := by decide +kernel
theorem dX9_leastTouched_12 : decode cX9_leastTouched 12 = .ok (.invokevirtual 229, 3) := by decide +kernel
theorem dX9_leastTouched_15 : decode cX9_leastTouched 15 = .ok (.ifCond .eq 32, 3) := by decide +kernel
theorem dX9_leastTouched_18 : decode cX9_leastTouched 18 = .ok (.aload_n 0, 1) := by decide +kernel
theorem dX9_leastTouched_19 : decode cX9_leastTouched 19 = .ok (.getfield 17, 3) := by decide +kernel
theorem dX9_leastTouched_22 : decode cX9_leastTouched 22 = .ok (.iload_n 2, 1) := by decide +kernel
theorem dX9_leastTouched_23 : decode cX9_leastTouched 23 = .ok (.aaload, 1) := by decide +kernel
theorem dX9_leastTouched_24 : decode cX9_leastTouched 24 = .ok (.aload_n 1, 1) := by decide +kernel
theorem dX9_leastTouched_25 : decode cX9_leastTouched 25 = .ok (.if_acmp .eq 22, 3) := by decide +kernel
theorem dX9_leastTouched_28 : decode cX9_leastTouched 28 = .ok (.aload_n 0, 1) := by decide +kernel
theorem dX9_leastTouched_29 : decode cX9_leastTouched 29 = .ok (.getfield 24, 3) := by decide +kernel
theorem dX9_leastTouched_32 : decode cX9_leastTouched 32 = .ok (.aload_n 1, 1) := by decide +kernel
theorem dX9_leastTouched_33 : decode cX9_leastTouched 33 = .ok (.aload_n 0, 1) := by decide +kernel
theorem dX9_leastTouched_34 : decode cX9_leastTouched 34 = .ok (.getfield 17, 3) := by decide +kernel
theorem dX9_leastTouched_37 : decode cX9_leastTouched 37 = .ok (.iload_n 2, 1) := by decide +kernel
theorem dX9_leastTouched_38 : decode cX9_leastTouched 38 = .ok (.aaload, 1) := by decide +kernel
theorem dX9_leastTouched_39 : decode cX9_leastTouched 39 = .ok (.invokevirtual 338, 3) := by decide +kernel
theorem dX9_leastTouched_42 : decode cX9_leastTouched 42 = .ok (.ifCond .eq 5, 3) := by decide +kernel
theorem dX9_leastTouched_45 : decode cX9_leastTouched 45 = .ok (.iload_n 2, 1) := by decide +kernel
theorem dX9_leastTouched_46 : decode cX9_leastTouched 46 = .ok (.ireturn, 1) := by decide +kernel
theorem dX9_leastTouched_47 : decode cX9_leastTouched 47 = .ok (.iinc 2 1, 3) := by decide +kernel
theorem dX9_leastTouched_50 : decode cX9_leastTouched 50 = .ok (.goto (-48), 3) := by decide +kernel
theorem dX9_leastTouched_53 : decode cX9_leastTouched 53 = .ok (.iconst (-1), 1) := by decide +kernel
theorem dX9_leastTouched_54 : decode cX9_leastTouched 54 = .ok (.ireturn, 1) := by decide +kernel
theorem dX9_bringBack_0 : decode cX9_bringBack 0 = .ok (.aload_n 1, 1) := by decide +kernel
theorem dX9_bringBack_1 : decode cX9_bringBack 1 = .ok (.iconst 1, 1) := by decide +kernel
theorem dX9_bringBack_2 : decode cX9_bringBack 2 = .ok (.putfield 330, 3) := by decide +kernel
theorem dX9_bringBack_5 : decode cX9_bringBack 5 = .ok (.aload_n 0, 1) := by decide +kernel
theorem dX9_bringBack_6 : decode cX9_bringBack 6 = .ok (.dup, 1) := by decide +kernel
theorem dX9_bringBack_7 : decode cX9_bringBack 7 = .ok (.getfield 131, 3) := by decide +kernel
theorem dX9_bringBack_10 : decode cX9_bringBack 10 = .ok (.iconst 1, 1) := by decide +kernel
theorem dX9_bringBack_11 : decode cX9_bringBack 11 = .ok (.iadd, 1) := by decide +kernel
theorem dX9_bringBack_12 : decode cX9_bringBack 12 = .ok (.putfield 131, 3) := by decide +kernel
theorem dX9_bringBack_15 : decode cX9_bringBack 15 = .ok (.aload_n 0, 1) := by decide +kernel
theorem dX9_bringBack_16 : decode cX9_bringBack 16 = .ok (.invokevirtual 159, 3) := by decide +kernel
theorem dX9_bringBack_19 : decode cX9_bringBack 19 = .ok (.return_, 1) := by decide +kernel
theorem dX9_takeAway_0 : decode cX9_takeAway 0 = .ok (.aload_n 1, 1) := by decide +kernel
theorem dX9_takeAway_1 : decode cX9_takeAway 1 = .ok (.iconst 0, 1) := by decide +kernel
theorem dX9_takeAway_2 : decode cX9_takeAway 2 = .ok (.putfield 330, 3) := by decide +kernel
theorem dX9_takeAway_5 : decode cX9_takeAway 5 = .ok (.aload_n 0, 1) := by decide +kernel
theorem dX9_takeAway_6 : decode cX9_takeAway 6 = .ok (.dup, 1) := by decide +kernel
theorem dX9_takeAway_7 : decode cX9_takeAway 7 = .ok (.getfield 131, 3) := by decide +kernel
theorem dX9_takeAway_10 : decode cX9_takeAway 10 = .ok (.iconst 1, 1) := by decide +kernel
theorem dX9_takeAway_11 : decode cX9_takeAway 11 = .ok (.isub, 1) := by decide +kernel
theorem dX9_takeAway_12 : decode cX9_takeAway 12 = .ok (.putfield 131, 3) := by decide +kernel
theorem dX9_takeAway_15 : decode cX9_takeAway 15 = .ok (.aload_n 0, 1) := by decide +kernel
theorem dX9_takeAway_16 : decode cX9_takeAway 16 = .ok (.invokevirtual 159, 3) := by decide +kernel
theorem dX9_takeAway_19 : decode cX9_takeAway 19 = .ok (.return_, 1) := by decide +kernel
theorem dX9_forgetWhatWasSeen_0 : decode cX9_forgetWhatWasSeen 0 = .ok (.aload_n 0, 1) := by decide +kernel
theorem dX9_forgetWhatWasSeen_1 : decode cX9_forgetWhatWasSeen 1 = .ok (.iconst 0, 1) := by decide +kernel
theorem dX9_forgetWhatWasSeen_2 : decode cX9_forgetWhatWasSeen 2 = .ok (.putfield 342, 3) := by decide +kernel
theorem dX9_forgetWhatWasSeen_5 : decode cX9_forgetWhatWasSeen 5 = .ok (.aload_n 0, 1) := by decide +kernel
theorem dX9_forgetWhatWasSeen_6 : decode cX9_forgetWhatWasSeen 6 = .ok (.iconst 0, 1) := by decide +kernel
theorem dX9_forgetWhatWasSeen_7 : decode cX9_forgetWhatWasSeen 7 = .ok (.putfield 345, 3) := by decide +kernel
theorem dX9_forgetWhatWasSeen_10 : decode cX9_forgetWhatWasSeen 10 = .ok (.aload_n 0, 1) := by decide +kernel
theorem dX9_forgetWhatWasSeen_11 : decode cX9_forgetWhatWasSeen 11 = .ok (.getfield 45, 3) := by decide +kernel
theorem dX9_forgetWhatWasSeen_14 : decode cX9_forgetWhatWasSeen 14 = .ok (.iconst (-1), 1) := by decide +kernel
theorem dX9_forgetWhatWasSeen_15 : decode cX9_forgetWhatWasSeen 15 = .ok (.putfield 348, 3) := by decide +kernel
theorem dX9_forgetWhatWasSeen_18 : decode cX9_forgetWhatWasSeen 18 = .ok (.return_, 1) := by decide +kernel
theorem dX9_tangleNow_0 : decode cX9_tangleNow 0 = .ok (.aload_n 0, 1) := by decide +kernel
theorem dX9_tangleNow_1 : decode cX9_tangleNow 1 = .ok (.getfield 342, 3) := by decide +kernel
theorem dX9_tangleNow_4 : decode cX9_tangleNow 4 = .ok (.ifCond .ne 109, 3) := by decide +kernel
theorem dX9_tangleNow_7 : decode cX9_tangleNow 7 = .ok (.aload_n 0, 1) := by decide +kernel
theorem dX9_tangleNow_8 : decode cX9_tangleNow 8 = .ok (.getfield 52, 3) := by decide +kernel
theorem dX9_tangleNow_11 : decode cX9_tangleNow 11 = .ok (.invokevirtual 351, 3) := by decide +kernel
theorem dX9_tangleNow_14 : decode cX9_tangleNow 14 = .ok (.iconst 0, 1) := by decide +kernel
theorem dX9_tangleNow_15 : decode cX9_tangleNow 15 = .ok (.istore_n 1, 1) := by decide +kernel
theorem dX9_tangleNow_16 : decode cX9_tangleNow 16 = .ok (.iload_n 1, 1) := by decide +kernel
theorem dX9_tangleNow_17 : decode cX9_tangleNow 17 = .ok (.aload_n 0, 1) := by decide +kernel
theorem dX9_tangleNow_18 : decode cX9_tangleNow 18 = .ok (.getfield 134, 3) := by decide +kernel
theorem dX9_tangleNow_21 : decode cX9_tangleNow 21 = .ok (.if_icmp .ge 34, 3) := by decide +kernel
theorem dX9_tangleNow_24 : decode cX9_tangleNow 24 = .ok (.aload_n 0, 1) := by decide +kernel
theorem dX9_tangleNow_25 : decode cX9_tangleNow 25 = .ok (.iload_n 1, 1) := by decide +kernel
theorem dX9_tangleNow_26 : decode cX9_tangleNow 26 = .ok (.invokevirtual 229, 3) := by decide +kernel
theorem dX9_tangleNow_29 : decode cX9_tangleNow 29 = .ok (.ifCond .eq 20, 3) := by decide +kernel
theorem dX9_tangleNow_32 : decode cX9_tangleNow 32 = .ok (.aload_n 0, 1) := by decide +kernel
theorem dX9_tangleNow_33 : decode cX9_tangleNow 33 = .ok (.getfield 52, 3) := by decide +kernel
theorem dX9_tangleNow_36 : decode cX9_tangleNow 36 = .ok (.iload_n 1, 1) := by decide +kernel
theorem dX9_tangleNow_37 : decode cX9_tangleNow 37 = .ok (.aload_n 0, 1) := by decide +kernel
theorem dX9_tangleNow_38 : decode cX9_tangleNow 38 = .ok (.getfield 17, 3) := by decide +kernel
theorem dX9_tangleNow_41 : decode cX9_tangleNow 41 = .ok (.iload_n 1, 1) := by decide +kernel
theorem dX9_tangleNow_42 : decode cX9_tangleNow 42 = .ok (.aaload, 1) := by decide +kernel
theorem dX9_tangleNow_43 : decode cX9_tangleNow 43 = .ok (.getfield 211, 3) := by decide +kernel
theorem dX9_tangleNow_46 : decode cX9_tangleNow 46 = .ok (.invokevirtual 354, 3) := by decide +kernel
theorem dX9_tangleNow_49 : decode cX9_tangleNow 49 = .ok (.iinc 1 1, 3) := by decide +kernel
theorem dX9_tangleNow_52 : decode cX9_tangleNow 52 = .ok (.goto (-36), 3) := by decide +kernel
theorem dX9_tangleNow_55 : decode cX9_tangleNow 55 = .ok (.iconst 0, 1) := by decide +kernel
theorem dX9_tangleNow_56 : decode cX9_tangleNow 56 = .ok (.istore_n 1, 1) := by decide +kernel
theorem dX9_tangleNow_57 : decode cX9_tangleNow 57 = .ok (.iload_n 1, 1) := by decide +kernel
theorem dX9_tangleNow_58 : decode cX9_tangleNow 58 = .ok (.aload_n 0, 1) := by decide +kernel
theorem dX9_tangleNow_59 : decode cX9_tangleNow 59 = .ok (.getfield 52, 3) := by decide +kernel
theorem dX9_tangleNow_62 : decode cX9_tangleNow 62 = .ok (.getfield 357, 3) := by decide +kernel
theorem dX9_tangleNow_65 : decode cX9_tangleNow 65 = .ok (.if_icmp .ge 36, 3) := by decide +kernel
theorem dX9_tangleNow_68 : decode cX9_tangleNow 68 = .ok (.iload_n 1, 1) := by decide +kernel
theorem dX9_tangleNow_69 : decode cX9_tangleNow 69 = .ok (.iconst 1, 1) := by decide +kernel
theorem dX9_tangleNow_70 : decode cX9_tangleNow 70 = .ok (.iadd, 1) := by decide +kernel
theorem dX9_tangleNow_71 : decode cX9_tangleNow 71 = .ok (.istore_n 2, 1) := by decide +kernel
theorem dX9_tangleNow_72 : decode cX9_tangleNow 72 = .ok (.iload_n 2, 1) := by decide +kernel
theorem dX9_tangleNow_73 : decode cX9_tangleNow 73 = .ok (.aload_n 0, 1) := by decide +kernel
theorem dX9_tangleNow_74 : decode cX9_tangleNow 74 = .ok (.getfield 52, 3) := by decide +kernel
theorem dX9_tangleNow_77 : decode cX9_tangleNow 77 = .ok (.getfield 357, 3) := by decide +kernel
theorem dX9_tangleNow_80 : decode cX9_tangleNow 80 = .ok (.if_icmp .ge 15, 3) := by decide +kernel
theorem dX9_tangleNow_83 : decode cX9_tangleNow 83 = .ok (.aload_n 0, 1) := by decide +kernel
theorem dX9_tangleNow_84 : decode cX9_tangleNow 84 = .ok (.iload_n 1, 1) := by decide +kernel
theorem dX9_tangleNow_85 : decode cX9_tangleNow 85 = .ok (.iload_n 2, 1) := by decide +kernel
theorem dX9_tangleNow_86 : decode cX9_tangleNow 86 = .ok (.invokevirtual 358, 3) := by decide +kernel
theorem dX9_tangleNow_89 : decode cX9_tangleNow 89 = .ok (.iinc 2 1, 3) := by decide +kernel
theorem dX9_tangleNow_92 : decode cX9_tangleNow 92 = .ok (.goto (-20), 3) := by decide +kernel
theorem dX9_tangleNow_95 : decode cX9_tangleNow 95 = .ok (.iinc 1 1, 3) := by decide +kernel
theorem dX9_tangleNow_98 : decode cX9_tangleNow 98 = .ok (.goto (-41), 3) := by decide +kernel
theorem dX9_tangleNow_101 : decode cX9_tangleNow 101 = .ok (.aload_n 0, 1) := by decide +kernel
theorem dX9_tangleNow_102 : decode cX9_tangleNow 102 = .ok (.getfield 52, 3) := by decide +kernel
theorem dX9_tangleNow_105 : decode cX9_tangleNow 105 = .ok (.invokevirtual 361, 3) := by decide +kernel
theorem dX9_tangleNow_108 : decode cX9_tangleNow 108 = .ok (.aload_n 0, 1) := by decide +kernel
theorem dX9_tangleNow_109 : decode cX9_tangleNow 109 = .ok (.iconst 1, 1) := by decide +kernel
theorem dX9_tangleNow_110 : decode cX9_tangleNow 110 = .ok (.putfield 342, 3) := by decide +kernel
theorem dX9_tangleNow_113 : decode cX9_tangleNow 113 = .ok (.aload_n 0, 1) := by decide +kernel
theorem dX9_tangleNow_114 : decode cX9_tangleNow 114 = .ok (.getfield 52, 3) := by decide +kernel
theorem dX9_tangleNow_117 : decode cX9_tangleNow 117 = .ok (.areturn, 1) := by decide +kernel
theorem dX9_lookAtPair_0 : decode cX9_lookAtPair 0 = .ok (.aload_n 0, 1) := by decide +kernel
theorem dX9_lookAtPair_1 : decode cX9_lookAtPair 1 = .ok (.getfield 52, 3) := by decide +kernel
theorem dX9_lookAtPair_4 : decode cX9_lookAtPair 4 = .ok (.iload_n 1, 1) := by decide +kernel
theorem dX9_lookAtPair_5 : decode cX9_lookAtPair 5 = .ok (.invokevirtual 282, 3) := by decide +kernel
theorem dX9_lookAtPair_8 : decode cX9_lookAtPair 8 = .ok (.istore_n 3, 1) := by decide +kernel
theorem dX9_lookAtPair_9 : decode cX9_lookAtPair 9 = .ok (.aload_n 0, 1) := by decide +kernel
theorem dX9_lookAtPair_10 : decode cX9_lookAtPair 10 = .ok (.getfield 52, 3) := by decide +kernel
theorem dX9_lookAtPair_13 : decode cX9_lookAtPair 13 = .ok (.iload_n 2, 1) := by decide +kernel
theorem dX9_lookAtPair_14 : decode cX9_lookAtPair 14 = .ok (.invokevirtual 282, 3) := by decide +kernel
theorem dX9_lookAtPair_17 : decode cX9_lookAtPair 17 = .ok (.istore 4, 2) := by decide +kernel
theorem dX9_lookAtPair_19 : decode cX9_lookAtPair 19 = .ok (.aload_n 0, 1) := by decide +kernel
theorem dX9_lookAtPair_20 : decode cX9_lookAtPair 20 = .ok (.iload_n 3, 1) := by decide +kernel
theorem dX9_lookAtPair_21 : decode cX9_lookAtPair 21 = .ok (.invokevirtual 190, 3) := by decide +kernel
theorem dX9_lookAtPair_24 : decode cX9_lookAtPair 24 = .ok (.ifCond .eq 12, 3) := by decide +kernel
theorem dX9_lookAtPair_27 : decode cX9_lookAtPair 27 = .ok (.aload_n 0, 1) := by decide +kernel
theorem dX9_lookAtPair_28 : decode cX9_lookAtPair 28 = .ok (.iload 4, 2) := by decide +kernel
theorem dX9_lookAtPair_30 : decode cX9_lookAtPair 30 = .ok (.invokevirtual 190, 3) := by decide +kernel
theorem dX9_lookAtPair_33 : decode cX9_lookAtPair 33 = .ok (.ifCond .ne 4, 3) := by decide +kernel
theorem dX9_lookAtPair_36 : decode cX9_lookAtPair 36 = .ok (.return_, 1) := by decide +kernel
theorem dX9_lookAtPair_37 : decode cX9_lookAtPair 37 = .ok (.aload_n 0, 1) := by decide +kernel
theorem dX9_lookAtPair_38 : decode cX9_lookAtPair 38 = .ok (.getfield 17, 3) := by decide +kernel
theorem dX9_lookAtPair_41 : decode cX9_lookAtPair 41 = .ok (.iload_n 3, 1) := by decide +kernel
theorem dX9_lookAtPair_42 : decode cX9_lookAtPair 42 = .ok (.aaload, 1) := by decide +kernel
theorem dX9_lookAtPair_43 : decode cX9_lookAtPair 43 = .ok (.astore 5, 2) := by decide +kernel
theorem dX9_lookAtPair_45 : decode cX9_lookAtPair 45 = .ok (.aload_n 0, 1) := by decide +kernel
theorem dX9_lookAtPair_46 : decode cX9_lookAtPair 46 = .ok (.getfield 17, 3) := by decide +kernel
theorem dX9_lookAtPair_49 : decode cX9_lookAtPair 49 = .ok (.iload 4, 2) := by decide +kernel
theorem dX9_lookAtPair_51 : decode cX9_lookAtPair 51 = .ok (.aaload, 1) := by decide +kernel
theorem dX9_lookAtPair_52 : decode cX9_lookAtPair 52 = .ok (.astore 6, 2) := by decide +kernel
theorem dX9_lookAtPair_54 : decode cX9_lookAtPair 54 = .ok (.iconst 0, 1) := by decide +kernel
theorem dX9_lookAtPair_55 : decode cX9_lookAtPair 55 = .ok (.istore 7, 2) := by decide +kernel
theorem dX9_lookAtPair_57 : decode cX9_lookAtPair 57 = .ok (.iload 7, 2) := by decide +kernel
theorem dX9_lookAtPair_59 : decode cX9_lookAtPair 59 = .ok (.aload 5, 2) := by decide +kernel
theorem dX9_lookAtPair_61 : decode cX9_lookAtPair 61 = .ok (.getfield 214, 3) := by decide +kernel
theorem dX9_lookAtPair_64 : decode cX9_lookAtPair 64 = .ok (.if_icmp .ge 79, 3) := by decide +kernel
theorem dX9_lookAtPair_67 : decode cX9_lookAtPair 67 = .ok (.iconst 0, 1) := by decide +kernel
theorem dX9_lookAtPair_68 : decode cX9_lookAtPair 68 = .ok (.istore 8, 2) := by decide +kernel
theorem dX9_lookAtPair_70 : decode cX9_lookAtPair 70 = .ok (.iload 8, 2) := by decide +kernel
theorem dX9_lookAtPair_72 : decode cX9_lookAtPair 72 = .ok (.aload 6, 2) := by decide +kernel
theorem dX9_lookAtPair_74 : decode cX9_lookAtPair 74 = .ok (.getfield 214, 3) := by decide +kernel
theorem dX9_lookAtPair_77 : decode cX9_lookAtPair 77 = .ok (.if_icmp .ge 60, 3) := by decide +kernel
theorem dX9_lookAtPair_80 : decode cX9_lookAtPair 80 = .ok (.aload_n 0, 1) := by decide +kernel
theorem dX9_lookAtPair_81 : decode cX9_lookAtPair 81 = .ok (.getfield 24, 3) := by decide +kernel
theorem dX9_lookAtPair_84 : decode cX9_lookAtPair 84 = .ok (.aload 5, 2) := by decide +kernel
theorem dX9_lookAtPair_86 : decode cX9_lookAtPair 86 = .ok (.iload 7, 2) := by decide +kernel
theorem dX9_lookAtPair_88 : decode cX9_lookAtPair 88 = .ok (.aload 6, 2) := by decide +kernel
theorem dX9_lookAtPair_90 : decode cX9_lookAtPair 90 = .ok (.iload 8, 2) := by decide +kernel
theorem dX9_lookAtPair_92 : decode cX9_lookAtPair 92 = .ok (.invokevirtual 364, 3) := by decide +kernel
theorem dX9_lookAtPair_95 : decode cX9_lookAtPair 95 = .ok (.ifCond .eq 36, 3) := by decide +kernel
theorem dX9_lookAtPair_98 : decode cX9_lookAtPair 98 = .ok (.aload_n 0, 1) := by decide +kernel
theorem dX9_lookAtPair_99 : decode cX9_lookAtPair 99 = .ok (.getfield 24, 3) := by decide +kernel
theorem dX9_lookAtPair_102 : decode cX9_lookAtPair 102 = .ok (.getfield 368, 3) := by decide +kernel
theorem dX9_lookAtPair_105 : decode cX9_lookAtPair 105 = .ok (.lconst 0, 1) := by decide +kernel
theorem dX9_lookAtPair_106 : decode cX9_lookAtPair 106 = .ok (.lcmp, 1) := by decide +kernel
theorem dX9_lookAtPair_107 : decode cX9_lookAtPair 107 = .ok (.ifCond .le 15, 3) := by decide +kernel
theorem dX9_lookAtPair_110 : decode cX9_lookAtPair 110 = .ok (.aload_n 0, 1) := by decide +kernel
theorem dX9_lookAtPair_111 : decode cX9_lookAtPair 111 = .ok (.getfield 52, 3) := by decide +kernel
theorem dX9_lookAtPair_114 : decode cX9_lookAtPair 114 = .ok (.iload_n 2, 1) := by decide +kernel
theorem dX9_lookAtPair_115 : decode cX9_lookAtPair 115 = .ok (.iload_n 1, 1) := by decide +kernel
theorem dX9_lookAtPair_116 : decode cX9_lookAtPair 116 = .ok (.invokevirtual 369, 3) := by decide +kernel
theorem dX9_lookAtPair_119 : decode cX9_lookAtPair 119 = .ok (.goto 12, 3) := by decide +kernel
theorem dX9_lookAtPair_122 : decode cX9_lookAtPair 122 = .ok (.aload_n 0, 1) := by decide +kernel
theorem dX9_lookAtPair_123 : decode cX9_lookAtPair 123 = .ok (.getfield 52, 3) := by decide +kernel
theorem dX9_lookAtPair_126 : decode cX9_lookAtPair 126 = .ok (.iload_n 1, 1) := by decide +kernel
theorem dX9_lookAtPair_127 : decode cX9_lookAtPair 127 = .ok (.iload_n 2, 1) := by decide +kernel
theorem dX9_lookAtPair_128 : decode cX9_lookAtPair 128 = .ok (.invokevirtual 369, 3) := by decide +kernel
theorem dX9_lookAtPair_131 : decode cX9_lookAtPair 131 = .ok (.iinc 8 1, 3) := by decide +kernel
theorem dX9_lookAtPair_134 : decode cX9_lookAtPair 134 = .ok (.goto (-64), 3) := by decide +kernel
theorem dX9_lookAtPair_137 : decode cX9_lookAtPair 137 = .ok (.iinc 7 1, 3) := by decide +kernel
theorem dX9_lookAtPair_140 : decode cX9_lookAtPair 140 = .ok (.goto (-83), 3) := by decide +kernel
theorem dX9_lookAtPair_143 : decode cX9_lookAtPair 143 = .ok (.return_, 1) := by decide +kernel
theorem dX9_remedyFor_0 : decode cX9_remedyFor 0 = .ok (.aload_n 0, 1) := by decide +kernel
theorem dX9_remedyFor_1 : decode cX9_remedyFor 1 = .ok (.getfield 345, 3) := by decide +kernel
theorem dX9_remedyFor_4 : decode cX9_remedyFor 4 = .ok (.ifCond .ne 16, 3) := by decide +kernel
theorem dX9_remedyFor_7 : decode cX9_remedyFor 7 = .ok (.aload_n 0, 1) := by decide +kernel
theorem dX9_remedyFor_8 : decode cX9_remedyFor 8 = .ok (.getfield 59, 3) := by decide +kernel
theorem dX9_remedyFor_11 : decode cX9_remedyFor 11 = .ok (.aload_n 1, 1) := by decide +kernel
theorem dX9_remedyFor_12 : decode cX9_remedyFor 12 = .ok (.invokevirtual 372, 3) := by decide +kernel
theorem dX9_remedyFor_15 : decode cX9_remedyFor 15 = .ok (.aload_n 0, 1) := by decide +kernel
theorem dX9_remedyFor_16 : decode cX9_remedyFor 16 = .ok (.iconst 1, 1) := by decide +kernel
theorem dX9_remedyFor_17 : decode cX9_remedyFor 17 = .ok (.putfield 345, 3) := by decide +kernel
theorem dX9_remedyFor_20 : decode cX9_remedyFor 20 = .ok (.aload_n 0, 1) := by decide +kernel
theorem dX9_remedyFor_21 : decode cX9_remedyFor 21 = .ok (.getfield 59, 3) := by decide +kernel
theorem dX9_remedyFor_24 : decode cX9_remedyFor 24 = .ok (.areturn, 1) := by decide +kernel
theorem dX9_crossingsOf_0 : decode cX9_crossingsOf 0 = .ok (.aload_n 0, 1) := by decide +kernel
theorem dX9_crossingsOf_1 : decode cX9_crossingsOf 1 = .ok (.iload_n 1, 1) := by decide +kernel
theorem dX9_crossingsOf_2 : decode cX9_crossingsOf 2 = .ok (.invokevirtual 149, 3) := by decide +kernel
theorem dX9_crossingsOf_5 : decode cX9_crossingsOf 5 = .ok (.astore_n 2, 1) := by decide +kernel
theorem dX9_crossingsOf_6 : decode cX9_crossingsOf 6 = .ok (.aload_n 0, 1) := by decide +kernel
theorem dX9_crossingsOf_7 : decode cX9_crossingsOf 7 = .ok (.getfield 45, 3) := by decide +kernel
theorem dX9_crossingsOf_10 : decode cX9_crossingsOf 10 = .ok (.getfield 348, 3) := by decide +kernel
theorem dX9_crossingsOf_13 : decode cX9_crossingsOf 13 = .ok (.iload_n 1, 1) := by decide +kernel
theorem dX9_crossingsOf_14 : decode cX9_crossingsOf 14 = .ok (.if_icmp .ne 8, 3) := by decide +kernel
theorem dX9_crossingsOf_17 : decode cX9_crossingsOf 17 = .ok (.aload_n 0, 1) := by decide +kernel
theorem dX9_crossingsOf_18 : decode cX9_crossingsOf 18 = .ok (.getfield 45, 3) := by decide +kernel
theorem dX9_crossingsOf_21 : decode cX9_crossingsOf 21 = .ok (.areturn, 1) := by decide +kernel
theorem dX9_crossingsOf_22 : decode cX9_crossingsOf 22 = .ok (.aload_n 0, 1) := by decide +kernel
theorem dX9_crossingsOf_23 : decode cX9_crossingsOf 23 = .ok (.getfield 45, 3) := by decide +kernel
theorem dX9_crossingsOf_26 : decode cX9_crossingsOf 26 = .ok (.iconst 0, 1) := by decide +kernel
theorem dX9_crossingsOf_27 : decode cX9_crossingsOf 27 = .ok (.putfield 243, 3) := by decide +kernel
theorem dX9_crossingsOf_30 : decode cX9_crossingsOf 30 = .ok (.iconst 0, 1) := by decide +kernel
theorem dX9_crossingsOf_31 : decode cX9_crossingsOf 31 = .ok (.istore_n 3, 1) := by decide +kernel
theorem dX9_crossingsOf_32 : decode cX9_crossingsOf 32 = .ok (.iload_n 3, 1) := by decide +kernel
theorem dX9_crossingsOf_33 : decode cX9_crossingsOf 33 = .ok (.aload_n 0, 1) := by decide +kernel
theorem dX9_crossingsOf_34 : decode cX9_crossingsOf 34 = .ok (.getfield 134, 3) := by decide +kernel
theorem dX9_crossingsOf_37 : decode cX9_crossingsOf 37 = .ok (.if_icmp .ge 34, 3) := by decide +kernel
theorem dX9_crossingsOf_40 : decode cX9_crossingsOf 40 = .ok (.iload_n 3, 1) := by decide +kernel
theorem dX9_crossingsOf_41 : decode cX9_crossingsOf 41 = .ok (.iload_n 1, 1) := by decide +kernel
theorem dX9_crossingsOf_42 : decode cX9_crossingsOf 42 = .ok (.if_icmp .eq 23, 3) := by decide +kernel
theorem dX9_crossingsOf_45 : decode cX9_crossingsOf 45 = .ok (.aload_n 0, 1) := by decide +kernel
theorem dX9_crossingsOf_46 : decode cX9_crossingsOf 46 = .ok (.iload_n 3, 1) := by decide +kernel
theorem dX9_crossingsOf_47 : decode cX9_crossingsOf 47 = .ok (.invokevirtual 229, 3) := by decide +kernel
theorem dX9_crossingsOf_50 : decode cX9_crossingsOf 50 = .ok (.ifCond .eq 15, 3) := by decide +kernel
theorem dX9_crossingsOf_53 : decode cX9_crossingsOf 53 = .ok (.aload_n 0, 1) := by decide +kernel
theorem dX9_crossingsOf_54 : decode cX9_crossingsOf 54 = .ok (.aload_n 2, 1) := by decide +kernel
theorem dX9_crossingsOf_55 : decode cX9_crossingsOf 55 = .ok (.iload_n 3, 1) := by decide +kernel
theorem dX9_crossingsOf_56 : decode cX9_crossingsOf 56 = .ok (.aload_n 0, 1) := by decide +kernel
theorem dX9_crossingsOf_57 : decode cX9_crossingsOf 57 = .ok (.getfield 17, 3) := by decide +kernel
theorem dX9_crossingsOf_60 : decode cX9_crossingsOf 60 = .ok (.iload_n 3, 1) := by decide +kernel
theorem dX9_crossingsOf_61 : decode cX9_crossingsOf 61 = .ok (.aaload, 1) := by decide +kernel
theorem dX9_crossingsOf_62 : decode cX9_crossingsOf 62 = .ok (.invokevirtual 376, 3) := by decide +kernel
theorem dX9_crossingsOf_65 : decode cX9_crossingsOf 65 = .ok (.iinc 3 1, 3) := by decide +kernel
theorem dX9_crossingsOf_68 : decode cX9_crossingsOf 68 = .ok (.goto (-36), 3) := by decide +kernel
theorem dX9_crossingsOf_71 : decode cX9_crossingsOf 71 = .ok (.aload_n 0, 1) := by decide +kernel
theorem dX9_crossingsOf_72 : decode cX9_crossingsOf 72 = .ok (.getfield 45, 3) := by decide +kernel
theorem dX9_crossingsOf_75 : decode cX9_crossingsOf 75 = .ok (.iload_n 1, 1) := by decide +kernel
theorem dX9_crossingsOf_76 : decode cX9_crossingsOf 76 = .ok (.putfield 348, 3) := by decide +kernel
theorem dX9_crossingsOf_79 : decode cX9_crossingsOf 79 = .ok (.aload_n 0, 1) := by decide +kernel
theorem dX9_crossingsOf_80 : decode cX9_crossingsOf 80 = .ok (.getfield 45, 3) := by decide +kernel
theorem dX9_crossingsOf_83 : decode cX9_crossingsOf 83 = .ok (.areturn, 1) := by decide +kernel
theorem dX9_listCrossings_0 : decode cX9_listCrossings 0 = .ok (.iconst 0, 1) := by decide +kernel
theorem dX9_listCrossings_1 : decode cX9_listCrossings 1 = .ok (.istore 4, 2) := by decide +kernel
theorem dX9_listCrossings_3 : decode cX9_listCrossings 3 = .ok (.iload 4, 2) := by decide +kernel
theorem dX9_listCrossings_5 : decode cX9_listCrossings 5 = .ok (.aload_n 1, 1) := by decide +kernel
theorem dX9_listCrossings_6 : decode cX9_listCrossings 6 = .ok (.getfield 214, 3) := by decide +kernel
theorem dX9_listCrossings_9 : decode cX9_listCrossings 9 = .ok (.if_icmp .ge 59, 3) := by decide +kernel
theorem dX9_listCrossings_12 : decode cX9_listCrossings 12 = .ok (.iconst 0, 1) := by decide +kernel
theorem dX9_listCrossings_13 : decode cX9_listCrossings 13 = .ok (.istore 5, 2) := by decide +kernel
theorem dX9_listCrossings_15 : decode cX9_listCrossings 15 = .ok (.iload 5, 2) := by decide +kernel
theorem dX9_listCrossings_17 : decode cX9_listCrossings 17 = .ok (.aload_n 3, 1) := by decide +kernel
theorem dX9_listCrossings_18 : decode cX9_listCrossings 18 = .ok (.getfield 214, 3) := by decide +kernel
theorem dX9_listCrossings_21 : decode cX9_listCrossings 21 = .ok (.if_icmp .ge 41, 3) := by decide +kernel
theorem dX9_listCrossings_24 : decode cX9_listCrossings 24 = .ok (.aload_n 0, 1) := by decide +kernel
theorem dX9_listCrossings_25 : decode cX9_listCrossings 25 = .ok (.getfield 24, 3) := by decide +kernel
theorem dX9_listCrossings_28 : decode cX9_listCrossings 28 = .ok (.aload_n 1, 1) := by decide +kernel
theorem dX9_listCrossings_29 : decode cX9_listCrossings 29 = .ok (.iload 4, 2) := by decide +kernel
theorem dX9_listCrossings_31 : decode cX9_listCrossings 31 = .ok (.aload_n 3, 1) := by decide +kernel
theorem dX9_listCrossings_32 : decode cX9_listCrossings 32 = .ok (.iload 5, 2) := by decide +kernel
theorem dX9_listCrossings_34 : decode cX9_listCrossings 34 = .ok (.invokevirtual 364, 3) := by decide +kernel
theorem dX9_listCrossings_37 : decode cX9_listCrossings 37 = .ok (.ifCond .eq 19, 3) := by decide +kernel
theorem dX9_listCrossings_40 : decode cX9_listCrossings 40 = .ok (.aload_n 0, 1) := by decide +kernel
theorem dX9_listCrossings_41 : decode cX9_listCrossings 41 = .ok (.getfield 45, 3) := by decide +kernel
theorem dX9_listCrossings_44 : decode cX9_listCrossings 44 = .ok (.iload 4, 2) := by decide +kernel
theorem dX9_listCrossings_46 : decode cX9_listCrossings 46 = .ok (.iload_n 2, 1) := by decide +kernel
theorem dX9_listCrossings_47 : decode cX9_listCrossings 47 = .ok (.iload 5, 2) := by decide +kernel
theorem dX9_listCrossings_49 : decode cX9_listCrossings 49 = .ok (.aload_n 0, 1) := by decide +kernel
theorem dX9_listCrossings_50 : decode cX9_listCrossings 50 = .ok (.getfield 24, 3) := by decide +kernel
theorem dX9_listCrossings_53 : decode cX9_listCrossings 53 = .ok (.invokevirtual 380, 3) := by decide +kernel
theorem dX9_listCrossings_56 : decode cX9_listCrossings 56 = .ok (.iinc 5 1, 3) := by decide +kernel
theorem dX9_listCrossings_59 : decode cX9_listCrossings 59 = .ok (.goto (-44), 3) := by decide +kernel
theorem dX9_listCrossings_62 : decode cX9_listCrossings 62 = .ok (.iinc 4 1, 3) := by decide +kernel
theorem dX9_listCrossings_65 : decode cX9_listCrossings 65 = .ok (.goto (-62), 3) := by decide +kernel
theorem dX9_listCrossings_68 : decode cX9_listCrossings 68 = .ok (.return_, 1) := by decide +kernel
theorem dX9_wrongInOrder_0 : decode cX9_wrongInOrder 0 = .ok (.aload_n 1, 1) := by decide +kernel
theorem dX9_wrongInOrder_1 : decode cX9_wrongInOrder 1 = .ok (.invokevirtual 384, 3) := by decide +kernel
theorem dX9_wrongInOrder_4 : decode cX9_wrongInOrder 4 = .ok (.lstore_n 2, 1) := by decide +kernel
theorem dX9_wrongInOrder_5 : decode cX9_wrongInOrder 5 = .ok (.iconst 0, 1) := by decide +kernel
theorem dX9_wrongInOrder_6 : decode cX9_wrongInOrder 6 = .ok (.istore 4, 2) := by decide +kernel
theorem dX9_wrongInOrder_8 : decode cX9_wrongInOrder 8 = .ok (.iload 4, 2) := by decide +kernel
theorem dX9_wrongInOrder_10 : decode cX9_wrongInOrder 10 = .ok (.aload_n 0, 1) := by decide +kernel
theorem dX9_wrongInOrder_11 : decode cX9_wrongInOrder 11 = .ok (.getfield 309, 3) := by decide +kernel
theorem dX9_wrongInOrder_14 : decode cX9_wrongInOrder 14 = .ok (.if_icmp .ge 65, 3) := by decide +kernel
theorem dX9_wrongInOrder_17 : decode cX9_wrongInOrder 17 = .ok (.aload_n 1, 1) := by decide +kernel
theorem dX9_wrongInOrder_18 : decode cX9_wrongInOrder 18 = .ok (.aload_n 0, 1) := by decide +kernel
theorem dX9_wrongInOrder_19 : decode cX9_wrongInOrder 19 = .ok (.getfield 63, 3) := by decide +kernel
theorem dX9_wrongInOrder_22 : decode cX9_wrongInOrder 22 = .ok (.iload 4, 2) := by decide +kernel
theorem dX9_wrongInOrder_24 : decode cX9_wrongInOrder 24 = .ok (.iaload, 1) := by decide +kernel
theorem dX9_wrongInOrder_25 : decode cX9_wrongInOrder 25 = .ok (.invokevirtual 232, 3) := by decide +kernel
theorem dX9_wrongInOrder_28 : decode cX9_wrongInOrder 28 = .ok (.istore 5, 2) := by decide +kernel
theorem dX9_wrongInOrder_30 : decode cX9_wrongInOrder 30 = .ok (.iload 5, 2) := by decide +kernel
theorem dX9_wrongInOrder_32 : decode cX9_wrongInOrder 32 = .ok (.iconst (-1), 1) := by decide +kernel
theorem dX9_wrongInOrder_33 : decode cX9_wrongInOrder 33 = .ok (.if_icmp .eq 26, 3) := by decide +kernel
theorem dX9_wrongInOrder_36 : decode cX9_wrongInOrder 36 = .ok (.lload_n 2, 1) := by decide +kernel
theorem dX9_wrongInOrder_37 : decode cX9_wrongInOrder 37 = .ok (.iload 5, 2) := by decide +kernel
theorem dX9_wrongInOrder_39 : decode cX9_wrongInOrder 39 = .ok (.invokestatic 388, 3) := by decide +kernel
theorem dX9_wrongInOrder_42 : decode cX9_wrongInOrder 42 = .ok (.ifCond .eq 17, 3) := by decide +kernel
theorem dX9_wrongInOrder_45 : decode cX9_wrongInOrder 45 = .ok (.aload_n 1, 1) := by decide +kernel
theorem dX9_wrongInOrder_46 : decode cX9_wrongInOrder 46 = .ok (.getfield 392, 3) := by decide +kernel
theorem dX9_wrongInOrder_49 : decode cX9_wrongInOrder 49 = .ok (.iload 5, 2) := by decide +kernel
theorem dX9_wrongInOrder_51 : decode cX9_wrongInOrder 51 = .ok (.laload, 1) := by decide +kernel
theorem dX9_wrongInOrder_52 : decode cX9_wrongInOrder 52 = .ok (.lload_n 2, 1) := by decide +kernel
theorem dX9_wrongInOrder_53 : decode cX9_wrongInOrder 53 = .ok (.land, 1) := by decide +kernel
theorem dX9_wrongInOrder_54 : decode cX9_wrongInOrder 54 = .ok (.lconst 0, 1) := by decide +kernel
theorem dX9_wrongInOrder_55 : decode cX9_wrongInOrder 55 = .ok (.lcmp, 1) := by decide +kernel
theorem dX9_wrongInOrder_56 : decode cX9_wrongInOrder 56 = .ok (.ifCond .eq 6, 3) := by decide +kernel
theorem dX9_wrongInOrder_59 : decode cX9_wrongInOrder 59 = .ok (.iload 4, 2) := by decide +kernel
theorem dX9_wrongInOrder_61 : decode cX9_wrongInOrder 61 = .ok (.ireturn, 1) := by decide +kernel
theorem dX9_wrongInOrder_62 : decode cX9_wrongInOrder 62 = .ok (.lload_n 2, 1) := by decide +kernel
theorem dX9_wrongInOrder_63 : decode cX9_wrongInOrder 63 = .ok (.lconst 1, 1) := by decide +kernel
theorem dX9_wrongInOrder_64 : decode cX9_wrongInOrder 64 = .ok (.iload 5, 2) := by decide +kernel
theorem dX9_wrongInOrder_66 : decode cX9_wrongInOrder 66 = .ok (.lshl, 1) := by decide +kernel
theorem dX9_wrongInOrder_67 : decode cX9_wrongInOrder 67 = .ok (.ldc2_w 395, 3) := by decide +kernel
theorem dX9_wrongInOrder_70 : decode cX9_wrongInOrder 70 = .ok (.lxor, 1) := by decide +kernel
theorem dX9_wrongInOrder_71 : decode cX9_wrongInOrder 71 = .ok (.land, 1) := by decide +kernel
theorem dX9_wrongInOrder_72 : decode cX9_wrongInOrder 72 = .ok (.lstore_n 2, 1) := by decide +kernel
theorem dX9_wrongInOrder_73 : decode cX9_wrongInOrder 73 = .ok (.iinc 4 1, 3) := by decide +kernel
theorem dX9_wrongInOrder_76 : decode cX9_wrongInOrder 76 = .ok (.goto (-68), 3) := by decide +kernel
theorem dX9_wrongInOrder_79 : decode cX9_wrongInOrder 79 = .ok (.lload_n 2, 1) := by decide +kernel
theorem dX9_wrongInOrder_80 : decode cX9_wrongInOrder 80 = .ok (.lconst 0, 1) := by decide +kernel
theorem dX9_wrongInOrder_81 : decode cX9_wrongInOrder 81 = .ok (.lcmp, 1) := by decide +kernel
theorem dX9_wrongInOrder_82 : decode cX9_wrongInOrder 82 = .ok (.ifCond .ne 7, 3) := by decide +kernel
theorem dX9_wrongInOrder_85 : decode cX9_wrongInOrder 85 = .ok (.iconst (-1), 1) := by decide +kernel
theorem dX9_wrongInOrder_86 : decode cX9_wrongInOrder 86 = .ok (.goto 7, 3) := by decide +kernel
theorem dX9_wrongInOrder_89 : decode cX9_wrongInOrder 89 = .ok (.aload_n 0, 1) := by decide +kernel
theorem dX9_wrongInOrder_90 : decode cX9_wrongInOrder 90 = .ok (.getfield 309, 3) := by decide +kernel
theorem dX9_wrongInOrder_93 : decode cX9_wrongInOrder 93 = .ok (.ireturn, 1) := by decide +kernel
theorem dX9_wrongInRing_0 : decode cX9_wrongInRing 0 = .ok (.lconst 0, 1) := by decide +kernel
theorem dX9_wrongInRing_1 : decode cX9_wrongInRing 1 = .ok (.lstore_n 2, 1) := by decide +kernel
theorem dX9_wrongInRing_2 : decode cX9_wrongInRing 2 = .ok (.iconst (-1), 1) := by decide +kernel
theorem dX9_wrongInRing_3 : decode cX9_wrongInRing 3 = .ok (.istore 4, 2) := by decide +kernel
theorem dX9_wrongInRing_5 : decode cX9_wrongInRing 5 = .ok (.iconst (-1), 1) := by decide +kernel
theorem dX9_wrongInRing_6 : decode cX9_wrongInRing 6 = .ok (.istore 5, 2) := by decide +kernel
theorem dX9_wrongInRing_8 : decode cX9_wrongInRing 8 = .ok (.iconst 0, 1) := by decide +kernel
theorem dX9_wrongInRing_9 : decode cX9_wrongInRing 9 = .ok (.istore 6, 2) := by decide +kernel
theorem dX9_wrongInRing_11 : decode cX9_wrongInRing 11 = .ok (.iload 6, 2) := by decide +kernel
theorem dX9_wrongInRing_13 : decode cX9_wrongInRing 13 = .ok (.aload_n 0, 1) := by decide +kernel
theorem dX9_wrongInRing_14 : decode cX9_wrongInRing 14 = .ok (.getfield 309, 3) := by decide +kernel
theorem dX9_wrongInRing_17 : decode cX9_wrongInRing 17 = .ok (.if_icmp .ge 81, 3) := by decide +kernel
theorem dX9_wrongInRing_20 : decode cX9_wrongInRing 20 = .ok (.aload_n 1, 1) := by decide +kernel
theorem dX9_wrongInRing_21 : decode cX9_wrongInRing 21 = .ok (.aload_n 0, 1) := by decide +kernel
theorem dX9_wrongInRing_22 : decode cX9_wrongInRing 22 = .ok (.getfield 63, 3) := by decide +kernel
theorem dX9_wrongInRing_25 : decode cX9_wrongInRing 25 = .ok (.iload 6, 2) := by decide +kernel
theorem dX9_wrongInRing_27 : decode cX9_wrongInRing 27 = .ok (.iaload, 1) := by decide +kernel
theorem dX9_wrongInRing_28 : decode cX9_wrongInRing 28 = .ok (.invokevirtual 232, 3) := by decide +kernel
theorem dX9_wrongInRing_31 : decode cX9_wrongInRing 31 = .ok (.istore 7, 2) := by decide +kernel
theorem dX9_wrongInRing_33 : decode cX9_wrongInRing 33 = .ok (.iload 7, 2) := by decide +kernel
theorem dX9_wrongInRing_35 : decode cX9_wrongInRing 35 = .ok (.iconst (-1), 1) := by decide +kernel
theorem dX9_wrongInRing_36 : decode cX9_wrongInRing 36 = .ok (.if_icmp .eq 28, 3) := by decide +kernel
theorem dX9_wrongInRing_39 : decode cX9_wrongInRing 39 = .ok (.lload_n 2, 1) := by decide +kernel
theorem dX9_wrongInRing_40 : decode cX9_wrongInRing 40 = .ok (.iload 7, 2) := by decide +kernel
theorem dX9_wrongInRing_42 : decode cX9_wrongInRing 42 = .ok (.invokestatic 388, 3) := by decide +kernel
theorem dX9_wrongInRing_45 : decode cX9_wrongInRing 45 = .ok (.ifCond .ne 19, 3) := by decide +kernel
theorem dX9_wrongInRing_48 : decode cX9_wrongInRing 48 = .ok (.iload 6, 2) := by decide +kernel
theorem dX9_wrongInRing_50 : decode cX9_wrongInRing 50 = .ok (.ifCond .le 17, 3) := by decide +kernel
theorem dX9_wrongInRing_53 : decode cX9_wrongInRing 53 = .ok (.aload_n 1, 1) := by decide +kernel
theorem dX9_wrongInRing_54 : decode cX9_wrongInRing 54 = .ok (.iload 7, 2) := by decide +kernel
theorem dX9_wrongInRing_56 : decode cX9_wrongInRing 56 = .ok (.iload 5, 2) := by decide +kernel
theorem dX9_wrongInRing_58 : decode cX9_wrongInRing 58 = .ok (.invokevirtual 235, 3) := by decide +kernel
theorem dX9_wrongInRing_61 : decode cX9_wrongInRing 61 = .ok (.ifCond .ne 6, 3) := by decide +kernel
theorem dX9_wrongInRing_64 : decode cX9_wrongInRing 64 = .ok (.iload 6, 2) := by decide +kernel
theorem dX9_wrongInRing_66 : decode cX9_wrongInRing 66 = .ok (.ireturn, 1) := by decide +kernel
theorem dX9_wrongInRing_67 : decode cX9_wrongInRing 67 = .ok (.lload_n 2, 1) := by decide +kernel
theorem dX9_wrongInRing_68 : decode cX9_wrongInRing 68 = .ok (.lconst 1, 1) := by decide +kernel
theorem dX9_wrongInRing_69 : decode cX9_wrongInRing 69 = .ok (.iload 7, 2) := by decide +kernel
theorem dX9_wrongInRing_71 : decode cX9_wrongInRing 71 = .ok (.lshl, 1) := by decide +kernel
theorem dX9_wrongInRing_72 : decode cX9_wrongInRing 72 = .ok (.lor, 1) := by decide +kernel
theorem dX9_wrongInRing_73 : decode cX9_wrongInRing 73 = .ok (.lstore_n 2, 1) := by decide +kernel
theorem dX9_wrongInRing_74 : decode cX9_wrongInRing 74 = .ok (.iload 6, 2) := by decide +kernel
theorem dX9_wrongInRing_76 : decode cX9_wrongInRing 76 = .ok (.ifCond .ne 8, 3) := by decide +kernel
theorem dX9_wrongInRing_79 : decode cX9_wrongInRing 79 = .ok (.iload 7, 2) := by decide +kernel
theorem dX9_wrongInRing_81 : decode cX9_wrongInRing 81 = .ok (.goto 5, 3) := by decide +kernel
theorem dX9_wrongInRing_84 : decode cX9_wrongInRing 84 = .ok (.iload 4, 2) := by decide +kernel
theorem dX9_wrongInRing_86 : decode cX9_wrongInRing 86 = .ok (.istore 4, 2) := by decide +kernel
theorem dX9_wrongInRing_88 : decode cX9_wrongInRing 88 = .ok (.iload 7, 2) := by decide +kernel
theorem dX9_wrongInRing_90 : decode cX9_wrongInRing 90 = .ok (.istore 5, 2) := by decide +kernel
theorem dX9_wrongInRing_92 : decode cX9_wrongInRing 92 = .ok (.iinc 6 1, 3) := by decide +kernel
theorem dX9_wrongInRing_95 : decode cX9_wrongInRing 95 = .ok (.goto (-84), 3) := by decide +kernel
theorem dX9_wrongInRing_98 : decode cX9_wrongInRing 98 = .ok (.aload_n 0, 1) := by decide +kernel
theorem dX9_wrongInRing_99 : decode cX9_wrongInRing 99 = .ok (.getfield 309, 3) := by decide +kernel
theorem dX9_wrongInRing_102 : decode cX9_wrongInRing 102 = .ok (.iconst 2, 1) := by decide +kernel
theorem dX9_wrongInRing_103 : decode cX9_wrongInRing 103 = .ok (.if_icmp .ge 8, 3) := by decide +kernel
theorem dX9_wrongInRing_106 : decode cX9_wrongInRing 106 = .ok (.aload_n 0, 1) := by decide +kernel
theorem dX9_wrongInRing_107 : decode cX9_wrongInRing 107 = .ok (.getfield 309, 3) := by decide +kernel
theorem dX9_wrongInRing_110 : decode cX9_wrongInRing 110 = .ok (.ireturn, 1) := by decide +kernel
theorem dX9_wrongInRing_111 : decode cX9_wrongInRing 111 = .ok (.aload_n 1, 1) := by decide +kernel
theorem dX9_wrongInRing_112 : decode cX9_wrongInRing 112 = .ok (.iload 4, 2) := by decide +kernel
theorem dX9_wrongInRing_114 : decode cX9_wrongInRing 114 = .ok (.iload 5, 2) := by decide +kernel
theorem dX9_wrongInRing_116 : decode cX9_wrongInRing 116 = .ok (.invokevirtual 235, 3) := by decide +kernel
theorem dX9_wrongInRing_119 : decode cX9_wrongInRing 119 = .ok (.ifCond .eq 7, 3) := by decide +kernel
theorem dX9_wrongInRing_122 : decode cX9_wrongInRing 122 = .ok (.iconst (-1), 1) := by decide +kernel
theorem dX9_wrongInRing_123 : decode cX9_wrongInRing 123 = .ok (.goto 4, 3) := by decide +kernel
theorem dX9_wrongInRing_126 : decode cX9_wrongInRing 126 = .ok (.iconst 0, 1) := by decide +kernel
theorem dX9_wrongInRing_127 : decode cX9_wrongInRing 127 = .ok (.ireturn, 1) := by decide +kernel
theorem dX9_isIn_0 : decode cX9_isIn 0 = .ok (.lload_n 0, 1) := by decide +kernel
theorem dX9_isIn_1 : decode cX9_isIn 1 = .ok (.iload_n 2, 1) := by decide +kernel
theorem dX9_isIn_2 : decode cX9_isIn 2 = .ok (.lshr, 1) := by decide +kernel
theorem dX9_isIn_3 : decode cX9_isIn 3 = .ok (.lconst 1, 1) := by decide +kernel
theorem dX9_isIn_4 : decode cX9_isIn 4 = .ok (.land, 1) := by decide +kernel
theorem dX9_isIn_5 : decode cX9_isIn 5 = .ok (.lconst 0, 1) := by decide +kernel
theorem dX9_isIn_6 : decode cX9_isIn 6 = .ok (.lcmp, 1) := by decide +kernel
theorem dX9_isIn_7 : decode cX9_isIn 7 = .ok (.ifCond .eq 7, 3) := by decide +kernel
theorem dX9_isIn_10 : decode cX9_isIn 10 = .ok (.iconst 1, 1) := by decide +kernel
theorem dX9_isIn_11 : decode cX9_isIn 11 = .ok (.goto 4, 3) := by decide +kernel
theorem dX9_isIn_14 : decode cX9_isIn 14 = .ok (.iconst 0, 1) := by decide +kernel
theorem dX9_isIn_15 : decode cX9_isIn 15 = .ok (.ireturn, 1) := by decide +kernel
theorem dX9_placeInSet_0 : decode cX9_placeInSet 0 = .ok (.iconst 0, 1) := by decide +kernel
theorem dX9_placeInSet_1 : decode cX9_placeInSet 1 = .ok (.istore_n 3, 1) := by decide +kernel
theorem dX9_placeInSet_2 : decode cX9_placeInSet 2 = .ok (.iconst 0, 1) := by decide +kernel
theorem dX9_placeInSet_3 : decode cX9_placeInSet 3 = .ok (.istore 4, 2) := by decide +kernel
theorem dX9_placeInSet_5 : decode cX9_placeInSet 5 = .ok (.iload 4, 2) := by decide +kernel
theorem dX9_placeInSet_7 : decode cX9_placeInSet 7 = .ok (.bipush 40, 2) := by decide +kernel
theorem dX9_placeInSet_9 : decode cX9_placeInSet 9 = .ok (.if_icmp .ge 29, 3) := by decide +kernel
theorem dX9_placeInSet_12 : decode cX9_placeInSet 12 = .ok (.lload_n 0, 1) := by decide +kernel
theorem dX9_placeInSet_13 : decode cX9_placeInSet 13 = .ok (.iload 4, 2) := by decide +kernel
theorem dX9_placeInSet_15 : decode cX9_placeInSet 15 = .ok (.invokestatic 388, 3) := by decide +kernel
theorem dX9_placeInSet_18 : decode cX9_placeInSet 18 = .ok (.ifCond .eq 14, 3) := by decide +kernel
theorem dX9_placeInSet_21 : decode cX9_placeInSet 21 = .ok (.iload_n 3, 1) := by decide +kernel
theorem dX9_placeInSet_22 : decode cX9_placeInSet 22 = .ok (.iload_n 2, 1) := by decide +kernel
theorem dX9_placeInSet_23 : decode cX9_placeInSet 23 = .ok (.if_icmp .ne 6, 3) := by decide +kernel
theorem dX9_placeInSet_26 : decode cX9_placeInSet 26 = .ok (.iload 4, 2) := by decide +kernel
theorem dX9_placeInSet_28 : decode cX9_placeInSet 28 = .ok (.ireturn, 1) := by decide +kernel
theorem dX9_placeInSet_29 : decode cX9_placeInSet 29 = .ok (.iinc 3 1, 3) := by decide +kernel
theorem dX9_placeInSet_32 : decode cX9_placeInSet 32 = .ok (.iinc 4 1, 3) := by decide +kernel
theorem dX9_placeInSet_35 : decode cX9_placeInSet 35 = .ok (.goto (-30), 3) := by decide +kernel
theorem dX9_placeInSet_38 : decode cX9_placeInSet 38 = .ok (.iconst (-1), 1) := by decide +kernel
theorem dX9_placeInSet_39 : decode cX9_placeInSet 39 = .ok (.ireturn, 1) := by decide +kernel
