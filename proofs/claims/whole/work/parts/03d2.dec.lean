theorem dX10_isFree_0 : decode cX10_isFree 0 = .ok (.iconst 0, 1) := by decide +kernel
theorem dX10_isFree_1 : decode cX10_isFree 1 = .ok (.istore_n 2, 1) := by decide +kernel
theorem dX10_isFree_2 : decode cX10_isFree 2 = .ok (.iload_n 2, 1) := by decide +kernel
theorem dX10_isFree_3 : decode cX10_isFree 3 = .ok (.aload_n 0, 1) := by decide +kernel
theorem dX10_isFree_4 : decode cX10_isFree 4 = .ok (.getfield 181, 3) := by decide +kernel
theorem dX10_isFree_7 : decode cX10_isFree 7 = .ok (.if_icmp .ge 29, 3) := by decide +kernel
theorem dX10_isFree_10 : decode cX10_isFree 10 = .ok (.aload_n 0, 1) := by decide +kernel
theorem dX10_isFree_11 : decode cX10_isFree 11 = .ok (.getfield 39, 3) := by decide +kernel
theorem dX10_isFree_14 : decode cX10_isFree 14 = .ok (.iload_n 2, 1) := by decide +kernel
theorem dX10_isFree_15 : decode cX10_isFree 15 = .ok (.baload, 1) := by decide +kernel
theorem dX10_isFree_16 : decode cX10_isFree 16 = .ok (.ifCond .eq 14, 3) := by decide +kernel
theorem dX10_isFree_19 : decode cX10_isFree 19 = .ok (.aload_n 0, 1) := by decide +kernel
theorem dX10_isFree_20 : decode cX10_isFree 20 = .ok (.iload_n 2, 1) := by decide +kernel
theorem dX10_isFree_21 : decode cX10_isFree 21 = .ok (.iload_n 1, 1) := by decide +kernel
theorem dX10_isFree_22 : decode cX10_isFree 22 = .ok (.invokevirtual 261, 3) := by decide +kernel
theorem dX10_isFree_25 : decode cX10_isFree 25 = .ok (.ifCond .eq 5, 3) := by decide +kernel
theorem dX10_isFree_28 : decode cX10_isFree 28 = .ok (.iconst 0, 1) := by decide +kernel
theorem dX10_isFree_29 : decode cX10_isFree 29 = .ok (.ireturn, 1) := by decide +kernel
theorem dX10_isFree_30 : decode cX10_isFree 30 = .ok (.iinc 2 1, 3) := by decide +kernel
theorem dX10_isFree_33 : decode cX10_isFree 33 = .ok (.goto (-31), 3) := by decide +kernel
theorem dX10_isFree_36 : decode cX10_isFree 36 = .ok (.iconst 1, 1) := by decide +kernel
theorem dX10_isFree_37 : decode cX10_isFree 37 = .ok (.ireturn, 1) := by decide +kernel
theorem dX10_free_0 : decode cX10_free 0 = .ok (.aload_n 0, 1) := by decide +kernel
theorem dX10_free_1 : decode cX10_free 1 = .ok (.iconst 0, 1) := by decide +kernel
theorem dX10_free_2 : decode cX10_free 2 = .ok (.putfield 1, 3) := by decide +kernel
theorem dX10_free_5 : decode cX10_free 5 = .ok (.aload_n 0, 1) := by decide +kernel
theorem dX10_free_6 : decode cX10_free 6 = .ok (.iload_n 1, 1) := by decide +kernel
theorem dX10_free_7 : decode cX10_free 7 = .ok (.invokevirtual 213, 3) := by decide +kernel
theorem dX10_free_10 : decode cX10_free 10 = .ok (.ifCond .eq 15, 3) := by decide +kernel
theorem dX10_free_13 : decode cX10_free 13 = .ok (.aload_n 0, 1) := by decide +kernel
theorem dX10_free_14 : decode cX10_free 14 = .ok (.iload_n 1, 1) := by decide +kernel
theorem dX10_free_15 : decode cX10_free 15 = .ok (.invokevirtual 221, 3) := by decide +kernel
theorem dX10_free_18 : decode cX10_free 18 = .ok (.ifCond .eq 7, 3) := by decide +kernel
theorem dX10_free_21 : decode cX10_free 21 = .ok (.iconst 1, 1) := by decide +kernel
theorem dX10_free_22 : decode cX10_free 22 = .ok (.goto 4, 3) := by decide +kernel
theorem dX10_free_25 : decode cX10_free 25 = .ok (.iconst 0, 1) := by decide +kernel
theorem dX10_free_26 : decode cX10_free 26 = .ok (.ireturn, 1) := by decide +kernel
theorem dX10_isFreeOfLeft_0 : decode cX10_isFreeOfLeft 0 = .ok (.iconst 0, 1) := by decide +kernel
theorem dX10_isFreeOfLeft_1 : decode cX10_isFreeOfLeft 1 = .ok (.istore_n 2, 1) := by decide +kernel
theorem dX10_isFreeOfLeft_2 : decode cX10_isFreeOfLeft 2 = .ok (.iload_n 2, 1) := by decide +kernel
theorem dX10_isFreeOfLeft_3 : decode cX10_isFreeOfLeft 3 = .ok (.aload_n 0, 1) := by decide +kernel
theorem dX10_isFreeOfLeft_4 : decode cX10_isFreeOfLeft 4 = .ok (.getfield 285, 3) := by decide +kernel
theorem dX10_isFreeOfLeft_7 : decode cX10_isFreeOfLeft 7 = .ok (.if_icmp .ge 44, 3) := by decide +kernel
theorem dX10_isFreeOfLeft_10 : decode cX10_isFreeOfLeft 10 = .ok (.aload_n 0, 1) := by decide +kernel
theorem dX10_isFreeOfLeft_11 : decode cX10_isFreeOfLeft 11 = .ok (.getfield 109, 3) := by decide +kernel
theorem dX10_isFreeOfLeft_14 : decode cX10_isFreeOfLeft 14 = .ok (.aload_n 0, 1) := by decide +kernel
theorem dX10_isFreeOfLeft_15 : decode cX10_isFreeOfLeft 15 = .ok (.getfield 112, 3) := by decide +kernel
theorem dX10_isFreeOfLeft_18 : decode cX10_isFreeOfLeft 18 = .ok (.iload_n 2, 1) := by decide +kernel
theorem dX10_isFreeOfLeft_19 : decode cX10_isFreeOfLeft 19 = .ok (.iaload, 1) := by decide +kernel
theorem dX10_isFreeOfLeft_20 : decode cX10_isFreeOfLeft 20 = .ok (.baload, 1) := by decide +kernel
theorem dX10_isFreeOfLeft_21 : decode cX10_isFreeOfLeft 21 = .ok (.ifCond .eq 24, 3) := by decide +kernel
theorem dX10_isFreeOfLeft_24 : decode cX10_isFreeOfLeft 24 = .ok (.aload_n 0, 1) := by decide +kernel
theorem dX10_isFreeOfLeft_25 : decode cX10_isFreeOfLeft 25 = .ok (.getfield 103, 3) := by decide +kernel
theorem dX10_isFreeOfLeft_28 : decode cX10_isFreeOfLeft 28 = .ok (.bipush 100, 2) := by decide +kernel
theorem dX10_isFreeOfLeft_30 : decode cX10_isFreeOfLeft 30 = .ok (.aload_n 0, 1) := by decide +kernel
theorem dX10_isFreeOfLeft_31 : decode cX10_isFreeOfLeft 31 = .ok (.getfield 112, 3) := by decide +kernel
theorem dX10_isFreeOfLeft_34 : decode cX10_isFreeOfLeft 34 = .ok (.iload_n 2, 1) := by decide +kernel
theorem dX10_isFreeOfLeft_35 : decode cX10_isFreeOfLeft 35 = .ok (.iaload, 1) := by decide +kernel
theorem dX10_isFreeOfLeft_36 : decode cX10_isFreeOfLeft 36 = .ok (.imul, 1) := by decide +kernel
theorem dX10_isFreeOfLeft_37 : decode cX10_isFreeOfLeft 37 = .ok (.iload_n 1, 1) := by decide +kernel
theorem dX10_isFreeOfLeft_38 : decode cX10_isFreeOfLeft 38 = .ok (.iadd, 1) := by decide +kernel
theorem dX10_isFreeOfLeft_39 : decode cX10_isFreeOfLeft 39 = .ok (.baload, 1) := by decide +kernel
theorem dX10_isFreeOfLeft_40 : decode cX10_isFreeOfLeft 40 = .ok (.ifCond .eq 5, 3) := by decide +kernel
theorem dX10_isFreeOfLeft_43 : decode cX10_isFreeOfLeft 43 = .ok (.iconst 0, 1) := by decide +kernel
theorem dX10_isFreeOfLeft_44 : decode cX10_isFreeOfLeft 44 = .ok (.ireturn, 1) := by decide +kernel
theorem dX10_isFreeOfLeft_45 : decode cX10_isFreeOfLeft 45 = .ok (.iinc 2 1, 3) := by decide +kernel
theorem dX10_isFreeOfLeft_48 : decode cX10_isFreeOfLeft 48 = .ok (.goto (-46), 3) := by decide +kernel
theorem dX10_isFreeOfLeft_51 : decode cX10_isFreeOfLeft 51 = .ok (.iconst 1, 1) := by decide +kernel
theorem dX10_isFreeOfLeft_52 : decode cX10_isFreeOfLeft 52 = .ok (.ireturn, 1) := by decide +kernel
theorem dX10_order_0 : decode cX10_order 0 = .ok (.aload_n 0, 1) := by decide +kernel
theorem dX10_order_1 : decode cX10_order 1 = .ok (.iconst 0, 1) := by decide +kernel
theorem dX10_order_2 : decode cX10_order 2 = .ok (.putfield 1, 3) := by decide +kernel
theorem dX10_order_5 : decode cX10_order 5 = .ok (.aload_n 0, 1) := by decide +kernel
theorem dX10_order_6 : decode cX10_order 6 = .ok (.invokevirtual 288, 3) := by decide +kernel
theorem dX10_order_9 : decode cX10_order 9 = .ok (.iconst 0, 1) := by decide +kernel
theorem dX10_order_10 : decode cX10_order 10 = .ok (.istore_n 2, 1) := by decide +kernel
theorem dX10_order_11 : decode cX10_order 11 = .ok (.iload_n 2, 1) := by decide +kernel
theorem dX10_order_12 : decode cX10_order 12 = .ok (.aload_n 0, 1) := by decide +kernel
theorem dX10_order_13 : decode cX10_order 13 = .ok (.getfield 285, 3) := by decide +kernel
theorem dX10_order_16 : decode cX10_order 16 = .ok (.if_icmp .ge 21, 3) := by decide +kernel
theorem dX10_order_19 : decode cX10_order 19 = .ok (.aload_n 0, 1) := by decide +kernel
theorem dX10_order_20 : decode cX10_order 20 = .ok (.getfield 109, 3) := by decide +kernel
theorem dX10_order_23 : decode cX10_order 23 = .ok (.aload_n 0, 1) := by decide +kernel
theorem dX10_order_24 : decode cX10_order 24 = .ok (.getfield 112, 3) := by decide +kernel
theorem dX10_order_27 : decode cX10_order 27 = .ok (.iload_n 2, 1) := by decide +kernel
theorem dX10_order_28 : decode cX10_order 28 = .ok (.iaload, 1) := by decide +kernel
theorem dX10_order_29 : decode cX10_order 29 = .ok (.iconst 1, 1) := by decide +kernel
theorem dX10_order_30 : decode cX10_order 30 = .ok (.bastore, 1) := by decide +kernel
theorem dX10_order_31 : decode cX10_order 31 = .ok (.iinc 2 1, 3) := by decide +kernel
theorem dX10_order_34 : decode cX10_order 34 = .ok (.goto (-23), 3) := by decide +kernel
theorem dX10_order_37 : decode cX10_order 37 = .ok (.iconst 0, 1) := by decide +kernel
theorem dX10_order_38 : decode cX10_order 38 = .ok (.istore_n 2, 1) := by decide +kernel
theorem dX10_order_39 : decode cX10_order 39 = .ok (.iload_n 2, 1) := by decide +kernel
theorem dX10_order_40 : decode cX10_order 40 = .ok (.aload_n 0, 1) := by decide +kernel
theorem dX10_order_41 : decode cX10_order 41 = .ok (.getfield 285, 3) := by decide +kernel
theorem dX10_order_44 : decode cX10_order 44 = .ok (.if_icmp .ge 88, 3) := by decide +kernel
theorem dX10_order_47 : decode cX10_order 47 = .ok (.iconst (-1), 1) := by decide +kernel
theorem dX10_order_48 : decode cX10_order 48 = .ok (.istore_n 3, 1) := by decide +kernel
theorem dX10_order_49 : decode cX10_order 49 = .ok (.aload_n 0, 1) := by decide +kernel
theorem dX10_order_50 : decode cX10_order 50 = .ok (.getfield 285, 3) := by decide +kernel
theorem dX10_order_53 : decode cX10_order 53 = .ok (.iconst 1, 1) := by decide +kernel
theorem dX10_order_54 : decode cX10_order 54 = .ok (.isub, 1) := by decide +kernel
theorem dX10_order_55 : decode cX10_order 55 = .ok (.istore 4, 2) := by decide +kernel
theorem dX10_order_57 : decode cX10_order 57 = .ok (.iload 4, 2) := by decide +kernel
theorem dX10_order_59 : decode cX10_order 59 = .ok (.ifCond .lt 46, 3) := by decide +kernel
theorem dX10_order_62 : decode cX10_order 62 = .ok (.aload_n 0, 1) := by decide +kernel
theorem dX10_order_63 : decode cX10_order 63 = .ok (.getfield 109, 3) := by decide +kernel
theorem dX10_order_66 : decode cX10_order 66 = .ok (.aload_n 0, 1) := by decide +kernel
theorem dX10_order_67 : decode cX10_order 67 = .ok (.getfield 112, 3) := by decide +kernel
theorem dX10_order_70 : decode cX10_order 70 = .ok (.iload 4, 2) := by decide +kernel
theorem dX10_order_72 : decode cX10_order 72 = .ok (.iaload, 1) := by decide +kernel
theorem dX10_order_73 : decode cX10_order 73 = .ok (.baload, 1) := by decide +kernel
theorem dX10_order_74 : decode cX10_order 74 = .ok (.ifCond .eq 25, 3) := by decide +kernel
theorem dX10_order_77 : decode cX10_order 77 = .ok (.aload_n 0, 1) := by decide +kernel
theorem dX10_order_78 : decode cX10_order 78 = .ok (.aload_n 0, 1) := by decide +kernel
theorem dX10_order_79 : decode cX10_order 79 = .ok (.getfield 112, 3) := by decide +kernel
theorem dX10_order_82 : decode cX10_order 82 = .ok (.iload 4, 2) := by decide +kernel
theorem dX10_order_84 : decode cX10_order 84 = .ok (.iaload, 1) := by decide +kernel
theorem dX10_order_85 : decode cX10_order 85 = .ok (.invokevirtual 291, 3) := by decide +kernel
theorem dX10_order_88 : decode cX10_order 88 = .ok (.ifCond .eq 11, 3) := by decide +kernel
theorem dX10_order_91 : decode cX10_order 91 = .ok (.aload_n 0, 1) := by decide +kernel
theorem dX10_order_92 : decode cX10_order 92 = .ok (.getfield 112, 3) := by decide +kernel
theorem dX10_order_95 : decode cX10_order 95 = .ok (.iload 4, 2) := by decide +kernel
theorem dX10_order_97 : decode cX10_order 97 = .ok (.iaload, 1) := by decide +kernel
theorem dX10_order_98 : decode cX10_order 98 = .ok (.istore_n 3, 1) := by decide +kernel
theorem dX10_order_99 : decode cX10_order 99 = .ok (.iinc 4 (-1), 3) := by decide +kernel
theorem dX10_order_102 : decode cX10_order 102 = .ok (.goto (-45), 3) := by decide +kernel
theorem dX10_order_105 : decode cX10_order 105 = .ok (.iload_n 3, 1) := by decide +kernel
theorem dX10_order_106 : decode cX10_order 106 = .ok (.iconst (-1), 1) := by decide +kernel
theorem dX10_order_107 : decode cX10_order 107 = .ok (.if_icmp .ne 5, 3) := by decide +kernel
theorem dX10_order_110 : decode cX10_order 110 = .ok (.iconst (-1), 1) := by decide +kernel
theorem dX10_order_111 : decode cX10_order 111 = .ok (.ireturn, 1) := by decide +kernel
theorem dX10_order_112 : decode cX10_order 112 = .ok (.iload_n 2, 1) := by decide +kernel
theorem dX10_order_113 : decode cX10_order 113 = .ok (.iload_n 1, 1) := by decide +kernel
theorem dX10_order_114 : decode cX10_order 114 = .ok (.if_icmp .ne 5, 3) := by decide +kernel
theorem dX10_order_117 : decode cX10_order 117 = .ok (.iload_n 3, 1) := by decide +kernel
theorem dX10_order_118 : decode cX10_order 118 = .ok (.ireturn, 1) := by decide +kernel
theorem dX10_order_119 : decode cX10_order 119 = .ok (.aload_n 0, 1) := by decide +kernel
theorem dX10_order_120 : decode cX10_order 120 = .ok (.getfield 109, 3) := by decide +kernel
theorem dX10_order_123 : decode cX10_order 123 = .ok (.iload_n 3, 1) := by decide +kernel
theorem dX10_order_124 : decode cX10_order 124 = .ok (.iconst 0, 1) := by decide +kernel
theorem dX10_order_125 : decode cX10_order 125 = .ok (.bastore, 1) := by decide +kernel
theorem dX10_order_126 : decode cX10_order 126 = .ok (.iinc 2 1, 3) := by decide +kernel
theorem dX10_order_129 : decode cX10_order 129 = .ok (.goto (-90), 3) := by decide +kernel
theorem dX10_order_132 : decode cX10_order 132 = .ok (.iconst (-1), 1) := by decide +kernel
theorem dX10_order_133 : decode cX10_order 133 = .ok (.ireturn, 1) := by decide +kernel
theorem dX10_findKnots_0 : decode cX10_findKnots 0 = .ok (.aload_n 0, 1) := by decide +kernel
theorem dX10_findKnots_1 : decode cX10_findKnots 1 = .ok (.invokevirtual 288, 3) := by decide +kernel
theorem dX10_findKnots_4 : decode cX10_findKnots 4 = .ok (.iconst 0, 1) := by decide +kernel
theorem dX10_findKnots_5 : decode cX10_findKnots 5 = .ok (.istore_n 1, 1) := by decide +kernel
theorem dX10_findKnots_6 : decode cX10_findKnots 6 = .ok (.iload_n 1, 1) := by decide +kernel
theorem dX10_findKnots_7 : decode cX10_findKnots 7 = .ok (.aload_n 0, 1) := by decide +kernel
theorem dX10_findKnots_8 : decode cX10_findKnots 8 = .ok (.getfield 285, 3) := by decide +kernel
theorem dX10_findKnots_11 : decode cX10_findKnots 11 = .ok (.if_icmp .ge 67, 3) := by decide +kernel
theorem dX10_findKnots_14 : decode cX10_findKnots 14 = .ok (.iconst 0, 1) := by decide +kernel
theorem dX10_findKnots_15 : decode cX10_findKnots 15 = .ok (.istore_n 2, 1) := by decide +kernel
theorem dX10_findKnots_16 : decode cX10_findKnots 16 = .ok (.iload_n 2, 1) := by decide +kernel
theorem dX10_findKnots_17 : decode cX10_findKnots 17 = .ok (.aload_n 0, 1) := by decide +kernel
theorem dX10_findKnots_18 : decode cX10_findKnots 18 = .ok (.getfield 285, 3) := by decide +kernel
theorem dX10_findKnots_21 : decode cX10_findKnots 21 = .ok (.if_icmp .ge 51, 3) := by decide +kernel
theorem dX10_findKnots_24 : decode cX10_findKnots 24 = .ok (.aload_n 0, 1) := by decide +kernel
theorem dX10_findKnots_25 : decode cX10_findKnots 25 = .ok (.getfield 106, 3) := by decide +kernel
theorem dX10_findKnots_28 : decode cX10_findKnots 28 = .ok (.bipush 100, 2) := by decide +kernel
theorem dX10_findKnots_30 : decode cX10_findKnots 30 = .ok (.aload_n 0, 1) := by decide +kernel
theorem dX10_findKnots_31 : decode cX10_findKnots 31 = .ok (.getfield 112, 3) := by decide +kernel
theorem dX10_findKnots_34 : decode cX10_findKnots 34 = .ok (.iload_n 1, 1) := by decide +kernel
theorem dX10_findKnots_35 : decode cX10_findKnots 35 = .ok (.iaload, 1) := by decide +kernel
theorem dX10_findKnots_36 : decode cX10_findKnots 36 = .ok (.imul, 1) := by decide +kernel
theorem dX10_findKnots_37 : decode cX10_findKnots 37 = .ok (.aload_n 0, 1) := by decide +kernel
theorem dX10_findKnots_38 : decode cX10_findKnots 38 = .ok (.getfield 112, 3) := by decide +kernel
theorem dX10_findKnots_41 : decode cX10_findKnots 41 = .ok (.iload_n 2, 1) := by decide +kernel
theorem dX10_findKnots_42 : decode cX10_findKnots 42 = .ok (.iaload, 1) := by decide +kernel
theorem dX10_findKnots_43 : decode cX10_findKnots 43 = .ok (.iadd, 1) := by decide +kernel
theorem dX10_findKnots_44 : decode cX10_findKnots 44 = .ok (.aload_n 0, 1) := by decide +kernel
theorem dX10_findKnots_45 : decode cX10_findKnots 45 = .ok (.getfield 103, 3) := by decide +kernel
theorem dX10_findKnots_48 : decode cX10_findKnots 48 = .ok (.bipush 100, 2) := by decide +kernel
theorem dX10_findKnots_50 : decode cX10_findKnots 50 = .ok (.aload_n 0, 1) := by decide +kernel
theorem dX10_findKnots_51 : decode cX10_findKnots 51 = .ok (.getfield 112, 3) := by decide +kernel
theorem dX10_findKnots_54 : decode cX10_findKnots 54 = .ok (.iload_n 1, 1) := by decide +kernel
theorem dX10_findKnots_55 : decode cX10_findKnots 55 = .ok (.iaload, 1) := by decide +kernel
theorem dX10_findKnots_56 : decode cX10_findKnots 56 = .ok (.imul, 1) := by decide +kernel
theorem dX10_findKnots_57 : decode cX10_findKnots 57 = .ok (.aload_n 0, 1) := by decide +kernel
theorem dX10_findKnots_58 : decode cX10_findKnots 58 = .ok (.getfield 112, 3) := by decide +kernel
theorem dX10_findKnots_61 : decode cX10_findKnots 61 = .ok (.iload_n 2, 1) := by decide +kernel
theorem dX10_findKnots_62 : decode cX10_findKnots 62 = .ok (.iaload, 1) := by decide +kernel
theorem dX10_findKnots_63 : decode cX10_findKnots 63 = .ok (.iadd, 1) := by decide +kernel
theorem dX10_findKnots_64 : decode cX10_findKnots 64 = .ok (.baload, 1) := by decide +kernel
theorem dX10_findKnots_65 : decode cX10_findKnots 65 = .ok (.bastore, 1) := by decide +kernel
theorem dX10_findKnots_66 : decode cX10_findKnots 66 = .ok (.iinc 2 1, 3) := by decide +kernel
theorem dX10_findKnots_69 : decode cX10_findKnots 69 = .ok (.goto (-53), 3) := by decide +kernel
theorem dX10_findKnots_72 : decode cX10_findKnots 72 = .ok (.iinc 1 1, 3) := by decide +kernel
theorem dX10_findKnots_75 : decode cX10_findKnots 75 = .ok (.goto (-69), 3) := by decide +kernel
theorem dX10_findKnots_78 : decode cX10_findKnots 78 = .ok (.iconst 0, 1) := by decide +kernel
theorem dX10_findKnots_79 : decode cX10_findKnots 79 = .ok (.istore_n 1, 1) := by decide +kernel
theorem dX10_findKnots_80 : decode cX10_findKnots 80 = .ok (.iload_n 1, 1) := by decide +kernel
theorem dX10_findKnots_81 : decode cX10_findKnots 81 = .ok (.aload_n 0, 1) := by decide +kernel
theorem dX10_findKnots_82 : decode cX10_findKnots 82 = .ok (.getfield 285, 3) := by decide +kernel
theorem dX10_findKnots_85 : decode cX10_findKnots 85 = .ok (.if_icmp .ge 111, 3) := by decide +kernel
theorem dX10_findKnots_88 : decode cX10_findKnots 88 = .ok (.iconst 0, 1) := by decide +kernel
theorem dX10_findKnots_89 : decode cX10_findKnots 89 = .ok (.istore_n 2, 1) := by decide +kernel
theorem dX10_findKnots_90 : decode cX10_findKnots 90 = .ok (.iload_n 2, 1) := by decide +kernel
theorem dX10_findKnots_91 : decode cX10_findKnots 91 = .ok (.aload_n 0, 1) := by decide +kernel
theorem dX10_findKnots_92 : decode cX10_findKnots 92 = .ok (.getfield 285, 3) := by decide +kernel
theorem dX10_findKnots_95 : decode cX10_findKnots 95 = .ok (.if_icmp .ge 95, 3) := by decide +kernel
theorem dX10_findKnots_98 : decode cX10_findKnots 98 = .ok (.aload_n 0, 1) := by decide +kernel
theorem dX10_findKnots_99 : decode cX10_findKnots 99 = .ok (.getfield 106, 3) := by decide +kernel
theorem dX10_findKnots_102 : decode cX10_findKnots 102 = .ok (.bipush 100, 2) := by decide +kernel
theorem dX10_findKnots_104 : decode cX10_findKnots 104 = .ok (.aload_n 0, 1) := by decide +kernel
theorem dX10_findKnots_105 : decode cX10_findKnots 105 = .ok (.getfield 112, 3) := by decide +kernel
theorem dX10_findKnots_108 : decode cX10_findKnots 108 = .ok (.iload_n 2, 1) := by decide +kernel
theorem dX10_findKnots_109 : decode cX10_findKnots 109 = .ok (.iaload, 1) := by decide +kernel
theorem dX10_findKnots_110 : decode cX10_findKnots 110 = .ok (.imul, 1) := by decide +kernel
theorem dX10_findKnots_111 : decode cX10_findKnots 111 = .ok (.aload_n 0, 1) := by decide +kernel
theorem dX10_findKnots_112 : decode cX10_findKnots 112 = .ok (.getfield 112, 3) := by decide +kernel
theorem dX10_findKnots_115 : decode cX10_findKnots 115 = .ok (.iload_n 1, 1) := by decide +kernel
theorem dX10_findKnots_116 : decode cX10_findKnots 116 = .ok (.iaload, 1) := by decide +kernel
theorem dX10_findKnots_117 : decode cX10_findKnots 117 = .ok (.iadd, 1) := by decide +kernel
theorem dX10_findKnots_118 : decode cX10_findKnots 118 = .ok (.baload, 1) := by decide +kernel
theorem dX10_findKnots_119 : decode cX10_findKnots 119 = .ok (.ifCond .eq 65, 3) := by decide +kernel
theorem dX10_findKnots_122 : decode cX10_findKnots 122 = .ok (.iconst 0, 1) := by decide +kernel
theorem dX10_findKnots_123 : decode cX10_findKnots 123 = .ok (.istore_n 3, 1) := by decide +kernel
theorem dX10_findKnots_124 : decode cX10_findKnots 124 = .ok (.iload_n 3, 1) := by decide +kernel
theorem dX10_findKnots_125 : decode cX10_findKnots 125 = .ok (.aload_n 0, 1) := by decide +kernel
theorem dX10_findKnots_126 : decode cX10_findKnots 126 = .ok (.getfield 285, 3) := by decide +kernel
theorem dX10_findKnots_129 : decode cX10_findKnots 129 = .ok (.if_icmp .ge 55, 3) := by decide +kernel
theorem dX10_findKnots_132 : decode cX10_findKnots 132 = .ok (.aload_n 0, 1) := by decide +kernel
theorem dX10_findKnots_133 : decode cX10_findKnots 133 = .ok (.getfield 106, 3) := by decide +kernel
theorem dX10_findKnots_136 : decode cX10_findKnots 136 = .ok (.bipush 100, 2) := by decide +kernel
theorem dX10_findKnots_138 : decode cX10_findKnots 138 = .ok (.aload_n 0, 1) := by decide +kernel
theorem dX10_findKnots_139 : decode cX10_findKnots 139 = .ok (.getfield 112, 3) := by decide +kernel
theorem dX10_findKnots_142 : decode cX10_findKnots 142 = .ok (.iload_n 1, 1) := by decide +kernel
theorem dX10_findKnots_143 : decode cX10_findKnots 143 = .ok (.iaload, 1) := by decide +kernel
theorem dX10_findKnots_144 : decode cX10_findKnots 144 = .ok (.imul, 1) := by decide +kernel
theorem dX10_findKnots_145 : decode cX10_findKnots 145 = .ok (.aload_n 0, 1) := by decide +kernel
theorem dX10_findKnots_146 : decode cX10_findKnots 146 = .ok (.getfield 112, 3) := by decide +kernel
theorem dX10_findKnots_149 : decode cX10_findKnots 149 = .ok (.iload_n 3, 1) := by decide +kernel
theorem dX10_findKnots_150 : decode cX10_findKnots 150 = .ok (.iaload, 1) := by decide +kernel
theorem dX10_findKnots_151 : decode cX10_findKnots 151 = .ok (.iadd, 1) := by decide +kernel
theorem dX10_findKnots_152 : decode cX10_findKnots 152 = .ok (.baload, 1) := by decide +kernel
theorem dX10_findKnots_153 : decode cX10_findKnots 153 = .ok (.ifCond .eq 25, 3) := by decide +kernel
theorem dX10_findKnots_156 : decode cX10_findKnots 156 = .ok (.aload_n 0, 1) := by decide +kernel
theorem dX10_findKnots_157 : decode cX10_findKnots 157 = .ok (.getfield 106, 3) := by decide +kernel
theorem dX10_findKnots_160 : decode cX10_findKnots 160 = .ok (.bipush 100, 2) := by decide +kernel
theorem dX10_findKnots_162 : decode cX10_findKnots 162 = .ok (.aload_n 0, 1) := by decide +kernel
theorem dX10_findKnots_163 : decode cX10_findKnots 163 = .ok (.getfield 112, 3) := by decide +kernel
theorem dX10_findKnots_166 : decode cX10_findKnots 166 = .ok (.iload_n 2, 1) := by decide +kernel
theorem dX10_findKnots_167 : decode cX10_findKnots 167 = .ok (.iaload, 1) := by decide +kernel
theorem dX10_findKnots_168 : decode cX10_findKnots 168 = .ok (.imul, 1) := by decide +kernel
theorem dX10_findKnots_169 : decode cX10_findKnots 169 = .ok (.aload_n 0, 1) := by decide +kernel
theorem dX10_findKnots_170 : decode cX10_findKnots 170 = .ok (.getfield 112, 3) := by decide +kernel
theorem dX10_findKnots_173 : decode cX10_findKnots 173 = .ok (.iload_n 3, 1) := by decide +kernel
theorem dX10_findKnots_174 : decode cX10_findKnots 174 = .ok (.iaload, 1) := by decide +kernel
theorem dX10_findKnots_175 : decode cX10_findKnots 175 = .ok (.iadd, 1) := by decide +kernel
theorem dX10_findKnots_176 : decode cX10_findKnots 176 = .ok (.iconst 1, 1) := by decide +kernel
theorem dX10_findKnots_177 : decode cX10_findKnots 177 = .ok (.bastore, 1) := by decide +kernel
theorem dX10_findKnots_178 : decode cX10_findKnots 178 = .ok (.iinc 3 1, 3) := by decide +kernel
theorem dX10_findKnots_181 : decode cX10_findKnots 181 = .ok (.goto (-57), 3) := by decide +kernel
theorem dX10_findKnots_184 : decode cX10_findKnots 184 = .ok (.iinc 2 1, 3) := by decide +kernel
theorem dX10_findKnots_187 : decode cX10_findKnots 187 = .ok (.goto (-97), 3) := by decide +kernel
theorem dX10_findKnots_190 : decode cX10_findKnots 190 = .ok (.iinc 1 1, 3) := by decide +kernel
theorem dX10_findKnots_193 : decode cX10_findKnots 193 = .ok (.goto (-113), 3) := by decide +kernel
theorem dX10_findKnots_196 : decode cX10_findKnots 196 = .ok (.aload_n 0, 1) := by decide +kernel
theorem dX10_findKnots_197 : decode cX10_findKnots 197 = .ok (.iconst 0, 1) := by decide +kernel
theorem dX10_findKnots_198 : decode cX10_findKnots 198 = .ok (.putfield 294, 3) := by decide +kernel
theorem dX10_findKnots_201 : decode cX10_findKnots 201 = .ok (.iconst 0, 1) := by decide +kernel
theorem dX10_findKnots_202 : decode cX10_findKnots 202 = .ok (.istore_n 1, 1) := by decide +kernel
theorem dX10_findKnots_203 : decode cX10_findKnots 203 = .ok (.iload_n 1, 1) := by decide +kernel
theorem dX10_findKnots_204 : decode cX10_findKnots 204 = .ok (.aload_n 0, 1) := by decide +kernel
theorem dX10_findKnots_205 : decode cX10_findKnots 205 = .ok (.getfield 285, 3) := by decide +kernel
theorem dX10_findKnots_208 : decode cX10_findKnots 208 = .ok (.if_icmp .ge 21, 3) := by decide +kernel
theorem dX10_findKnots_211 : decode cX10_findKnots 211 = .ok (.aload_n 0, 1) := by decide +kernel
theorem dX10_findKnots_212 : decode cX10_findKnots 212 = .ok (.getfield 118, 3) := by decide +kernel
theorem dX10_findKnots_215 : decode cX10_findKnots 215 = .ok (.aload_n 0, 1) := by decide +kernel
theorem dX10_findKnots_216 : decode cX10_findKnots 216 = .ok (.getfield 112, 3) := by decide +kernel
theorem dX10_findKnots_219 : decode cX10_findKnots 219 = .ok (.iload_n 1, 1) := by decide +kernel
theorem dX10_findKnots_220 : decode cX10_findKnots 220 = .ok (.iaload, 1) := by decide +kernel
theorem dX10_findKnots_221 : decode cX10_findKnots 221 = .ok (.iconst (-1), 1) := by decide +kernel
theorem dX10_findKnots_222 : decode cX10_findKnots 222 = .ok (.iastore, 1) := by decide +kernel
theorem dX10_findKnots_223 : decode cX10_findKnots 223 = .ok (.iinc 1 1, 3) := by decide +kernel
theorem dX10_findKnots_226 : decode cX10_findKnots 226 = .ok (.goto (-23), 3) := by decide +kernel
theorem dX10_findKnots_229 : decode cX10_findKnots 229 = .ok (.iconst 0, 1) := by decide +kernel
theorem dX10_findKnots_230 : decode cX10_findKnots 230 = .ok (.istore_n 1, 1) := by decide +kernel
theorem dX10_findKnots_231 : decode cX10_findKnots 231 = .ok (.iload_n 1, 1) := by decide +kernel
theorem dX10_findKnots_232 : decode cX10_findKnots 232 = .ok (.aload_n 0, 1) := by decide +kernel
theorem dX10_findKnots_233 : decode cX10_findKnots 233 = .ok (.getfield 285, 3) := by decide +kernel
theorem dX10_findKnots_236 : decode cX10_findKnots 236 = .ok (.if_icmp .ge 120, 3) := by decide +kernel
theorem dX10_findKnots_239 : decode cX10_findKnots 239 = .ok (.aload_n 0, 1) := by decide +kernel
theorem dX10_findKnots_240 : decode cX10_findKnots 240 = .ok (.getfield 112, 3) := by decide +kernel
theorem dX10_findKnots_243 : decode cX10_findKnots 243 = .ok (.iload_n 1, 1) := by decide +kernel
theorem dX10_findKnots_244 : decode cX10_findKnots 244 = .ok (.iaload, 1) := by decide +kernel
theorem dX10_findKnots_245 : decode cX10_findKnots 245 = .ok (.istore_n 2, 1) := by decide +kernel
theorem dX10_findKnots_246 : decode cX10_findKnots 246 = .ok (.aload_n 0, 1) := by decide +kernel
theorem dX10_findKnots_247 : decode cX10_findKnots 247 = .ok (.getfield 118, 3) := by decide +kernel
theorem dX10_findKnots_250 : decode cX10_findKnots 250 = .ok (.iload_n 2, 1) := by decide +kernel
theorem dX10_findKnots_251 : decode cX10_findKnots 251 = .ok (.iaload, 1) := by decide +kernel
theorem dX10_findKnots_252 : decode cX10_findKnots 252 = .ok (.iconst (-1), 1) := by decide +kernel
theorem dX10_findKnots_253 : decode cX10_findKnots 253 = .ok (.if_icmp .ne 97, 3) := by decide +kernel
theorem dX10_findKnots_256 : decode cX10_findKnots 256 = .ok (.aload_n 0, 1) := by decide +kernel
theorem dX10_findKnots_257 : decode cX10_findKnots 257 = .ok (.getfield 106, 3) := by decide +kernel
theorem dX10_findKnots_260 : decode cX10_findKnots 260 = .ok (.bipush 101, 2) := by decide +kernel
theorem dX10_findKnots_262 : decode cX10_findKnots 262 = .ok (.iload_n 2, 1) := by decide +kernel
theorem dX10_findKnots_263 : decode cX10_findKnots 263 = .ok (.imul, 1) := by decide +kernel
theorem dX10_findKnots_264 : decode cX10_findKnots 264 = .ok (.baload, 1) := by decide +kernel
theorem dX10_findKnots_265 : decode cX10_findKnots 265 = .ok (.ifCond .ne 6, 3) := by decide +kernel
theorem dX10_findKnots_268 : decode cX10_findKnots 268 = .ok (.goto 82, 3) := by decide +kernel
theorem dX10_findKnots_271 : decode cX10_findKnots 271 = .ok (.iload_n 1, 1) := by decide +kernel
theorem dX10_findKnots_272 : decode cX10_findKnots 272 = .ok (.istore_n 3, 1) := by decide +kernel
theorem dX10_findKnots_273 : decode cX10_findKnots 273 = .ok (.iload_n 3, 1) := by decide +kernel
theorem dX10_findKnots_274 : decode cX10_findKnots 274 = .ok (.aload_n 0, 1) := by decide +kernel
theorem dX10_findKnots_275 : decode cX10_findKnots 275 = .ok (.getfield 285, 3) := by decide +kernel
theorem dX10_findKnots_278 : decode cX10_findKnots 278 = .ok (.if_icmp .ge 62, 3) := by decide +kernel
theorem dX10_findKnots_281 : decode cX10_findKnots 281 = .ok (.aload_n 0, 1) := by decide +kernel
theorem dX10_findKnots_282 : decode cX10_findKnots 282 = .ok (.getfield 106, 3) := by decide +kernel
theorem dX10_findKnots_285 : decode cX10_findKnots 285 = .ok (.bipush 100, 2) := by decide +kernel
theorem dX10_findKnots_287 : decode cX10_findKnots 287 = .ok (.iload_n 2, 1) := by decide +kernel
theorem dX10_findKnots_288 : decode cX10_findKnots 288 = .ok (.imul, 1) := by decide +kernel
theorem dX10_findKnots_289 : decode cX10_findKnots 289 = .ok (.aload_n 0, 1) := by decide +kernel
theorem dX10_findKnots_290 : decode cX10_findKnots 290 = .ok (.getfield 112, 3) := by decide +kernel
theorem dX10_findKnots_293 : decode cX10_findKnots 293 = .ok (.iload_n 3, 1) := by decide +kernel
theorem dX10_findKnots_294 : decode cX10_findKnots 294 = .ok (.iaload, 1) := by decide +kernel
theorem dX10_findKnots_295 : decode cX10_findKnots 295 = .ok (.iadd, 1) := by decide +kernel
theorem dX10_findKnots_296 : decode cX10_findKnots 296 = .ok (.baload, 1) := by decide +kernel
theorem dX10_findKnots_297 : decode cX10_findKnots 297 = .ok (.ifCond .eq 37, 3) := by decide +kernel
theorem dX10_findKnots_300 : decode cX10_findKnots 300 = .ok (.aload_n 0, 1) := by decide +kernel
theorem dX10_findKnots_301 : decode cX10_findKnots 301 = .ok (.getfield 106, 3) := by decide +kernel
theorem dX10_findKnots_304 : decode cX10_findKnots 304 = .ok (.bipush 100, 2) := by decide +kernel
theorem dX10_findKnots_306 : decode cX10_findKnots 306 = .ok (.aload_n 0, 1) := by decide +kernel
theorem dX10_findKnots_307 : decode cX10_findKnots 307 = .ok (.getfield 112, 3) := by decide +kernel
theorem dX10_findKnots_310 : decode cX10_findKnots 310 = .ok (.iload_n 3, 1) := by decide +kernel
theorem dX10_findKnots_311 : decode cX10_findKnots 311 = .ok (.iaload, 1) := by decide +kernel
theorem dX10_findKnots_312 : decode cX10_findKnots 312 = .ok (.imul, 1) := by decide +kernel
theorem dX10_findKnots_313 : decode cX10_findKnots 313 = .ok (.iload_n 2, 1) := by decide +kernel
theorem dX10_findKnots_314 : decode cX10_findKnots 314 = .ok (.iadd, 1) := by decide +kernel
theorem dX10_findKnots_315 : decode cX10_findKnots 315 = .ok (.baload, 1) := by decide +kernel
theorem dX10_findKnots_316 : decode cX10_findKnots 316 = .ok (.ifCond .eq 18, 3) := by decide +kernel
theorem dX10_findKnots_319 : decode cX10_findKnots 319 = .ok (.aload_n 0, 1) := by decide +kernel
theorem dX10_findKnots_320 : decode cX10_findKnots 320 = .ok (.getfield 118, 3) := by decide +kernel
theorem dX10_findKnots_323 : decode cX10_findKnots 323 = .ok (.aload_n 0, 1) := by decide +kernel
theorem dX10_findKnots_324 : decode cX10_findKnots 324 = .ok (.getfield 112, 3) := by decide +kernel
theorem dX10_findKnots_327 : decode cX10_findKnots 327 = .ok (.iload_n 3, 1) := by decide +kernel
theorem dX10_findKnots_328 : decode cX10_findKnots 328 = .ok (.iaload, 1) := by decide +kernel
theorem dX10_findKnots_329 : decode cX10_findKnots 329 = .ok (.aload_n 0, 1) := by decide +kernel
theorem dX10_findKnots_330 : decode cX10_findKnots 330 = .ok (.getfield 294, 3) := by decide +kernel
theorem dX10_findKnots_333 : decode cX10_findKnots 333 = .ok (.iastore, 1) := by decide +kernel
theorem dX10_findKnots_334 : decode cX10_findKnots 334 = .ok (.iinc 3 1, 3) := by decide +kernel
theorem dX10_findKnots_337 : decode cX10_findKnots 337 = .ok (.goto (-64), 3) := by decide +kernel
theorem dX10_findKnots_340 : decode cX10_findKnots 340 = .ok (.aload_n 0, 1) := by decide +kernel
theorem dX10_findKnots_341 : decode cX10_findKnots 341 = .ok (.dup, 1) := by decide +kernel
theorem dX10_findKnots_342 : decode cX10_findKnots 342 = .ok (.getfield 294, 3) := by decide +kernel
theorem dX10_findKnots_345 : decode cX10_findKnots 345 = .ok (.iconst 1, 1) := by decide +kernel
theorem dX10_findKnots_346 : decode cX10_findKnots 346 = .ok (.iadd, 1) := by decide +kernel
theorem dX10_findKnots_347 : decode cX10_findKnots 347 = .ok (.putfield 294, 3) := by decide +kernel
theorem dX10_findKnots_350 : decode cX10_findKnots 350 = .ok (.iinc 1 1, 3) := by decide +kernel
theorem dX10_findKnots_353 : decode cX10_findKnots 353 = .ok (.goto (-122), 3) := by decide +kernel
theorem dX10_findKnots_356 : decode cX10_findKnots 356 = .ok (.return_, 1) := by decide +kernel
theorem dX10_knots_0 : decode cX10_knots 0 = .ok (.aload_n 0, 1) := by decide +kernel
theorem dX10_knots_1 : decode cX10_knots 1 = .ok (.iconst 0, 1) := by decide +kernel
theorem dX10_knots_2 : decode cX10_knots 2 = .ok (.putfield 1, 3) := by decide +kernel
theorem dX10_knots_5 : decode cX10_knots 5 = .ok (.aload_n 0, 1) := by decide +kernel
theorem dX10_knots_6 : decode cX10_knots 6 = .ok (.invokevirtual 297, 3) := by decide +kernel
theorem dX10_knots_9 : decode cX10_knots 9 = .ok (.aload_n 0, 1) := by decide +kernel
theorem dX10_knots_10 : decode cX10_knots 10 = .ok (.getfield 294, 3) := by decide +kernel
theorem dX10_knots_13 : decode cX10_knots 13 = .ok (.ireturn, 1) := by decide +kernel
theorem dX10_findAway_0 : decode cX10_findAway 0 = .ok (.iconst 0, 1) := by decide +kernel
theorem dX10_findAway_1 : decode cX10_findAway 1 = .ok (.istore_n 3, 1) := by decide +kernel
theorem dX10_findAway_2 : decode cX10_findAway 2 = .ok (.iload_n 3, 1) := by decide +kernel
theorem dX10_findAway_3 : decode cX10_findAway 3 = .ok (.aload_n 0, 1) := by decide +kernel
theorem dX10_findAway_4 : decode cX10_findAway 4 = .ok (.getfield 285, 3) := by decide +kernel
theorem dX10_findAway_7 : decode cX10_findAway 7 = .ok (.if_icmp .ge 35, 3) := by decide +kernel
theorem dX10_findAway_10 : decode cX10_findAway 10 = .ok (.aload_n 0, 1) := by decide +kernel
theorem dX10_findAway_11 : decode cX10_findAway 11 = .ok (.getfield 124, 3) := by decide +kernel
theorem dX10_findAway_14 : decode cX10_findAway 14 = .ok (.aload_n 0, 1) := by decide +kernel
theorem dX10_findAway_15 : decode cX10_findAway 15 = .ok (.getfield 112, 3) := by decide +kernel
theorem dX10_findAway_18 : decode cX10_findAway 18 = .ok (.iload_n 3, 1) := by decide +kernel
theorem dX10_findAway_19 : decode cX10_findAway 19 = .ok (.iaload, 1) := by decide +kernel
theorem dX10_findAway_20 : decode cX10_findAway 20 = .ok (.aload_n 0, 1) := by decide +kernel
theorem dX10_findAway_21 : decode cX10_findAway 21 = .ok (.getfield 112, 3) := by decide +kernel
theorem dX10_findAway_24 : decode cX10_findAway 24 = .ok (.iload_n 3, 1) := by decide +kernel
theorem dX10_findAway_25 : decode cX10_findAway 25 = .ok (.iaload, 1) := by decide +kernel
theorem dX10_findAway_26 : decode cX10_findAway 26 = .ok (.iload_n 1, 1) := by decide +kernel
theorem dX10_findAway_27 : decode cX10_findAway 27 = .ok (.if_icmp .ne 7, 3) := by decide +kernel
theorem dX10_findAway_30 : decode cX10_findAway 30 = .ok (.iconst 0, 1) := by decide +kernel
theorem dX10_findAway_31 : decode cX10_findAway 31 = .ok (.goto 4, 3) := by decide +kernel
theorem dX10_findAway_34 : decode cX10_findAway 34 = .ok (.iconst (-1), 1) := by decide +kernel
theorem dX10_findAway_35 : decode cX10_findAway 35 = .ok (.iastore, 1) := by decide +kernel
theorem dX10_findAway_36 : decode cX10_findAway 36 = .ok (.iinc 3 1, 3) := by decide +kernel
theorem dX10_findAway_39 : decode cX10_findAway 39 = .ok (.goto (-37), 3) := by decide +kernel
theorem dX10_findAway_42 : decode cX10_findAway 42 = .ok (.iconst 1, 1) := by decide +kernel
theorem dX10_findAway_43 : decode cX10_findAway 43 = .ok (.istore_n 3, 1) := by decide +kernel
theorem dX10_findAway_44 : decode cX10_findAway 44 = .ok (.iconst 0, 1) := by decide +kernel
theorem dX10_findAway_45 : decode cX10_findAway 45 = .ok (.istore 4, 2) := by decide +kernel
theorem dX10_findAway_47 : decode cX10_findAway 47 = .ok (.iload_n 3, 1) := by decide +kernel
theorem dX10_findAway_48 : decode cX10_findAway 48 = .ok (.ifCond .eq 162, 3) := by decide +kernel
theorem dX10_findAway_51 : decode cX10_findAway 51 = .ok (.iconst 0, 1) := by decide +kernel
theorem dX10_findAway_52 : decode cX10_findAway 52 = .ok (.istore_n 3, 1) := by decide +kernel
theorem dX10_findAway_53 : decode cX10_findAway 53 = .ok (.iconst 0, 1) := by decide +kernel
theorem dX10_findAway_54 : decode cX10_findAway 54 = .ok (.istore 5, 2) := by decide +kernel
theorem dX10_findAway_56 : decode cX10_findAway 56 = .ok (.iload 5, 2) := by decide +kernel
theorem dX10_findAway_58 : decode cX10_findAway 58 = .ok (.aload_n 0, 1) := by decide +kernel
theorem dX10_findAway_59 : decode cX10_findAway 59 = .ok (.getfield 285, 3) := by decide +kernel
theorem dX10_findAway_62 : decode cX10_findAway 62 = .ok (.if_icmp .ge 142, 3) := by decide +kernel
theorem dX10_findAway_65 : decode cX10_findAway 65 = .ok (.aload_n 0, 1) := by decide +kernel
theorem dX10_findAway_66 : decode cX10_findAway 66 = .ok (.getfield 124, 3) := by decide +kernel
theorem dX10_findAway_69 : decode cX10_findAway 69 = .ok (.aload_n 0, 1) := by decide +kernel
theorem dX10_findAway_70 : decode cX10_findAway 70 = .ok (.getfield 112, 3) := by decide +kernel
theorem dX10_findAway_73 : decode cX10_findAway 73 = .ok (.iload 5, 2) := by decide +kernel
theorem dX10_findAway_75 : decode cX10_findAway 75 = .ok (.iaload, 1) := by decide +kernel
theorem dX10_findAway_76 : decode cX10_findAway 76 = .ok (.iaload, 1) := by decide +kernel
theorem dX10_findAway_77 : decode cX10_findAway 77 = .ok (.iload 4, 2) := by decide +kernel
theorem dX10_findAway_79 : decode cX10_findAway 79 = .ok (.if_icmp .ne 119, 3) := by decide +kernel
theorem dX10_findAway_82 : decode cX10_findAway 82 = .ok (.aload_n 0, 1) := by decide +kernel
theorem dX10_findAway_83 : decode cX10_findAway 83 = .ok (.getfield 118, 3) := by decide +kernel
theorem dX10_findAway_86 : decode cX10_findAway 86 = .ok (.aload_n 0, 1) := by decide +kernel
theorem dX10_findAway_87 : decode cX10_findAway 87 = .ok (.getfield 112, 3) := by decide +kernel
theorem dX10_findAway_90 : decode cX10_findAway 90 = .ok (.iload 5, 2) := by decide +kernel
theorem dX10_findAway_92 : decode cX10_findAway 92 = .ok (.iaload, 1) := by decide +kernel
theorem dX10_findAway_93 : decode cX10_findAway 93 = .ok (.iaload, 1) := by decide +kernel
theorem dX10_findAway_94 : decode cX10_findAway 94 = .ok (.iload_n 2, 1) := by decide +kernel
theorem dX10_findAway_95 : decode cX10_findAway 95 = .ok (.if_icmp .eq 6, 3) := by decide +kernel
theorem dX10_findAway_98 : decode cX10_findAway 98 = .ok (.goto 100, 3) := by decide +kernel
theorem dX10_findAway_101 : decode cX10_findAway 101 = .ok (.iconst 0, 1) := by decide +kernel
theorem dX10_findAway_102 : decode cX10_findAway 102 = .ok (.istore 6, 2) := by decide +kernel
theorem dX10_findAway_104 : decode cX10_findAway 104 = .ok (.iload 6, 2) := by decide +kernel
theorem dX10_findAway_106 : decode cX10_findAway 106 = .ok (.aload_n 0, 1) := by decide +kernel
theorem dX10_findAway_107 : decode cX10_findAway 107 = .ok (.getfield 285, 3) := by decide +kernel
theorem dX10_findAway_110 : decode cX10_findAway 110 = .ok (.if_icmp .ge 88, 3) := by decide +kernel
theorem dX10_findAway_113 : decode cX10_findAway 113 = .ok (.aload_n 0, 1) := by decide +kernel
theorem dX10_findAway_114 : decode cX10_findAway 114 = .ok (.getfield 118, 3) := by decide +kernel
theorem dX10_findAway_117 : decode cX10_findAway 117 = .ok (.aload_n 0, 1) := by decide +kernel
theorem dX10_findAway_118 : decode cX10_findAway 118 = .ok (.getfield 112, 3) := by decide +kernel
theorem dX10_findAway_121 : decode cX10_findAway 121 = .ok (.iload 6, 2) := by decide +kernel
theorem dX10_findAway_123 : decode cX10_findAway 123 = .ok (.iaload, 1) := by decide +kernel
theorem dX10_findAway_124 : decode cX10_findAway 124 = .ok (.iaload, 1) := by decide +kernel
theorem dX10_findAway_125 : decode cX10_findAway 125 = .ok (.iload_n 2, 1) := by decide +kernel
theorem dX10_findAway_126 : decode cX10_findAway 126 = .ok (.if_icmp .ne 66, 3) := by decide +kernel
theorem dX10_findAway_129 : decode cX10_findAway 129 = .ok (.aload_n 0, 1) := by decide +kernel
theorem dX10_findAway_130 : decode cX10_findAway 130 = .ok (.getfield 124, 3) := by decide +kernel
theorem dX10_findAway_133 : decode cX10_findAway 133 = .ok (.aload_n 0, 1) := by decide +kernel
theorem dX10_findAway_134 : decode cX10_findAway 134 = .ok (.getfield 112, 3) := by decide +kernel
theorem dX10_findAway_137 : decode cX10_findAway 137 = .ok (.iload 6, 2) := by decide +kernel
theorem dX10_findAway_139 : decode cX10_findAway 139 = .ok (.iaload, 1) := by decide +kernel
theorem dX10_findAway_140 : decode cX10_findAway 140 = .ok (.iaload, 1) := by decide +kernel
theorem dX10_findAway_141 : decode cX10_findAway 141 = .ok (.iconst (-1), 1) := by decide +kernel
theorem dX10_findAway_142 : decode cX10_findAway 142 = .ok (.if_icmp .ne 50, 3) := by decide +kernel
theorem dX10_findAway_145 : decode cX10_findAway 145 = .ok (.aload_n 0, 1) := by decide +kernel
theorem dX10_findAway_146 : decode cX10_findAway 146 = .ok (.getfield 103, 3) := by decide +kernel
theorem dX10_findAway_149 : decode cX10_findAway 149 = .ok (.bipush 100, 2) := by decide +kernel
theorem dX10_findAway_151 : decode cX10_findAway 151 = .ok (.aload_n 0, 1) := by decide +kernel
theorem dX10_findAway_152 : decode cX10_findAway 152 = .ok (.getfield 112, 3) := by decide +kernel
theorem dX10_findAway_155 : decode cX10_findAway 155 = .ok (.iload 5, 2) := by decide +kernel
theorem dX10_findAway_157 : decode cX10_findAway 157 = .ok (.iaload, 1) := by decide +kernel
theorem dX10_findAway_158 : decode cX10_findAway 158 = .ok (.imul, 1) := by decide +kernel
theorem dX10_findAway_159 : decode cX10_findAway 159 = .ok (.aload_n 0, 1) := by decide +kernel
theorem dX10_findAway_160 : decode cX10_findAway 160 = .ok (.getfield 112, 3) := by decide +kernel
theorem dX10_findAway_163 : decode cX10_findAway 163 = .ok (.iload 6, 2) := by decide +kernel
theorem dX10_findAway_165 : decode cX10_findAway 165 = .ok (.iaload, 1) := by decide +kernel
theorem dX10_findAway_166 : decode cX10_findAway 166 = .ok (.iadd, 1) := by decide +kernel
theorem dX10_findAway_167 : decode cX10_findAway 167 = .ok (.baload, 1) := by decide +kernel
theorem dX10_findAway_168 : decode cX10_findAway 168 = .ok (.ifCond .ne 6, 3) := by decide +kernel
theorem dX10_findAway_171 : decode cX10_findAway 171 = .ok (.goto 21, 3) := by decide +kernel
theorem dX10_findAway_174 : decode cX10_findAway 174 = .ok (.aload_n 0, 1) := by decide +kernel
theorem dX10_findAway_175 : decode cX10_findAway 175 = .ok (.getfield 124, 3) := by decide +kernel
theorem dX10_findAway_178 : decode cX10_findAway 178 = .ok (.aload_n 0, 1) := by decide +kernel
theorem dX10_findAway_179 : decode cX10_findAway 179 = .ok (.getfield 112, 3) := by decide +kernel
theorem dX10_findAway_182 : decode cX10_findAway 182 = .ok (.iload 6, 2) := by decide +kernel
theorem dX10_findAway_184 : decode cX10_findAway 184 = .ok (.iaload, 1) := by decide +kernel
theorem dX10_findAway_185 : decode cX10_findAway 185 = .ok (.iload 4, 2) := by decide +kernel
theorem dX10_findAway_187 : decode cX10_findAway 187 = .ok (.iconst 1, 1) := by decide +kernel
theorem dX10_findAway_188 : decode cX10_findAway 188 = .ok (.iadd, 1) := by decide +kernel
theorem dX10_findAway_189 : decode cX10_findAway 189 = .ok (.iastore, 1) := by decide +kernel
theorem dX10_findAway_190 : decode cX10_findAway 190 = .ok (.iconst 1, 1) := by decide +kernel
theorem dX10_findAway_191 : decode cX10_findAway 191 = .ok (.istore_n 3, 1) := by decide +kernel
theorem dX10_findAway_192 : decode cX10_findAway 192 = .ok (.iinc 6 1, 3) := by decide +kernel
theorem dX10_findAway_195 : decode cX10_findAway 195 = .ok (.goto (-91), 3) := by decide +kernel
theorem dX10_findAway_198 : decode cX10_findAway 198 = .ok (.iinc 5 1, 3) := by decide +kernel
theorem dX10_findAway_201 : decode cX10_findAway 201 = .ok (.goto (-145), 3) := by decide +kernel
theorem dX10_findAway_204 : decode cX10_findAway 204 = .ok (.iinc 4 1, 3) := by decide +kernel
theorem dX10_findAway_207 : decode cX10_findAway 207 = .ok (.goto (-160), 3) := by decide +kernel
theorem dX10_findAway_210 : decode cX10_findAway 210 = .ok (.return_, 1) := by decide +kernel
theorem dX10_shortest_0 : decode cX10_shortest 0 = .ok (.aload_n 0, 1) := by decide +kernel
theorem dX10_shortest_1 : decode cX10_shortest 1 = .ok (.iload_n 1, 1) := by decide +kernel
theorem dX10_shortest_2 : decode cX10_shortest 2 = .ok (.iload_n 2, 1) := by decide +kernel
theorem dX10_shortest_3 : decode cX10_shortest 3 = .ok (.invokevirtual 300, 3) := by decide +kernel
theorem dX10_shortest_6 : decode cX10_shortest 6 = .ok (.sipush 1000, 3) := by decide +kernel
theorem dX10_shortest_9 : decode cX10_shortest 9 = .ok (.istore_n 3, 1) := by decide +kernel
theorem dX10_shortest_10 : decode cX10_shortest 10 = .ok (.iconst 0, 1) := by decide +kernel
theorem dX10_shortest_11 : decode cX10_shortest 11 = .ok (.istore 4, 2) := by decide +kernel
theorem dX10_shortest_13 : decode cX10_shortest 13 = .ok (.iload 4, 2) := by decide +kernel
theorem dX10_shortest_15 : decode cX10_shortest 15 = .ok (.aload_n 0, 1) := by decide +kernel
theorem dX10_shortest_16 : decode cX10_shortest 16 = .ok (.getfield 285, 3) := by decide +kernel
theorem dX10_shortest_19 : decode cX10_shortest 19 = .ok (.if_icmp .ge 84, 3) := by decide +kernel
theorem dX10_shortest_22 : decode cX10_shortest 22 = .ok (.aload_n 0, 1) := by decide +kernel
theorem dX10_shortest_23 : decode cX10_shortest 23 = .ok (.getfield 112, 3) := by decide +kernel
theorem dX10_shortest_26 : decode cX10_shortest 26 = .ok (.iload 4, 2) := by decide +kernel
theorem dX10_shortest_28 : decode cX10_shortest 28 = .ok (.iaload, 1) := by decide +kernel
theorem dX10_shortest_29 : decode cX10_shortest 29 = .ok (.istore 5, 2) := by decide +kernel
theorem dX10_shortest_31 : decode cX10_shortest 31 = .ok (.aload_n 0, 1) := by decide +kernel
theorem dX10_shortest_32 : decode cX10_shortest 32 = .ok (.getfield 118, 3) := by decide +kernel
theorem dX10_shortest_35 : decode cX10_shortest 35 = .ok (.iload 5, 2) := by decide +kernel
theorem dX10_shortest_37 : decode cX10_shortest 37 = .ok (.iaload, 1) := by decide +kernel
theorem dX10_shortest_38 : decode cX10_shortest 38 = .ok (.iload_n 2, 1) := by decide +kernel
theorem dX10_shortest_39 : decode cX10_shortest 39 = .ok (.if_icmp .ne 58, 3) := by decide +kernel
theorem dX10_shortest_42 : decode cX10_shortest 42 = .ok (.iload 5, 2) := by decide +kernel
theorem dX10_shortest_44 : decode cX10_shortest 44 = .ok (.iload_n 1, 1) := by decide +kernel
theorem dX10_shortest_45 : decode cX10_shortest 45 = .ok (.if_icmp .eq 52, 3) := by decide +kernel
theorem dX10_shortest_48 : decode cX10_shortest 48 = .ok (.aload_n 0, 1) := by decide +kernel
theorem dX10_shortest_49 : decode cX10_shortest 49 = .ok (.getfield 124, 3) := by decide +kernel
theorem dX10_shortest_52 : decode cX10_shortest 52 = .ok (.iload 5, 2) := by decide +kernel
theorem dX10_shortest_54 : decode cX10_shortest 54 = .ok (.iaload, 1) := by decide +kernel
theorem dX10_shortest_55 : decode cX10_shortest 55 = .ok (.iconst (-1), 1) := by decide +kernel
theorem dX10_shortest_56 : decode cX10_shortest 56 = .ok (.if_icmp .eq 41, 3) := by decide +kernel
theorem dX10_shortest_59 : decode cX10_shortest 59 = .ok (.aload_n 0, 1) := by decide +kernel
theorem dX10_shortest_60 : decode cX10_shortest 60 = .ok (.getfield 103, 3) := by decide +kernel
theorem dX10_shortest_63 : decode cX10_shortest 63 = .ok (.bipush 100, 2) := by decide +kernel
theorem dX10_shortest_65 : decode cX10_shortest 65 = .ok (.iload 5, 2) := by decide +kernel
theorem dX10_shortest_67 : decode cX10_shortest 67 = .ok (.imul, 1) := by decide +kernel
theorem dX10_shortest_68 : decode cX10_shortest 68 = .ok (.iload_n 1, 1) := by decide +kernel
theorem dX10_shortest_69 : decode cX10_shortest 69 = .ok (.iadd, 1) := by decide +kernel
theorem dX10_shortest_70 : decode cX10_shortest 70 = .ok (.baload, 1) := by decide +kernel
theorem dX10_shortest_71 : decode cX10_shortest 71 = .ok (.ifCond .eq 26, 3) := by decide +kernel
theorem dX10_shortest_74 : decode cX10_shortest 74 = .ok (.aload_n 0, 1) := by decide +kernel
theorem dX10_shortest_75 : decode cX10_shortest 75 = .ok (.getfield 124, 3) := by decide +kernel
theorem dX10_shortest_78 : decode cX10_shortest 78 = .ok (.iload 5, 2) := by decide +kernel
theorem dX10_shortest_80 : decode cX10_shortest 80 = .ok (.iaload, 1) := by decide +kernel
theorem dX10_shortest_81 : decode cX10_shortest 81 = .ok (.iconst 1, 1) := by decide +kernel
theorem dX10_shortest_82 : decode cX10_shortest 82 = .ok (.iadd, 1) := by decide +kernel
theorem dX10_shortest_83 : decode cX10_shortest 83 = .ok (.iload_n 3, 1) := by decide +kernel
theorem dX10_shortest_84 : decode cX10_shortest 84 = .ok (.if_icmp .ge 13, 3) := by decide +kernel
theorem dX10_shortest_87 : decode cX10_shortest 87 = .ok (.aload_n 0, 1) := by decide +kernel
theorem dX10_shortest_88 : decode cX10_shortest 88 = .ok (.getfield 124, 3) := by decide +kernel
theorem dX10_shortest_91 : decode cX10_shortest 91 = .ok (.iload 5, 2) := by decide +kernel
theorem dX10_shortest_93 : decode cX10_shortest 93 = .ok (.iaload, 1) := by decide +kernel
theorem dX10_shortest_94 : decode cX10_shortest 94 = .ok (.iconst 1, 1) := by decide +kernel
theorem dX10_shortest_95 : decode cX10_shortest 95 = .ok (.iadd, 1) := by decide +kernel
theorem dX10_shortest_96 : decode cX10_shortest 96 = .ok (.istore_n 3, 1) := by decide +kernel
theorem dX10_shortest_97 : decode cX10_shortest 97 = .ok (.iinc 4 1, 3) := by decide +kernel
theorem dX10_shortest_100 : decode cX10_shortest 100 = .ok (.goto (-87), 3) := by decide +kernel
theorem dX10_shortest_103 : decode cX10_shortest 103 = .ok (.iload_n 3, 1) := by decide +kernel
theorem dX10_shortest_104 : decode cX10_shortest 104 = .ok (.ireturn, 1) := by decide +kernel
theorem dX10_findRing_0 : decode cX10_findRing 0 = .ok (.sipush 1000, 3) := by decide +kernel
theorem dX10_findRing_3 : decode cX10_findRing 3 = .ok (.istore_n 2, 1) := by decide +kernel
theorem dX10_findRing_4 : decode cX10_findRing 4 = .ok (.iconst (-1), 1) := by decide +kernel
theorem dX10_findRing_5 : decode cX10_findRing 5 = .ok (.istore_n 3, 1) := by decide +kernel
theorem dX10_findRing_6 : decode cX10_findRing 6 = .ok (.aload_n 0, 1) := by decide +kernel
theorem dX10_findRing_7 : decode cX10_findRing 7 = .ok (.getfield 285, 3) := by decide +kernel
theorem dX10_findRing_10 : decode cX10_findRing 10 = .ok (.iconst 1, 1) := by decide +kernel
theorem dX10_findRing_11 : decode cX10_findRing 11 = .ok (.isub, 1) := by decide +kernel
theorem dX10_findRing_12 : decode cX10_findRing 12 = .ok (.istore 4, 2) := by decide +kernel
theorem dX10_findRing_14 : decode cX10_findRing 14 = .ok (.iload 4, 2) := by decide +kernel
theorem dX10_findRing_16 : decode cX10_findRing 16 = .ok (.ifCond .lt 62, 3) := by decide +kernel
theorem dX10_findRing_19 : decode cX10_findRing 19 = .ok (.aload_n 0, 1) := by decide +kernel
theorem dX10_findRing_20 : decode cX10_findRing 20 = .ok (.getfield 118, 3) := by decide +kernel
theorem dX10_findRing_23 : decode cX10_findRing 23 = .ok (.aload_n 0, 1) := by decide +kernel
theorem dX10_findRing_24 : decode cX10_findRing 24 = .ok (.getfield 112, 3) := by decide +kernel
theorem dX10_findRing_27 : decode cX10_findRing 27 = .ok (.iload 4, 2) := by decide +kernel
theorem dX10_findRing_29 : decode cX10_findRing 29 = .ok (.iaload, 1) := by decide +kernel
theorem dX10_findRing_30 : decode cX10_findRing 30 = .ok (.iaload, 1) := by decide +kernel
theorem dX10_findRing_31 : decode cX10_findRing 31 = .ok (.iload_n 1, 1) := by decide +kernel
theorem dX10_findRing_32 : decode cX10_findRing 32 = .ok (.if_icmp .eq 6, 3) := by decide +kernel
theorem dX10_findRing_35 : decode cX10_findRing 35 = .ok (.goto 37, 3) := by decide +kernel
theorem dX10_findRing_38 : decode cX10_findRing 38 = .ok (.aload_n 0, 1) := by decide +kernel
theorem dX10_findRing_39 : decode cX10_findRing 39 = .ok (.aload_n 0, 1) := by decide +kernel
theorem dX10_findRing_40 : decode cX10_findRing 40 = .ok (.getfield 112, 3) := by decide +kernel
theorem dX10_findRing_43 : decode cX10_findRing 43 = .ok (.iload 4, 2) := by decide +kernel
theorem dX10_findRing_45 : decode cX10_findRing 45 = .ok (.iaload, 1) := by decide +kernel
theorem dX10_findRing_46 : decode cX10_findRing 46 = .ok (.iload_n 1, 1) := by decide +kernel
theorem dX10_findRing_47 : decode cX10_findRing 47 = .ok (.invokevirtual 303, 3) := by decide +kernel
theorem dX10_findRing_50 : decode cX10_findRing 50 = .ok (.istore 5, 2) := by decide +kernel
theorem dX10_findRing_52 : decode cX10_findRing 52 = .ok (.iload 5, 2) := by decide +kernel
theorem dX10_findRing_54 : decode cX10_findRing 54 = .ok (.iload_n 2, 1) := by decide +kernel
theorem dX10_findRing_55 : decode cX10_findRing 55 = .ok (.if_icmp .le 6, 3) := by decide +kernel
theorem dX10_findRing_58 : decode cX10_findRing 58 = .ok (.goto 14, 3) := by decide +kernel
theorem dX10_findRing_61 : decode cX10_findRing 61 = .ok (.iload 5, 2) := by decide +kernel
theorem dX10_findRing_63 : decode cX10_findRing 63 = .ok (.istore_n 2, 1) := by decide +kernel
theorem dX10_findRing_64 : decode cX10_findRing 64 = .ok (.aload_n 0, 1) := by decide +kernel
theorem dX10_findRing_65 : decode cX10_findRing 65 = .ok (.getfield 112, 3) := by decide +kernel
theorem dX10_findRing_68 : decode cX10_findRing 68 = .ok (.iload 4, 2) := by decide +kernel
theorem dX10_findRing_70 : decode cX10_findRing 70 = .ok (.iaload, 1) := by decide +kernel
theorem dX10_findRing_71 : decode cX10_findRing 71 = .ok (.istore_n 3, 1) := by decide +kernel
theorem dX10_findRing_72 : decode cX10_findRing 72 = .ok (.iinc 4 (-1), 3) := by decide +kernel
theorem dX10_findRing_75 : decode cX10_findRing 75 = .ok (.goto (-61), 3) := by decide +kernel
theorem dX10_findRing_78 : decode cX10_findRing 78 = .ok (.aload_n 0, 1) := by decide +kernel
theorem dX10_findRing_79 : decode cX10_findRing 79 = .ok (.getfield 121, 3) := by decide +kernel
theorem dX10_findRing_82 : decode cX10_findRing 82 = .ok (.iconst 0, 1) := by decide +kernel
theorem dX10_findRing_83 : decode cX10_findRing 83 = .ok (.iload_n 3, 1) := by decide +kernel
theorem dX10_findRing_84 : decode cX10_findRing 84 = .ok (.iastore, 1) := by decide +kernel
theorem dX10_findRing_85 : decode cX10_findRing 85 = .ok (.aload_n 0, 1) := by decide +kernel
theorem dX10_findRing_86 : decode cX10_findRing 86 = .ok (.iconst 1, 1) := by decide +kernel
theorem dX10_findRing_87 : decode cX10_findRing 87 = .ok (.putfield 307, 3) := by decide +kernel
theorem dX10_findRing_90 : decode cX10_findRing 90 = .ok (.aload_n 0, 1) := by decide +kernel
theorem dX10_findRing_91 : decode cX10_findRing 91 = .ok (.iload_n 3, 1) := by decide +kernel
theorem dX10_findRing_92 : decode cX10_findRing 92 = .ok (.iload_n 1, 1) := by decide +kernel
theorem dX10_findRing_93 : decode cX10_findRing 93 = .ok (.invokevirtual 303, 3) := by decide +kernel
theorem dX10_findRing_96 : decode cX10_findRing 96 = .ok (.pop, 1) := by decide +kernel
theorem dX10_findRing_97 : decode cX10_findRing 97 = .ok (.aload_n 0, 1) := by decide +kernel
theorem dX10_findRing_98 : decode cX10_findRing 98 = .ok (.getfield 307, 3) := by decide +kernel
theorem dX10_findRing_101 : decode cX10_findRing 101 = .ok (.iload_n 2, 1) := by decide +kernel
theorem dX10_findRing_102 : decode cX10_findRing 102 = .ok (.if_icmp .ge 129, 3) := by decide +kernel
theorem dX10_findRing_105 : decode cX10_findRing 105 = .ok (.aload_n 0, 1) := by decide +kernel
theorem dX10_findRing_106 : decode cX10_findRing 106 = .ok (.getfield 121, 3) := by decide +kernel
theorem dX10_findRing_109 : decode cX10_findRing 109 = .ok (.aload_n 0, 1) := by decide +kernel
theorem dX10_findRing_110 : decode cX10_findRing 110 = .ok (.getfield 307, 3) := by decide +kernel
theorem dX10_findRing_113 : decode cX10_findRing 113 = .ok (.iconst 1, 1) := by decide +kernel
theorem dX10_findRing_114 : decode cX10_findRing 114 = .ok (.isub, 1) := by decide +kernel
theorem dX10_findRing_115 : decode cX10_findRing 115 = .ok (.iaload, 1) := by decide +kernel
theorem dX10_findRing_116 : decode cX10_findRing 116 = .ok (.istore 4, 2) := by decide +kernel
theorem dX10_findRing_118 : decode cX10_findRing 118 = .ok (.iconst (-1), 1) := by decide +kernel
theorem dX10_findRing_119 : decode cX10_findRing 119 = .ok (.istore 5, 2) := by decide +kernel
theorem dX10_findRing_121 : decode cX10_findRing 121 = .ok (.aload_n 0, 1) := by decide +kernel
theorem dX10_findRing_122 : decode cX10_findRing 122 = .ok (.getfield 285, 3) := by decide +kernel
theorem dX10_findRing_125 : decode cX10_findRing 125 = .ok (.iconst 1, 1) := by decide +kernel
theorem dX10_findRing_126 : decode cX10_findRing 126 = .ok (.isub, 1) := by decide +kernel
theorem dX10_findRing_127 : decode cX10_findRing 127 = .ok (.istore 6, 2) := by decide +kernel
theorem dX10_findRing_129 : decode cX10_findRing 129 = .ok (.iload 6, 2) := by decide +kernel
theorem dX10_findRing_131 : decode cX10_findRing 131 = .ok (.ifCond .lt 76, 3) := by decide +kernel
theorem dX10_findRing_134 : decode cX10_findRing 134 = .ok (.aload_n 0, 1) := by decide +kernel
theorem dX10_findRing_135 : decode cX10_findRing 135 = .ok (.getfield 118, 3) := by decide +kernel
theorem dX10_findRing_138 : decode cX10_findRing 138 = .ok (.aload_n 0, 1) := by decide +kernel
theorem dX10_findRing_139 : decode cX10_findRing 139 = .ok (.getfield 112, 3) := by decide +kernel
theorem dX10_findRing_142 : decode cX10_findRing 142 = .ok (.iload 6, 2) := by decide +kernel
theorem dX10_findRing_144 : decode cX10_findRing 144 = .ok (.iaload, 1) := by decide +kernel
theorem dX10_findRing_145 : decode cX10_findRing 145 = .ok (.iaload, 1) := by decide +kernel
theorem dX10_findRing_146 : decode cX10_findRing 146 = .ok (.iload_n 1, 1) := by decide +kernel
theorem dX10_findRing_147 : decode cX10_findRing 147 = .ok (.if_icmp .ne 54, 3) := by decide +kernel
theorem dX10_findRing_150 : decode cX10_findRing 150 = .ok (.aload_n 0, 1) := by decide +kernel
theorem dX10_findRing_151 : decode cX10_findRing 151 = .ok (.getfield 103, 3) := by decide +kernel
theorem dX10_findRing_154 : decode cX10_findRing 154 = .ok (.bipush 100, 2) := by decide +kernel
theorem dX10_findRing_156 : decode cX10_findRing 156 = .ok (.aload_n 0, 1) := by decide +kernel
theorem dX10_findRing_157 : decode cX10_findRing 157 = .ok (.getfield 112, 3) := by decide +kernel
theorem dX10_findRing_160 : decode cX10_findRing 160 = .ok (.iload 6, 2) := by decide +kernel
theorem dX10_findRing_162 : decode cX10_findRing 162 = .ok (.iaload, 1) := by decide +kernel
theorem dX10_findRing_163 : decode cX10_findRing 163 = .ok (.imul, 1) := by decide +kernel
theorem dX10_findRing_164 : decode cX10_findRing 164 = .ok (.iload 4, 2) := by decide +kernel
theorem dX10_findRing_166 : decode cX10_findRing 166 = .ok (.iadd, 1) := by decide +kernel
theorem dX10_findRing_167 : decode cX10_findRing 167 = .ok (.baload, 1) := by decide +kernel
theorem dX10_findRing_168 : decode cX10_findRing 168 = .ok (.ifCond .eq 33, 3) := by decide +kernel
theorem dX10_findRing_171 : decode cX10_findRing 171 = .ok (.aload_n 0, 1) := by decide +kernel
theorem dX10_findRing_172 : decode cX10_findRing 172 = .ok (.getfield 124, 3) := by decide +kernel
theorem dX10_findRing_175 : decode cX10_findRing 175 = .ok (.aload_n 0, 1) := by decide +kernel
theorem dX10_findRing_176 : decode cX10_findRing 176 = .ok (.getfield 112, 3) := by decide +kernel
theorem dX10_findRing_179 : decode cX10_findRing 179 = .ok (.iload 6, 2) := by decide +kernel
theorem dX10_findRing_181 : decode cX10_findRing 181 = .ok (.iaload, 1) := by decide +kernel
theorem dX10_findRing_182 : decode cX10_findRing 182 = .ok (.iaload, 1) := by decide +kernel
theorem dX10_findRing_183 : decode cX10_findRing 183 = .ok (.iload_n 2, 1) := by decide +kernel
theorem dX10_findRing_184 : decode cX10_findRing 184 = .ok (.aload_n 0, 1) := by decide +kernel
theorem dX10_findRing_185 : decode cX10_findRing 185 = .ok (.getfield 307, 3) := by decide +kernel
theorem dX10_findRing_188 : decode cX10_findRing 188 = .ok (.isub, 1) := by decide +kernel
theorem dX10_findRing_189 : decode cX10_findRing 189 = .ok (.if_icmp .ne 12, 3) := by decide +kernel
theorem dX10_findRing_192 : decode cX10_findRing 192 = .ok (.aload_n 0, 1) := by decide +kernel
theorem dX10_findRing_193 : decode cX10_findRing 193 = .ok (.getfield 112, 3) := by decide +kernel
theorem dX10_findRing_196 : decode cX10_findRing 196 = .ok (.iload 6, 2) := by decide +kernel
theorem dX10_findRing_198 : decode cX10_findRing 198 = .ok (.iaload, 1) := by decide +kernel
theorem dX10_findRing_199 : decode cX10_findRing 199 = .ok (.istore 5, 2) := by decide +kernel
theorem dX10_findRing_201 : decode cX10_findRing 201 = .ok (.iinc 6 (-1), 3) := by decide +kernel
theorem dX10_findRing_204 : decode cX10_findRing 204 = .ok (.goto (-75), 3) := by decide +kernel
theorem dX10_findRing_207 : decode cX10_findRing 207 = .ok (.aload_n 0, 1) := by decide +kernel
theorem dX10_findRing_208 : decode cX10_findRing 208 = .ok (.getfield 121, 3) := by decide +kernel
theorem dX10_findRing_211 : decode cX10_findRing 211 = .ok (.aload_n 0, 1) := by decide +kernel
theorem dX10_findRing_212 : decode cX10_findRing 212 = .ok (.getfield 307, 3) := by decide +kernel
theorem dX10_findRing_215 : decode cX10_findRing 215 = .ok (.iload 5, 2) := by decide +kernel
theorem dX10_findRing_217 : decode cX10_findRing 217 = .ok (.iastore, 1) := by decide +kernel
theorem dX10_findRing_218 : decode cX10_findRing 218 = .ok (.aload_n 0, 1) := by decide +kernel
theorem dX10_findRing_219 : decode cX10_findRing 219 = .ok (.dup, 1) := by decide +kernel
theorem dX10_findRing_220 : decode cX10_findRing 220 = .ok (.getfield 307, 3) := by decide +kernel
theorem dX10_findRing_223 : decode cX10_findRing 223 = .ok (.iconst 1, 1) := by decide +kernel
theorem dX10_findRing_224 : decode cX10_findRing 224 = .ok (.iadd, 1) := by decide +kernel
theorem dX10_findRing_225 : decode cX10_findRing 225 = .ok (.putfield 307, 3) := by decide +kernel
theorem dX10_findRing_228 : decode cX10_findRing 228 = .ok (.goto (-131), 3) := by decide +kernel
theorem dX10_findRing_231 : decode cX10_findRing 231 = .ok (.return_, 1) := by decide +kernel
theorem dX10_knot_0 : decode cX10_knot 0 = .ok (.aload_n 0, 1) := by decide +kernel
theorem dX10_knot_1 : decode cX10_knot 1 = .ok (.iconst 0, 1) := by decide +kernel
theorem dX10_knot_2 : decode cX10_knot 2 = .ok (.putfield 1, 3) := by decide +kernel
theorem dX10_knot_5 : decode cX10_knot 5 = .ok (.aload_n 0, 1) := by decide +kernel
theorem dX10_knot_6 : decode cX10_knot 6 = .ok (.invokevirtual 297, 3) := by decide +kernel
theorem dX10_knot_9 : decode cX10_knot 9 = .ok (.iload_n 1, 1) := by decide +kernel
theorem dX10_knot_10 : decode cX10_knot 10 = .ok (.ifCond .lt 24, 3) := by decide +kernel
theorem dX10_knot_13 : decode cX10_knot 13 = .ok (.iload_n 1, 1) := by decide +kernel
theorem dX10_knot_14 : decode cX10_knot 14 = .ok (.aload_n 0, 1) := by decide +kernel
theorem dX10_knot_15 : decode cX10_knot 15 = .ok (.getfield 294, 3) := by decide +kernel
theorem dX10_knot_18 : decode cX10_knot 18 = .ok (.if_icmp .ge 16, 3) := by decide +kernel
theorem dX10_knot_21 : decode cX10_knot 21 = .ok (.iload_n 3, 1) := by decide +kernel
theorem dX10_knot_22 : decode cX10_knot 22 = .ok (.ifCond .lt 12, 3) := by decide +kernel
theorem dX10_knot_25 : decode cX10_knot 25 = .ok (.iload_n 2, 1) := by decide +kernel
theorem dX10_knot_26 : decode cX10_knot 26 = .ok (.ifCond .lt 8, 3) := by decide +kernel
theorem dX10_knot_29 : decode cX10_knot 29 = .ok (.iload_n 2, 1) := by decide +kernel
theorem dX10_knot_30 : decode cX10_knot 30 = .ok (.iconst 1, 1) := by decide +kernel
theorem dX10_knot_31 : decode cX10_knot 31 = .ok (.if_icmp .le 5, 3) := by decide +kernel
theorem dX10_knot_34 : decode cX10_knot 34 = .ok (.iconst (-1), 1) := by decide +kernel
theorem dX10_knot_35 : decode cX10_knot 35 = .ok (.ireturn, 1) := by decide +kernel
theorem dX10_knot_36 : decode cX10_knot 36 = .ok (.iload_n 2, 1) := by decide +kernel
theorem dX10_knot_37 : decode cX10_knot 37 = .ok (.iconst 1, 1) := by decide +kernel
theorem dX10_knot_38 : decode cX10_knot 38 = .ok (.if_icmp .ne 27, 3) := by decide +kernel
theorem dX10_knot_41 : decode cX10_knot 41 = .ok (.aload_n 0, 1) := by decide +kernel
theorem dX10_knot_42 : decode cX10_knot 42 = .ok (.iload_n 1, 1) := by decide +kernel
theorem dX10_knot_43 : decode cX10_knot 43 = .ok (.invokevirtual 310, 3) := by decide +kernel
theorem dX10_knot_46 : decode cX10_knot 46 = .ok (.iload_n 3, 1) := by decide +kernel
theorem dX10_knot_47 : decode cX10_knot 47 = .ok (.aload_n 0, 1) := by decide +kernel
theorem dX10_knot_48 : decode cX10_knot 48 = .ok (.getfield 307, 3) := by decide +kernel
theorem dX10_knot_51 : decode cX10_knot 51 = .ok (.if_icmp .ge 12, 3) := by decide +kernel
theorem dX10_knot_54 : decode cX10_knot 54 = .ok (.aload_n 0, 1) := by decide +kernel
theorem dX10_knot_55 : decode cX10_knot 55 = .ok (.getfield 121, 3) := by decide +kernel
theorem dX10_knot_58 : decode cX10_knot 58 = .ok (.iload_n 3, 1) := by decide +kernel
theorem dX10_knot_59 : decode cX10_knot 59 = .ok (.iaload, 1) := by decide +kernel
theorem dX10_knot_60 : decode cX10_knot 60 = .ok (.goto 4, 3) := by decide +kernel
theorem dX10_knot_63 : decode cX10_knot 63 = .ok (.iconst (-1), 1) := by decide +kernel
theorem dX10_knot_64 : decode cX10_knot 64 = .ok (.ireturn, 1) := by decide +kernel
theorem dX10_knot_65 : decode cX10_knot 65 = .ok (.iconst 0, 1) := by decide +kernel
theorem dX10_knot_66 : decode cX10_knot 66 = .ok (.istore 4, 2) := by decide +kernel
theorem dX10_knot_68 : decode cX10_knot 68 = .ok (.iconst 0, 1) := by decide +kernel
theorem dX10_knot_69 : decode cX10_knot 69 = .ok (.istore 5, 2) := by decide +kernel
theorem dX10_knot_71 : decode cX10_knot 71 = .ok (.iload 5, 2) := by decide +kernel
theorem dX10_knot_73 : decode cX10_knot 73 = .ok (.aload_n 0, 1) := by decide +kernel
theorem dX10_knot_74 : decode cX10_knot 74 = .ok (.getfield 285, 3) := by decide +kernel
theorem dX10_knot_77 : decode cX10_knot 77 = .ok (.if_icmp .ge 45, 3) := by decide +kernel
theorem dX10_knot_80 : decode cX10_knot 80 = .ok (.aload_n 0, 1) := by decide +kernel
theorem dX10_knot_81 : decode cX10_knot 81 = .ok (.getfield 118, 3) := by decide +kernel
theorem dX10_knot_84 : decode cX10_knot 84 = .ok (.aload_n 0, 1) := by decide +kernel
theorem dX10_knot_85 : decode cX10_knot 85 = .ok (.getfield 112, 3) := by decide +kernel
theorem dX10_knot_88 : decode cX10_knot 88 = .ok (.iload 5, 2) := by decide +kernel
theorem dX10_knot_90 : decode cX10_knot 90 = .ok (.iaload, 1) := by decide +kernel
theorem dX10_knot_91 : decode cX10_knot 91 = .ok (.iaload, 1) := by decide +kernel
theorem dX10_knot_92 : decode cX10_knot 92 = .ok (.iload_n 1, 1) := by decide +kernel
theorem dX10_knot_93 : decode cX10_knot 93 = .ok (.if_icmp .eq 6, 3) := by decide +kernel
theorem dX10_knot_96 : decode cX10_knot 96 = .ok (.goto 20, 3) := by decide +kernel
theorem dX10_knot_99 : decode cX10_knot 99 = .ok (.iload 4, 2) := by decide +kernel
theorem dX10_knot_101 : decode cX10_knot 101 = .ok (.iload_n 3, 1) := by decide +kernel
theorem dX10_knot_102 : decode cX10_knot 102 = .ok (.if_icmp .ne 11, 3) := by decide +kernel
theorem dX10_knot_105 : decode cX10_knot 105 = .ok (.aload_n 0, 1) := by decide +kernel
theorem dX10_knot_106 : decode cX10_knot 106 = .ok (.getfield 112, 3) := by decide +kernel
theorem dX10_knot_109 : decode cX10_knot 109 = .ok (.iload 5, 2) := by decide +kernel
theorem dX10_knot_111 : decode cX10_knot 111 = .ok (.iaload, 1) := by decide +kernel
theorem dX10_knot_112 : decode cX10_knot 112 = .ok (.ireturn, 1) := by decide +kernel
theorem dX10_knot_113 : decode cX10_knot 113 = .ok (.iinc 4 1, 3) := by decide +kernel
theorem dX10_knot_116 : decode cX10_knot 116 = .ok (.iinc 5 1, 3) := by decide +kernel
theorem dX10_knot_119 : decode cX10_knot 119 = .ok (.goto (-48), 3) := by decide +kernel
theorem dX10_knot_122 : decode cX10_knot 122 = .ok (.iconst (-1), 1) := by decide +kernel
theorem dX10_knot_123 : decode cX10_knot 123 = .ok (.ireturn, 1) := by decide +kernel
theorem dX10_breaks_0 : decode cX10_breaks 0 = .ok (.iload_n 1, 1) := by decide +kernel
theorem dX10_breaks_1 : decode cX10_breaks 1 = .ok (.istore_n 2, 1) := by decide +kernel
theorem dX10_breaks_2 : decode cX10_breaks 2 = .ok (.iconst 1, 1) := by decide +kernel
theorem dX10_breaks_3 : decode cX10_breaks 3 = .ok (.istore_n 3, 1) := by decide +kernel
theorem dX10_breaks_4 : decode cX10_breaks 4 = .ok (.iload_n 3, 1) := by decide +kernel
theorem dX10_breaks_5 : decode cX10_breaks 5 = .ok (.ifCond .eq 125, 3) := by decide +kernel
theorem dX10_breaks_8 : decode cX10_breaks 8 = .ok (.iconst 0, 1) := by decide +kernel
theorem dX10_breaks_9 : decode cX10_breaks 9 = .ok (.istore_n 3, 1) := by decide +kernel
theorem dX10_breaks_10 : decode cX10_breaks 10 = .ok (.iconst 0, 1) := by decide +kernel
theorem dX10_breaks_11 : decode cX10_breaks 11 = .ok (.istore 4, 2) := by decide +kernel
theorem dX10_breaks_13 : decode cX10_breaks 13 = .ok (.iload 4, 2) := by decide +kernel
theorem dX10_breaks_15 : decode cX10_breaks 15 = .ok (.aload_n 0, 1) := by decide +kernel
theorem dX10_breaks_16 : decode cX10_breaks 16 = .ok (.getfield 313, 3) := by decide +kernel
theorem dX10_breaks_19 : decode cX10_breaks 19 = .ok (.if_icmp .ge 108, 3) := by decide +kernel
theorem dX10_breaks_22 : decode cX10_breaks 22 = .ok (.iload_n 2, 1) := by decide +kernel
theorem dX10_breaks_23 : decode cX10_breaks 23 = .ok (.iload 4, 2) := by decide +kernel
theorem dX10_breaks_25 : decode cX10_breaks 25 = .ok (.ishr, 1) := by decide +kernel
theorem dX10_breaks_26 : decode cX10_breaks 26 = .ok (.iconst 1, 1) := by decide +kernel
theorem dX10_breaks_27 : decode cX10_breaks 27 = .ok (.iand, 1) := by decide +kernel
theorem dX10_breaks_28 : decode cX10_breaks 28 = .ok (.iconst 1, 1) := by decide +kernel
theorem dX10_breaks_29 : decode cX10_breaks 29 = .ok (.if_icmp .ne 6, 3) := by decide +kernel
theorem dX10_breaks_32 : decode cX10_breaks 32 = .ok (.goto 89, 3) := by decide +kernel
theorem dX10_breaks_35 : decode cX10_breaks 35 = .ok (.iconst 1, 1) := by decide +kernel
theorem dX10_breaks_36 : decode cX10_breaks 36 = .ok (.istore 5, 2) := by decide +kernel
theorem dX10_breaks_38 : decode cX10_breaks 38 = .ok (.iconst 0, 1) := by decide +kernel
theorem dX10_breaks_39 : decode cX10_breaks 39 = .ok (.istore 6, 2) := by decide +kernel
theorem dX10_breaks_41 : decode cX10_breaks 41 = .ok (.iload 6, 2) := by decide +kernel
theorem dX10_breaks_43 : decode cX10_breaks 43 = .ok (.aload_n 0, 1) := by decide +kernel
theorem dX10_breaks_44 : decode cX10_breaks 44 = .ok (.getfield 313, 3) := by decide +kernel
theorem dX10_breaks_47 : decode cX10_breaks 47 = .ok (.if_icmp .ge 57, 3) := by decide +kernel
theorem dX10_breaks_50 : decode cX10_breaks 50 = .ok (.iload 5, 2) := by decide +kernel
theorem dX10_breaks_52 : decode cX10_breaks 52 = .ok (.ifCond .eq 43, 3) := by decide +kernel
theorem dX10_breaks_55 : decode cX10_breaks 55 = .ok (.iload_n 2, 1) := by decide +kernel
theorem dX10_breaks_56 : decode cX10_breaks 56 = .ok (.iload 6, 2) := by decide +kernel
theorem dX10_breaks_58 : decode cX10_breaks 58 = .ok (.ishr, 1) := by decide +kernel
theorem dX10_breaks_59 : decode cX10_breaks 59 = .ok (.iconst 1, 1) := by decide +kernel
theorem dX10_breaks_60 : decode cX10_breaks 60 = .ok (.iand, 1) := by decide +kernel
theorem dX10_breaks_61 : decode cX10_breaks 61 = .ok (.iconst 1, 1) := by decide +kernel
theorem dX10_breaks_62 : decode cX10_breaks 62 = .ok (.if_icmp .eq 29, 3) := by decide +kernel
theorem dX10_breaks_65 : decode cX10_breaks 65 = .ok (.aload_n 0, 1) := by decide +kernel
theorem dX10_breaks_66 : decode cX10_breaks 66 = .ok (.getfield 103, 3) := by decide +kernel
theorem dX10_breaks_69 : decode cX10_breaks 69 = .ok (.bipush 100, 2) := by decide +kernel
theorem dX10_breaks_71 : decode cX10_breaks 71 = .ok (.aload_n 0, 1) := by decide +kernel
theorem dX10_breaks_72 : decode cX10_breaks 72 = .ok (.getfield 127, 3) := by decide +kernel
theorem dX10_breaks_75 : decode cX10_breaks 75 = .ok (.iload 6, 2) := by decide +kernel
theorem dX10_breaks_77 : decode cX10_breaks 77 = .ok (.iaload, 1) := by decide +kernel
theorem dX10_breaks_78 : decode cX10_breaks 78 = .ok (.imul, 1) := by decide +kernel
theorem dX10_breaks_79 : decode cX10_breaks 79 = .ok (.aload_n 0, 1) := by decide +kernel
theorem dX10_breaks_80 : decode cX10_breaks 80 = .ok (.getfield 127, 3) := by decide +kernel
theorem dX10_breaks_83 : decode cX10_breaks 83 = .ok (.iload 4, 2) := by decide +kernel
theorem dX10_breaks_85 : decode cX10_breaks 85 = .ok (.iaload, 1) := by decide +kernel
theorem dX10_breaks_86 : decode cX10_breaks 86 = .ok (.iadd, 1) := by decide +kernel
theorem dX10_breaks_87 : decode cX10_breaks 87 = .ok (.baload, 1) := by decide +kernel
theorem dX10_breaks_88 : decode cX10_breaks 88 = .ok (.ifCond .ne 7, 3) := by decide +kernel
theorem dX10_breaks_91 : decode cX10_breaks 91 = .ok (.iconst 1, 1) := by decide +kernel
theorem dX10_breaks_92 : decode cX10_breaks 92 = .ok (.goto 4, 3) := by decide +kernel
theorem dX10_breaks_95 : decode cX10_breaks 95 = .ok (.iconst 0, 1) := by decide +kernel
theorem dX10_breaks_96 : decode cX10_breaks 96 = .ok (.istore 5, 2) := by decide +kernel
theorem dX10_breaks_98 : decode cX10_breaks 98 = .ok (.iinc 6 1, 3) := by decide +kernel
theorem dX10_breaks_101 : decode cX10_breaks 101 = .ok (.goto (-60), 3) := by decide +kernel
theorem dX10_breaks_104 : decode cX10_breaks 104 = .ok (.iload 5, 2) := by decide +kernel
theorem dX10_breaks_106 : decode cX10_breaks 106 = .ok (.ifCond .ne 6, 3) := by decide +kernel
theorem dX10_breaks_109 : decode cX10_breaks 109 = .ok (.goto 12, 3) := by decide +kernel
theorem dX10_breaks_112 : decode cX10_breaks 112 = .ok (.iload_n 2, 1) := by decide +kernel
theorem dX10_breaks_113 : decode cX10_breaks 113 = .ok (.iconst 1, 1) := by decide +kernel
theorem dX10_breaks_114 : decode cX10_breaks 114 = .ok (.iload 4, 2) := by decide +kernel
theorem dX10_breaks_116 : decode cX10_breaks 116 = .ok (.ishl, 1) := by decide +kernel
theorem dX10_breaks_117 : decode cX10_breaks 117 = .ok (.ior, 1) := by decide +kernel
theorem dX10_breaks_118 : decode cX10_breaks 118 = .ok (.istore_n 2, 1) := by decide +kernel
theorem dX10_breaks_119 : decode cX10_breaks 119 = .ok (.iconst 1, 1) := by decide +kernel
theorem dX10_breaks_120 : decode cX10_breaks 120 = .ok (.istore_n 3, 1) := by decide +kernel
theorem dX10_breaks_121 : decode cX10_breaks 121 = .ok (.iinc 4 1, 3) := by decide +kernel
theorem dX10_breaks_124 : decode cX10_breaks 124 = .ok (.goto (-111), 3) := by decide +kernel
theorem dX10_breaks_127 : decode cX10_breaks 127 = .ok (.goto (-123), 3) := by decide +kernel
theorem dX10_breaks_130 : decode cX10_breaks 130 = .ok (.iload_n 2, 1) := by decide +kernel
theorem dX10_breaks_131 : decode cX10_breaks 131 = .ok (.iconst 1, 1) := by decide +kernel
theorem dX10_breaks_132 : decode cX10_breaks 132 = .ok (.aload_n 0, 1) := by decide +kernel
theorem dX10_breaks_133 : decode cX10_breaks 133 = .ok (.getfield 313, 3) := by decide +kernel
theorem dX10_breaks_136 : decode cX10_breaks 136 = .ok (.ishl, 1) := by decide +kernel
theorem dX10_breaks_137 : decode cX10_breaks 137 = .ok (.iconst 1, 1) := by decide +kernel
theorem dX10_breaks_138 : decode cX10_breaks 138 = .ok (.isub, 1) := by decide +kernel
theorem dX10_breaks_139 : decode cX10_breaks 139 = .ok (.if_icmp .ne 7, 3) := by decide +kernel
theorem dX10_breaks_142 : decode cX10_breaks 142 = .ok (.iconst 1, 1) := by decide +kernel
theorem dX10_breaks_143 : decode cX10_breaks 143 = .ok (.goto 4, 3) := by decide +kernel
theorem dX10_breaks_146 : decode cX10_breaks 146 = .ok (.iconst 0, 1) := by decide +kernel
theorem dX10_breaks_147 : decode cX10_breaks 147 = .ok (.ireturn, 1) := by decide +kernel
theorem dX10_size_0 : decode cX10_size 0 = .ok (.iconst 0, 1) := by decide +kernel
theorem dX10_size_1 : decode cX10_size 1 = .ok (.istore_n 1, 1) := by decide +kernel
theorem dX10_size_2 : decode cX10_size 2 = .ok (.iconst 0, 1) := by decide +kernel
theorem dX10_size_3 : decode cX10_size 3 = .ok (.istore_n 2, 1) := by decide +kernel
theorem dX10_size_4 : decode cX10_size 4 = .ok (.iload_n 2, 1) := by decide +kernel
theorem dX10_size_5 : decode cX10_size 5 = .ok (.bipush 12, 2) := by decide +kernel
theorem dX10_size_7 : decode cX10_size 7 = .ok (.if_icmp .ge 17, 3) := by decide +kernel
theorem dX10_size_10 : decode cX10_size 10 = .ok (.iload_n 1, 1) := by decide +kernel
theorem dX10_size_11 : decode cX10_size 11 = .ok (.iload_n 0, 1) := by decide +kernel
theorem dX10_size_12 : decode cX10_size 12 = .ok (.iload_n 2, 1) := by decide +kernel
theorem dX10_size_13 : decode cX10_size 13 = .ok (.ishr, 1) := by decide +kernel
theorem dX10_size_14 : decode cX10_size 14 = .ok (.iconst 1, 1) := by decide +kernel
theorem dX10_size_15 : decode cX10_size 15 = .ok (.iand, 1) := by decide +kernel
theorem dX10_size_16 : decode cX10_size 16 = .ok (.iadd, 1) := by decide +kernel
theorem dX10_size_17 : decode cX10_size 17 = .ok (.istore_n 1, 1) := by decide +kernel
theorem dX10_size_18 : decode cX10_size 18 = .ok (.iinc 2 1, 3) := by decide +kernel
theorem dX10_size_21 : decode cX10_size 21 = .ok (.goto (-17), 3) := by decide +kernel
theorem dX10_size_24 : decode cX10_size 24 = .ok (.iload_n 1, 1) := by decide +kernel
theorem dX10_size_25 : decode cX10_size 25 = .ok (.ireturn, 1) := by decide +kernel
theorem dX10_worthOf_0 : decode cX10_worthOf 0 = .ok (.iconst 0, 1) := by decide +kernel
theorem dX10_worthOf_1 : decode cX10_worthOf 1 = .ok (.istore_n 2, 1) := by decide +kernel
theorem dX10_worthOf_2 : decode cX10_worthOf 2 = .ok (.iconst 0, 1) := by decide +kernel
theorem dX10_worthOf_3 : decode cX10_worthOf 3 = .ok (.istore_n 3, 1) := by decide +kernel
theorem dX10_worthOf_4 : decode cX10_worthOf 4 = .ok (.iload_n 3, 1) := by decide +kernel
theorem dX10_worthOf_5 : decode cX10_worthOf 5 = .ok (.aload_n 0, 1) := by decide +kernel
theorem dX10_worthOf_6 : decode cX10_worthOf 6 = .ok (.getfield 313, 3) := by decide +kernel
theorem dX10_worthOf_9 : decode cX10_worthOf 9 = .ok (.if_icmp .ge 29, 3) := by decide +kernel
theorem dX10_worthOf_12 : decode cX10_worthOf 12 = .ok (.iload_n 2, 1) := by decide +kernel
theorem dX10_worthOf_13 : decode cX10_worthOf 13 = .ok (.iload_n 1, 1) := by decide +kernel
theorem dX10_worthOf_14 : decode cX10_worthOf 14 = .ok (.iload_n 3, 1) := by decide +kernel
theorem dX10_worthOf_15 : decode cX10_worthOf 15 = .ok (.ishr, 1) := by decide +kernel
theorem dX10_worthOf_16 : decode cX10_worthOf 16 = .ok (.iconst 1, 1) := by decide +kernel
theorem dX10_worthOf_17 : decode cX10_worthOf 17 = .ok (.iand, 1) := by decide +kernel
theorem dX10_worthOf_18 : decode cX10_worthOf 18 = .ok (.aload_n 0, 1) := by decide +kernel
theorem dX10_worthOf_19 : decode cX10_worthOf 19 = .ok (.getfield 33, 3) := by decide +kernel
theorem dX10_worthOf_22 : decode cX10_worthOf 22 = .ok (.aload_n 0, 1) := by decide +kernel
theorem dX10_worthOf_23 : decode cX10_worthOf 23 = .ok (.getfield 127, 3) := by decide +kernel
theorem dX10_worthOf_26 : decode cX10_worthOf 26 = .ok (.iload_n 3, 1) := by decide +kernel
theorem dX10_worthOf_27 : decode cX10_worthOf 27 = .ok (.iaload, 1) := by decide +kernel
theorem dX10_worthOf_28 : decode cX10_worthOf 28 = .ok (.iaload, 1) := by decide +kernel
theorem dX10_worthOf_29 : decode cX10_worthOf 29 = .ok (.imul, 1) := by decide +kernel
theorem dX10_worthOf_30 : decode cX10_worthOf 30 = .ok (.iadd, 1) := by decide +kernel
theorem dX10_worthOf_31 : decode cX10_worthOf 31 = .ok (.istore_n 2, 1) := by decide +kernel
theorem dX10_worthOf_32 : decode cX10_worthOf 32 = .ok (.iinc 3 1, 3) := by decide +kernel
theorem dX10_worthOf_35 : decode cX10_worthOf 35 = .ok (.goto (-31), 3) := by decide +kernel
theorem dX10_worthOf_38 : decode cX10_worthOf 38 = .ok (.iload_n 2, 1) := by decide +kernel
theorem dX10_worthOf_39 : decode cX10_worthOf 39 = .ok (.ireturn, 1) := by decide +kernel
theorem dX10_isAhead_0 : decode cX10_isAhead 0 = .ok (.iload_n 0, 1) := by decide +kernel
theorem dX10_isAhead_1 : decode cX10_isAhead 1 = .ok (.iload_n 1, 1) := by decide +kernel
theorem dX10_isAhead_2 : decode cX10_isAhead 2 = .ok (.ixor, 1) := by decide +kernel
theorem dX10_isAhead_3 : decode cX10_isAhead 3 = .ok (.istore_n 2, 1) := by decide +kernel
theorem dX10_isAhead_4 : decode cX10_isAhead 4 = .ok (.iload_n 0, 1) := by decide +kernel
theorem dX10_isAhead_5 : decode cX10_isAhead 5 = .ok (.iload_n 2, 1) := by decide +kernel
theorem dX10_isAhead_6 : decode cX10_isAhead 6 = .ok (.iand, 1) := by decide +kernel
theorem dX10_isAhead_7 : decode cX10_isAhead 7 = .ok (.iload_n 2, 1) := by decide +kernel
theorem dX10_isAhead_8 : decode cX10_isAhead 8 = .ok (.ineg, 1) := by decide +kernel
theorem dX10_isAhead_9 : decode cX10_isAhead 9 = .ok (.iand, 1) := by decide +kernel
theorem dX10_isAhead_10 : decode cX10_isAhead 10 = .ok (.ifCond .eq 7, 3) := by decide +kernel
theorem dX10_isAhead_13 : decode cX10_isAhead 13 = .ok (.iconst 1, 1) := by decide +kernel
theorem dX10_isAhead_14 : decode cX10_isAhead 14 = .ok (.goto 4, 3) := by decide +kernel
theorem dX10_isAhead_17 : decode cX10_isAhead 17 = .ok (.iconst 0, 1) := by decide +kernel
theorem dX10_isAhead_18 : decode cX10_isAhead 18 = .ok (.ireturn, 1) := by decide +kernel
theorem dX10_findFew_0 : decode cX10_findFew 0 = .ok (.aload_n 0, 1) := by decide +kernel
theorem dX10_findFew_1 : decode cX10_findFew 1 = .ok (.invokevirtual 297, 3) := by decide +kernel
theorem dX10_findFew_4 : decode cX10_findFew 4 = .ok (.aload_n 0, 1) := by decide +kernel
theorem dX10_findFew_5 : decode cX10_findFew 5 = .ok (.iconst 0, 1) := by decide +kernel
theorem dX10_findFew_6 : decode cX10_findFew 6 = .ok (.putfield 316, 3) := by decide +kernel
theorem dX10_findFew_9 : decode cX10_findFew 9 = .ok (.aload_n 0, 1) := by decide +kernel
theorem dX10_findFew_10 : decode cX10_findFew 10 = .ok (.iconst 0, 1) := by decide +kernel
theorem dX10_findFew_11 : decode cX10_findFew 11 = .ok (.putfield 319, 3) := by decide +kernel
theorem dX10_findFew_14 : decode cX10_findFew 14 = .ok (.iconst 0, 1) := by decide +kernel
theorem dX10_findFew_15 : decode cX10_findFew 15 = .ok (.istore_n 1, 1) := by decide +kernel
theorem dX10_findFew_16 : decode cX10_findFew 16 = .ok (.iload_n 1, 1) := by decide +kernel
theorem dX10_findFew_17 : decode cX10_findFew 17 = .ok (.aload_n 0, 1) := by decide +kernel
theorem dX10_findFew_18 : decode cX10_findFew 18 = .ok (.getfield 294, 3) := by decide +kernel
theorem dX10_findFew_21 : decode cX10_findFew 21 = .ok (.if_icmp .ge 245, 3) := by decide +kernel
theorem dX10_findFew_24 : decode cX10_findFew 24 = .ok (.aload_n 0, 1) := by decide +kernel
theorem dX10_findFew_25 : decode cX10_findFew 25 = .ok (.iconst 0, 1) := by decide +kernel
theorem dX10_findFew_26 : decode cX10_findFew 26 = .ok (.putfield 313, 3) := by decide +kernel
theorem dX10_findFew_29 : decode cX10_findFew 29 = .ok (.iconst 0, 1) := by decide +kernel
theorem dX10_findFew_30 : decode cX10_findFew 30 = .ok (.istore_n 2, 1) := by decide +kernel
theorem dX10_findFew_31 : decode cX10_findFew 31 = .ok (.iload_n 2, 1) := by decide +kernel
theorem dX10_findFew_32 : decode cX10_findFew 32 = .ok (.aload_n 0, 1) := by decide +kernel
theorem dX10_findFew_33 : decode cX10_findFew 33 = .ok (.getfield 285, 3) := by decide +kernel
theorem dX10_findFew_36 : decode cX10_findFew 36 = .ok (.if_icmp .ge 52, 3) := by decide +kernel
theorem dX10_findFew_39 : decode cX10_findFew 39 = .ok (.aload_n 0, 1) := by decide +kernel
theorem dX10_findFew_40 : decode cX10_findFew 40 = .ok (.getfield 118, 3) := by decide +kernel
theorem dX10_findFew_43 : decode cX10_findFew 43 = .ok (.aload_n 0, 1) := by decide +kernel
theorem dX10_findFew_44 : decode cX10_findFew 44 = .ok (.getfield 112, 3) := by decide +kernel
theorem dX10_findFew_47 : decode cX10_findFew 47 = .ok (.iload_n 2, 1) := by decide +kernel
theorem dX10_findFew_48 : decode cX10_findFew 48 = .ok (.iaload, 1) := by decide +kernel
theorem dX10_findFew_49 : decode cX10_findFew 49 = .ok (.iaload, 1) := by decide +kernel
theorem dX10_findFew_50 : decode cX10_findFew 50 = .ok (.iload_n 1, 1) := by decide +kernel
theorem dX10_findFew_51 : decode cX10_findFew 51 = .ok (.if_icmp .eq 6, 3) := by decide +kernel
theorem dX10_findFew_54 : decode cX10_findFew 54 = .ok (.goto 28, 3) := by decide +kernel
theorem dX10_findFew_57 : decode cX10_findFew 57 = .ok (.aload_n 0, 1) := by decide +kernel
theorem dX10_findFew_58 : decode cX10_findFew 58 = .ok (.getfield 127, 3) := by decide +kernel
theorem dX10_findFew_61 : decode cX10_findFew 61 = .ok (.aload_n 0, 1) := by decide +kernel
theorem dX10_findFew_62 : decode cX10_findFew 62 = .ok (.getfield 313, 3) := by decide +kernel
theorem dX10_findFew_65 : decode cX10_findFew 65 = .ok (.aload_n 0, 1) := by decide +kernel
theorem dX10_findFew_66 : decode cX10_findFew 66 = .ok (.getfield 112, 3) := by decide +kernel
theorem dX10_findFew_69 : decode cX10_findFew 69 = .ok (.iload_n 2, 1) := by decide +kernel
theorem dX10_findFew_70 : decode cX10_findFew 70 = .ok (.iaload, 1) := by decide +kernel
theorem dX10_findFew_71 : decode cX10_findFew 71 = .ok (.iastore, 1) := by decide +kernel
theorem dX10_findFew_72 : decode cX10_findFew 72 = .ok (.aload_n 0, 1) := by decide +kernel
theorem dX10_findFew_73 : decode cX10_findFew 73 = .ok (.dup, 1) := by decide +kernel
theorem dX10_findFew_74 : decode cX10_findFew 74 = .ok (.getfield 313, 3) := by decide +kernel
theorem dX10_findFew_77 : decode cX10_findFew 77 = .ok (.iconst 1, 1) := by decide +kernel
theorem dX10_findFew_78 : decode cX10_findFew 78 = .ok (.iadd, 1) := by decide +kernel
theorem dX10_findFew_79 : decode cX10_findFew 79 = .ok (.putfield 313, 3) := by decide +kernel
theorem dX10_findFew_82 : decode cX10_findFew 82 = .ok (.iinc 2 1, 3) := by decide +kernel
theorem dX10_findFew_85 : decode cX10_findFew 85 = .ok (.goto (-54), 3) := by decide +kernel
theorem dX10_findFew_88 : decode cX10_findFew 88 = .ok (.aload_n 0, 1) := by decide +kernel
theorem dX10_findFew_89 : decode cX10_findFew 89 = .ok (.getfield 313, 3) := by decide +kernel
theorem dX10_findFew_92 : decode cX10_findFew 92 = .ok (.bipush 12, 2) := by decide +kernel
theorem dX10_findFew_94 : decode cX10_findFew 94 = .ok (.if_icmp .le 5, 3) := by decide +kernel
theorem dX10_findFew_97 : decode cX10_findFew 97 = .ok (.iconst 0, 1) := by decide +kernel
theorem dX10_findFew_98 : decode cX10_findFew 98 = .ok (.ireturn, 1) := by decide +kernel
theorem dX10_findFew_99 : decode cX10_findFew 99 = .ok (.iconst 1, 1) := by decide +kernel
theorem dX10_findFew_100 : decode cX10_findFew 100 = .ok (.aload_n 0, 1) := by decide +kernel
theorem dX10_findFew_101 : decode cX10_findFew 101 = .ok (.getfield 313, 3) := by decide +kernel
theorem dX10_findFew_104 : decode cX10_findFew 104 = .ok (.ishl, 1) := by decide +kernel
theorem dX10_findFew_105 : decode cX10_findFew 105 = .ok (.iconst 1, 1) := by decide +kernel
theorem dX10_findFew_106 : decode cX10_findFew 106 = .ok (.isub, 1) := by decide +kernel
theorem dX10_findFew_107 : decode cX10_findFew 107 = .ok (.istore_n 2, 1) := by decide +kernel
theorem dX10_findFew_108 : decode cX10_findFew 108 = .ok (.iconst 1, 1) := by decide +kernel
theorem dX10_findFew_109 : decode cX10_findFew 109 = .ok (.istore_n 3, 1) := by decide +kernel
theorem dX10_findFew_110 : decode cX10_findFew 110 = .ok (.iload_n 3, 1) := by decide +kernel
theorem dX10_findFew_111 : decode cX10_findFew 111 = .ok (.iconst 1, 1) := by decide +kernel
theorem dX10_findFew_112 : decode cX10_findFew 112 = .ok (.aload_n 0, 1) := by decide +kernel
theorem dX10_findFew_113 : decode cX10_findFew 113 = .ok (.getfield 313, 3) := by decide +kernel
theorem dX10_findFew_116 : decode cX10_findFew 116 = .ok (.ishl, 1) := by decide +kernel
theorem dX10_findFew_117 : decode cX10_findFew 117 = .ok (.if_icmp .ge 94, 3) := by decide +kernel
theorem dX10_findFew_120 : decode cX10_findFew 120 = .ok (.aload_n 0, 1) := by decide +kernel
theorem dX10_findFew_121 : decode cX10_findFew 121 = .ok (.iload_n 3, 1) := by decide +kernel
theorem dX10_findFew_122 : decode cX10_findFew 122 = .ok (.invokevirtual 322, 3) := by decide +kernel
theorem dX10_findFew_125 : decode cX10_findFew 125 = .ok (.istore 4, 2) := by decide +kernel
theorem dX10_findFew_127 : decode cX10_findFew 127 = .ok (.aload_n 0, 1) := by decide +kernel
theorem dX10_findFew_128 : decode cX10_findFew 128 = .ok (.iload_n 2, 1) := by decide +kernel
theorem dX10_findFew_129 : decode cX10_findFew 129 = .ok (.invokevirtual 322, 3) := by decide +kernel
theorem dX10_findFew_132 : decode cX10_findFew 132 = .ok (.istore 5, 2) := by decide +kernel
theorem dX10_findFew_134 : decode cX10_findFew 134 = .ok (.iload 4, 2) := by decide +kernel
theorem dX10_findFew_136 : decode cX10_findFew 136 = .ok (.iload 5, 2) := by decide +kernel
theorem dX10_findFew_138 : decode cX10_findFew 138 = .ok (.if_icmp .lt 45, 3) := by decide +kernel
theorem dX10_findFew_141 : decode cX10_findFew 141 = .ok (.iload 4, 2) := by decide +kernel
theorem dX10_findFew_143 : decode cX10_findFew 143 = .ok (.iload 5, 2) := by decide +kernel
theorem dX10_findFew_145 : decode cX10_findFew 145 = .ok (.if_icmp .ne 42, 3) := by decide +kernel
theorem dX10_findFew_148 : decode cX10_findFew 148 = .ok (.iload_n 3, 1) := by decide +kernel
theorem dX10_findFew_149 : decode cX10_findFew 149 = .ok (.invokestatic 325, 3) := by decide +kernel
theorem dX10_findFew_152 : decode cX10_findFew 152 = .ok (.iload_n 2, 1) := by decide +kernel
theorem dX10_findFew_153 : decode cX10_findFew 153 = .ok (.invokestatic 325, 3) := by decide +kernel
theorem dX10_findFew_156 : decode cX10_findFew 156 = .ok (.if_icmp .lt 27, 3) := by decide +kernel
theorem dX10_findFew_159 : decode cX10_findFew 159 = .ok (.iload_n 3, 1) := by decide +kernel
theorem dX10_findFew_160 : decode cX10_findFew 160 = .ok (.invokestatic 325, 3) := by decide +kernel
theorem dX10_findFew_163 : decode cX10_findFew 163 = .ok (.iload_n 2, 1) := by decide +kernel
theorem dX10_findFew_164 : decode cX10_findFew 164 = .ok (.invokestatic 325, 3) := by decide +kernel
theorem dX10_findFew_167 : decode cX10_findFew 167 = .ok (.if_icmp .ne 20, 3) := by decide +kernel
theorem dX10_findFew_170 : decode cX10_findFew 170 = .ok (.iload_n 3, 1) := by decide +kernel
theorem dX10_findFew_171 : decode cX10_findFew 171 = .ok (.iload_n 2, 1) := by decide +kernel
theorem dX10_findFew_172 : decode cX10_findFew 172 = .ok (.if_icmp .eq 15, 3) := by decide +kernel
theorem dX10_findFew_175 : decode cX10_findFew 175 = .ok (.iload_n 3, 1) := by decide +kernel
theorem dX10_findFew_176 : decode cX10_findFew 176 = .ok (.iload_n 2, 1) := by decide +kernel
theorem dX10_findFew_177 : decode cX10_findFew 177 = .ok (.invokestatic 328, 3) := by decide +kernel
theorem dX10_findFew_180 : decode cX10_findFew 180 = .ok (.ifCond .eq 7, 3) := by decide +kernel
theorem dX10_findFew_183 : decode cX10_findFew 183 = .ok (.iconst 1, 1) := by decide +kernel
theorem dX10_findFew_184 : decode cX10_findFew 184 = .ok (.goto 4, 3) := by decide +kernel
theorem dX10_findFew_187 : decode cX10_findFew 187 = .ok (.iconst 0, 1) := by decide +kernel
theorem dX10_findFew_188 : decode cX10_findFew 188 = .ok (.istore 6, 2) := by decide +kernel
theorem dX10_findFew_190 : decode cX10_findFew 190 = .ok (.iload 6, 2) := by decide +kernel
theorem dX10_findFew_192 : decode cX10_findFew 192 = .ok (.ifCond .eq 13, 3) := by decide +kernel
theorem dX10_findFew_195 : decode cX10_findFew 195 = .ok (.aload_n 0, 1) := by decide +kernel
theorem dX10_findFew_196 : decode cX10_findFew 196 = .ok (.iload_n 3, 1) := by decide +kernel
theorem dX10_findFew_197 : decode cX10_findFew 197 = .ok (.invokevirtual 331, 3) := by decide +kernel
theorem dX10_findFew_200 : decode cX10_findFew 200 = .ok (.ifCond .eq 5, 3) := by decide +kernel
theorem dX10_findFew_203 : decode cX10_findFew 203 = .ok (.iload_n 3, 1) := by decide +kernel
theorem dX10_findFew_204 : decode cX10_findFew 204 = .ok (.istore_n 2, 1) := by decide +kernel
theorem dX10_findFew_205 : decode cX10_findFew 205 = .ok (.iinc 3 1, 3) := by decide +kernel
theorem dX10_findFew_208 : decode cX10_findFew 208 = .ok (.goto (-98), 3) := by decide +kernel
theorem dX10_findFew_211 : decode cX10_findFew 211 = .ok (.aload_n 0, 1) := by decide +kernel
theorem dX10_findFew_212 : decode cX10_findFew 212 = .ok (.dup, 1) := by decide +kernel
theorem dX10_findFew_213 : decode cX10_findFew 213 = .ok (.getfield 319, 3) := by decide +kernel
theorem dX10_findFew_216 : decode cX10_findFew 216 = .ok (.aload_n 0, 1) := by decide +kernel
theorem dX10_findFew_217 : decode cX10_findFew 217 = .ok (.iload_n 2, 1) := by decide +kernel
theorem dX10_findFew_218 : decode cX10_findFew 218 = .ok (.invokevirtual 322, 3) := by decide +kernel
theorem dX10_findFew_221 : decode cX10_findFew 221 = .ok (.iadd, 1) := by decide +kernel
theorem dX10_findFew_222 : decode cX10_findFew 222 = .ok (.putfield 319, 3) := by decide +kernel
theorem dX10_findFew_225 : decode cX10_findFew 225 = .ok (.iconst 0, 1) := by decide +kernel
theorem dX10_findFew_226 : decode cX10_findFew 226 = .ok (.istore_n 3, 1) := by decide +kernel
theorem dX10_findFew_227 : decode cX10_findFew 227 = .ok (.iload_n 3, 1) := by decide +kernel
theorem dX10_findFew_228 : decode cX10_findFew 228 = .ok (.aload_n 0, 1) := by decide +kernel
theorem dX10_findFew_229 : decode cX10_findFew 229 = .ok (.getfield 313, 3) := by decide +kernel
theorem dX10_findFew_232 : decode cX10_findFew 232 = .ok (.if_icmp .ge 28, 3) := by decide +kernel
theorem dX10_findFew_235 : decode cX10_findFew 235 = .ok (.iload_n 2, 1) := by decide +kernel
theorem dX10_findFew_236 : decode cX10_findFew 236 = .ok (.iload_n 3, 1) := by decide +kernel
theorem dX10_findFew_237 : decode cX10_findFew 237 = .ok (.ishr, 1) := by decide +kernel
theorem dX10_findFew_238 : decode cX10_findFew 238 = .ok (.iconst 1, 1) := by decide +kernel
theorem dX10_findFew_239 : decode cX10_findFew 239 = .ok (.iand, 1) := by decide +kernel
theorem dX10_findFew_240 : decode cX10_findFew 240 = .ok (.iconst 1, 1) := by decide +kernel
theorem dX10_findFew_241 : decode cX10_findFew 241 = .ok (.if_icmp .ne 13, 3) := by decide +kernel
theorem dX10_findFew_244 : decode cX10_findFew 244 = .ok (.aload_n 0, 1) := by decide +kernel
theorem dX10_findFew_245 : decode cX10_findFew 245 = .ok (.aload_n 0, 1) := by decide +kernel
theorem dX10_findFew_246 : decode cX10_findFew 246 = .ok (.getfield 127, 3) := by decide +kernel
theorem dX10_findFew_249 : decode cX10_findFew 249 = .ok (.iload_n 3, 1) := by decide +kernel
theorem dX10_findFew_250 : decode cX10_findFew 250 = .ok (.iaload, 1) := by decide +kernel
theorem dX10_findFew_251 : decode cX10_findFew 251 = .ok (.invokevirtual 334, 3) := by decide +kernel
theorem dX10_findFew_254 : decode cX10_findFew 254 = .ok (.iinc 3 1, 3) := by decide +kernel
theorem dX10_findFew_257 : decode cX10_findFew 257 = .ok (.goto (-30), 3) := by decide +kernel
theorem dX10_findFew_260 : decode cX10_findFew 260 = .ok (.iinc 1 1, 3) := by decide +kernel
theorem dX10_findFew_263 : decode cX10_findFew 263 = .ok (.goto (-247), 3) := by decide +kernel
theorem dX10_findFew_266 : decode cX10_findFew 266 = .ok (.iconst 1, 1) := by decide +kernel
theorem dX10_findFew_267 : decode cX10_findFew 267 = .ok (.ireturn, 1) := by decide +kernel
theorem dX10_insertFew_0 : decode cX10_insertFew 0 = .ok (.aload_n 0, 1) := by decide +kernel
theorem dX10_insertFew_1 : decode cX10_insertFew 1 = .ok (.getfield 316, 3) := by decide +kernel
theorem dX10_insertFew_4 : decode cX10_insertFew 4 = .ok (.istore_n 2, 1) := by decide +kernel
theorem dX10_insertFew_5 : decode cX10_insertFew 5 = .ok (.iload_n 2, 1) := by decide +kernel
theorem dX10_insertFew_6 : decode cX10_insertFew 6 = .ok (.ifCond .le 35, 3) := by decide +kernel
theorem dX10_insertFew_9 : decode cX10_insertFew 9 = .ok (.aload_n 0, 1) := by decide +kernel
theorem dX10_insertFew_10 : decode cX10_insertFew 10 = .ok (.getfield 130, 3) := by decide +kernel
theorem dX10_insertFew_13 : decode cX10_insertFew 13 = .ok (.iload_n 2, 1) := by decide +kernel
theorem dX10_insertFew_14 : decode cX10_insertFew 14 = .ok (.iconst 1, 1) := by decide +kernel
theorem dX10_insertFew_15 : decode cX10_insertFew 15 = .ok (.isub, 1) := by decide +kernel
theorem dX10_insertFew_16 : decode cX10_insertFew 16 = .ok (.iaload, 1) := by decide +kernel
theorem dX10_insertFew_17 : decode cX10_insertFew 17 = .ok (.iload_n 1, 1) := by decide +kernel
theorem dX10_insertFew_18 : decode cX10_insertFew 18 = .ok (.if_icmp .le 23, 3) := by decide +kernel
theorem dX10_insertFew_21 : decode cX10_insertFew 21 = .ok (.aload_n 0, 1) := by decide +kernel
theorem dX10_insertFew_22 : decode cX10_insertFew 22 = .ok (.getfield 130, 3) := by decide +kernel
theorem dX10_insertFew_25 : decode cX10_insertFew 25 = .ok (.iload_n 2, 1) := by decide +kernel
theorem dX10_insertFew_26 : decode cX10_insertFew 26 = .ok (.aload_n 0, 1) := by decide +kernel
theorem dX10_insertFew_27 : decode cX10_insertFew 27 = .ok (.getfield 130, 3) := by decide +kernel
theorem dX10_insertFew_30 : decode cX10_insertFew 30 = .ok (.iload_n 2, 1) := by decide +kernel
theorem dX10_insertFew_31 : decode cX10_insertFew 31 = .ok (.iconst 1, 1) := by decide +kernel
theorem dX10_insertFew_32 : decode cX10_insertFew 32 = .ok (.isub, 1) := by decide +kernel
theorem dX10_insertFew_33 : decode cX10_insertFew 33 = .ok (.iaload, 1) := by decide +kernel
theorem dX10_insertFew_34 : decode cX10_insertFew 34 = .ok (.iastore, 1) := by decide +kernel
theorem dX10_insertFew_35 : decode cX10_insertFew 35 = .ok (.iinc 2 (-1), 3) := by decide +kernel
theorem dX10_insertFew_38 : decode cX10_insertFew 38 = .ok (.goto (-33), 3) := by decide +kernel
theorem dX10_insertFew_41 : decode cX10_insertFew 41 = .ok (.aload_n 0, 1) := by decide +kernel
theorem dX10_insertFew_42 : decode cX10_insertFew 42 = .ok (.getfield 130, 3) := by decide +kernel
theorem dX10_insertFew_45 : decode cX10_insertFew 45 = .ok (.iload_n 2, 1) := by decide +kernel
theorem dX10_insertFew_46 : decode cX10_insertFew 46 = .ok (.iload_n 1, 1) := by decide +kernel
theorem dX10_insertFew_47 : decode cX10_insertFew 47 = .ok (.iastore, 1) := by decide +kernel
theorem dX10_insertFew_48 : decode cX10_insertFew 48 = .ok (.aload_n 0, 1) := by decide +kernel
theorem dX10_insertFew_49 : decode cX10_insertFew 49 = .ok (.dup, 1) := by decide +kernel
theorem dX10_insertFew_50 : decode cX10_insertFew 50 = .ok (.getfield 316, 3) := by decide +kernel
theorem dX10_insertFew_53 : decode cX10_insertFew 53 = .ok (.iconst 1, 1) := by decide +kernel
theorem dX10_insertFew_54 : decode cX10_insertFew 54 = .ok (.iadd, 1) := by decide +kernel
theorem dX10_insertFew_55 : decode cX10_insertFew 55 = .ok (.putfield 316, 3) := by decide +kernel
theorem dX10_insertFew_58 : decode cX10_insertFew 58 = .ok (.return_, 1) := by decide +kernel
theorem dX10_fewest_0 : decode cX10_fewest 0 = .ok (.aload_n 0, 1) := by decide +kernel
theorem dX10_fewest_1 : decode cX10_fewest 1 = .ok (.iconst 0, 1) := by decide +kernel
theorem dX10_fewest_2 : decode cX10_fewest 2 = .ok (.putfield 1, 3) := by decide +kernel
theorem dX10_fewest_5 : decode cX10_fewest 5 = .ok (.aload_n 0, 1) := by decide +kernel
theorem dX10_fewest_6 : decode cX10_fewest 6 = .ok (.invokevirtual 337, 3) := by decide +kernel
theorem dX10_fewest_9 : decode cX10_fewest 9 = .ok (.ifCond .eq 10, 3) := by decide +kernel
theorem dX10_fewest_12 : decode cX10_fewest 12 = .ok (.aload_n 0, 1) := by decide +kernel
theorem dX10_fewest_13 : decode cX10_fewest 13 = .ok (.getfield 319, 3) := by decide +kernel
theorem dX10_fewest_16 : decode cX10_fewest 16 = .ok (.goto 4, 3) := by decide +kernel
theorem dX10_fewest_19 : decode cX10_fewest 19 = .ok (.iconst (-1), 1) := by decide +kernel
theorem dX10_fewest_20 : decode cX10_fewest 20 = .ok (.ireturn, 1) := by decide +kernel
theorem dX10_few_0 : decode cX10_few 0 = .ok (.aload_n 0, 1) := by decide +kernel
theorem dX10_few_1 : decode cX10_few 1 = .ok (.iconst 0, 1) := by decide +kernel
theorem dX10_few_2 : decode cX10_few 2 = .ok (.putfield 1, 3) := by decide +kernel
theorem dX10_few_5 : decode cX10_few 5 = .ok (.aload_n 0, 1) := by decide +kernel
theorem dX10_few_6 : decode cX10_few 6 = .ok (.invokevirtual 337, 3) := by decide +kernel
theorem dX10_few_9 : decode cX10_few 9 = .ok (.ifCond .eq 24, 3) := by decide +kernel
theorem dX10_few_12 : decode cX10_few 12 = .ok (.iload_n 1, 1) := by decide +kernel
theorem dX10_few_13 : decode cX10_few 13 = .ok (.ifCond .lt 20, 3) := by decide +kernel
theorem dX10_few_16 : decode cX10_few 16 = .ok (.iload_n 1, 1) := by decide +kernel
theorem dX10_few_17 : decode cX10_few 17 = .ok (.aload_n 0, 1) := by decide +kernel
theorem dX10_few_18 : decode cX10_few 18 = .ok (.getfield 316, 3) := by decide +kernel
theorem dX10_few_21 : decode cX10_few 21 = .ok (.if_icmp .ge 12, 3) := by decide +kernel
theorem dX10_few_24 : decode cX10_few 24 = .ok (.aload_n 0, 1) := by decide +kernel
theorem dX10_few_25 : decode cX10_few 25 = .ok (.getfield 130, 3) := by decide +kernel
theorem dX10_few_28 : decode cX10_few 28 = .ok (.iload_n 1, 1) := by decide +kernel
theorem dX10_few_29 : decode cX10_few 29 = .ok (.iaload, 1) := by decide +kernel
theorem dX10_few_30 : decode cX10_few 30 = .ok (.goto 4, 3) := by decide +kernel
theorem dX10_few_33 : decode cX10_few 33 = .ok (.iconst (-1), 1) := by decide +kernel
theorem dX10_few_34 : decode cX10_few 34 = .ok (.ireturn, 1) := by decide +kernel
theorem dX10_layer_0 : decode cX10_layer 0 = .ok (.aload_n 0, 1) := by decide +kernel
theorem dX10_layer_1 : decode cX10_layer 1 = .ok (.iconst 0, 1) := by decide +kernel
theorem dX10_layer_2 : decode cX10_layer 2 = .ok (.putfield 1, 3) := by decide +kernel
theorem dX10_layer_5 : decode cX10_layer 5 = .ok (.aload_n 0, 1) := by decide +kernel
theorem dX10_layer_6 : decode cX10_layer 6 = .ok (.iload_n 1, 1) := by decide +kernel
theorem dX10_layer_7 : decode cX10_layer 7 = .ok (.invokevirtual 213, 3) := by decide +kernel
theorem dX10_layer_10 : decode cX10_layer 10 = .ok (.ifCond .ne 5, 3) := by decide +kernel
theorem dX10_layer_13 : decode cX10_layer 13 = .ok (.iconst 0, 1) := by decide +kernel
theorem dX10_layer_14 : decode cX10_layer 14 = .ok (.ireturn, 1) := by decide +kernel
theorem dX10_layer_15 : decode cX10_layer 15 = .ok (.aload_n 0, 1) := by decide +kernel
theorem dX10_layer_16 : decode cX10_layer 16 = .ok (.invokevirtual 297, 3) := by decide +kernel
theorem dX10_layer_19 : decode cX10_layer 19 = .ok (.aload_n 0, 1) := by decide +kernel
theorem dX10_layer_20 : decode cX10_layer 20 = .ok (.getfield 294, 3) := by decide +kernel
theorem dX10_layer_23 : decode cX10_layer 23 = .ok (.ifCond .le 5, 3) := by decide +kernel
theorem dX10_layer_26 : decode cX10_layer 26 = .ok (.iconst (-1), 1) := by decide +kernel
theorem dX10_layer_27 : decode cX10_layer 27 = .ok (.ireturn, 1) := by decide +kernel
theorem dX10_layer_28 : decode cX10_layer 28 = .ok (.iconst 0, 1) := by decide +kernel
theorem dX10_layer_29 : decode cX10_layer 29 = .ok (.istore_n 2, 1) := by decide +kernel
theorem dX10_layer_30 : decode cX10_layer 30 = .ok (.iload_n 2, 1) := by decide +kernel
theorem dX10_layer_31 : decode cX10_layer 31 = .ok (.aload_n 0, 1) := by decide +kernel
theorem dX10_layer_32 : decode cX10_layer 32 = .ok (.getfield 285, 3) := by decide +kernel
theorem dX10_layer_35 : decode cX10_layer 35 = .ok (.if_icmp .ge 21, 3) := by decide +kernel
theorem dX10_layer_38 : decode cX10_layer 38 = .ok (.aload_n 0, 1) := by decide +kernel
theorem dX10_layer_39 : decode cX10_layer 39 = .ok (.getfield 115, 3) := by decide +kernel
theorem dX10_layer_42 : decode cX10_layer 42 = .ok (.aload_n 0, 1) := by decide +kernel
theorem dX10_layer_43 : decode cX10_layer 43 = .ok (.getfield 112, 3) := by decide +kernel
theorem dX10_layer_46 : decode cX10_layer 46 = .ok (.iload_n 2, 1) := by decide +kernel
theorem dX10_layer_47 : decode cX10_layer 47 = .ok (.iaload, 1) := by decide +kernel
theorem dX10_layer_48 : decode cX10_layer 48 = .ok (.iconst 0, 1) := by decide +kernel
theorem dX10_layer_49 : decode cX10_layer 49 = .ok (.iastore, 1) := by decide +kernel
theorem dX10_layer_50 : decode cX10_layer 50 = .ok (.iinc 2 1, 3) := by decide +kernel
theorem dX10_layer_53 : decode cX10_layer 53 = .ok (.goto (-23), 3) := by decide +kernel
theorem dX10_layer_56 : decode cX10_layer 56 = .ok (.iconst 1, 1) := by decide +kernel
theorem dX10_layer_57 : decode cX10_layer 57 = .ok (.istore_n 2, 1) := by decide +kernel
theorem dX10_layer_58 : decode cX10_layer 58 = .ok (.iload_n 2, 1) := by decide +kernel
theorem dX10_layer_59 : decode cX10_layer 59 = .ok (.ifCond .eq 123, 3) := by decide +kernel
theorem dX10_layer_62 : decode cX10_layer 62 = .ok (.iconst 0, 1) := by decide +kernel
theorem dX10_layer_63 : decode cX10_layer 63 = .ok (.istore_n 2, 1) := by decide +kernel
theorem dX10_layer_64 : decode cX10_layer 64 = .ok (.iconst 0, 1) := by decide +kernel
theorem dX10_layer_65 : decode cX10_layer 65 = .ok (.istore_n 3, 1) := by decide +kernel
theorem dX10_layer_66 : decode cX10_layer 66 = .ok (.iload_n 3, 1) := by decide +kernel
theorem dX10_layer_67 : decode cX10_layer 67 = .ok (.aload_n 0, 1) := by decide +kernel
theorem dX10_layer_68 : decode cX10_layer 68 = .ok (.getfield 285, 3) := by decide +kernel
theorem dX10_layer_71 : decode cX10_layer 71 = .ok (.if_icmp .ge 108, 3) := by decide +kernel
theorem dX10_layer_74 : decode cX10_layer 74 = .ok (.iconst 0, 1) := by decide +kernel
theorem dX10_layer_75 : decode cX10_layer 75 = .ok (.istore 4, 2) := by decide +kernel
theorem dX10_layer_77 : decode cX10_layer 77 = .ok (.iload 4, 2) := by decide +kernel
theorem dX10_layer_79 : decode cX10_layer 79 = .ok (.aload_n 0, 1) := by decide +kernel
theorem dX10_layer_80 : decode cX10_layer 80 = .ok (.getfield 285, 3) := by decide +kernel
theorem dX10_layer_83 : decode cX10_layer 83 = .ok (.if_icmp .ge 90, 3) := by decide +kernel
theorem dX10_layer_86 : decode cX10_layer 86 = .ok (.aload_n 0, 1) := by decide +kernel
theorem dX10_layer_87 : decode cX10_layer 87 = .ok (.getfield 103, 3) := by decide +kernel
theorem dX10_layer_90 : decode cX10_layer 90 = .ok (.bipush 100, 2) := by decide +kernel
theorem dX10_layer_92 : decode cX10_layer 92 = .ok (.aload_n 0, 1) := by decide +kernel
theorem dX10_layer_93 : decode cX10_layer 93 = .ok (.getfield 112, 3) := by decide +kernel
theorem dX10_layer_96 : decode cX10_layer 96 = .ok (.iload_n 3, 1) := by decide +kernel
theorem dX10_layer_97 : decode cX10_layer 97 = .ok (.iaload, 1) := by decide +kernel
theorem dX10_layer_98 : decode cX10_layer 98 = .ok (.imul, 1) := by decide +kernel
theorem dX10_layer_99 : decode cX10_layer 99 = .ok (.aload_n 0, 1) := by decide +kernel
theorem dX10_layer_100 : decode cX10_layer 100 = .ok (.getfield 112, 3) := by decide +kernel
theorem dX10_layer_103 : decode cX10_layer 103 = .ok (.iload 4, 2) := by decide +kernel
theorem dX10_layer_105 : decode cX10_layer 105 = .ok (.iaload, 1) := by decide +kernel
theorem dX10_layer_106 : decode cX10_layer 106 = .ok (.iadd, 1) := by decide +kernel
theorem dX10_layer_107 : decode cX10_layer 107 = .ok (.baload, 1) := by decide +kernel
theorem dX10_layer_108 : decode cX10_layer 108 = .ok (.ifCond .eq 59, 3) := by decide +kernel
theorem dX10_layer_111 : decode cX10_layer 111 = .ok (.aload_n 0, 1) := by decide +kernel
theorem dX10_layer_112 : decode cX10_layer 112 = .ok (.getfield 115, 3) := by decide +kernel
theorem dX10_layer_115 : decode cX10_layer 115 = .ok (.aload_n 0, 1) := by decide +kernel
theorem dX10_layer_116 : decode cX10_layer 116 = .ok (.getfield 112, 3) := by decide +kernel
theorem dX10_layer_119 : decode cX10_layer 119 = .ok (.iload 4, 2) := by decide +kernel
theorem dX10_layer_121 : decode cX10_layer 121 = .ok (.iaload, 1) := by decide +kernel
theorem dX10_layer_122 : decode cX10_layer 122 = .ok (.iaload, 1) := by decide +kernel
theorem dX10_layer_123 : decode cX10_layer 123 = .ok (.aload_n 0, 1) := by decide +kernel
theorem dX10_layer_124 : decode cX10_layer 124 = .ok (.getfield 115, 3) := by decide +kernel
theorem dX10_layer_127 : decode cX10_layer 127 = .ok (.aload_n 0, 1) := by decide +kernel
theorem dX10_layer_128 : decode cX10_layer 128 = .ok (.getfield 112, 3) := by decide +kernel
theorem dX10_layer_131 : decode cX10_layer 131 = .ok (.iload_n 3, 1) := by decide +kernel
theorem dX10_layer_132 : decode cX10_layer 132 = .ok (.iaload, 1) := by decide +kernel
theorem dX10_layer_133 : decode cX10_layer 133 = .ok (.iaload, 1) := by decide +kernel
theorem dX10_layer_134 : decode cX10_layer 134 = .ok (.if_icmp .le 6, 3) := by decide +kernel
theorem dX10_layer_137 : decode cX10_layer 137 = .ok (.goto 30, 3) := by decide +kernel
theorem dX10_layer_140 : decode cX10_layer 140 = .ok (.aload_n 0, 1) := by decide +kernel
theorem dX10_layer_141 : decode cX10_layer 141 = .ok (.getfield 115, 3) := by decide +kernel
theorem dX10_layer_144 : decode cX10_layer 144 = .ok (.aload_n 0, 1) := by decide +kernel
theorem dX10_layer_145 : decode cX10_layer 145 = .ok (.getfield 112, 3) := by decide +kernel
theorem dX10_layer_148 : decode cX10_layer 148 = .ok (.iload 4, 2) := by decide +kernel
theorem dX10_layer_150 : decode cX10_layer 150 = .ok (.iaload, 1) := by decide +kernel
theorem dX10_layer_151 : decode cX10_layer 151 = .ok (.aload_n 0, 1) := by decide +kernel
theorem dX10_layer_152 : decode cX10_layer 152 = .ok (.getfield 115, 3) := by decide +kernel
theorem dX10_layer_155 : decode cX10_layer 155 = .ok (.aload_n 0, 1) := by decide +kernel
theorem dX10_layer_156 : decode cX10_layer 156 = .ok (.getfield 112, 3) := by decide +kernel
theorem dX10_layer_159 : decode cX10_layer 159 = .ok (.iload_n 3, 1) := by decide +kernel
theorem dX10_layer_160 : decode cX10_layer 160 = .ok (.iaload, 1) := by decide +kernel
theorem dX10_layer_161 : decode cX10_layer 161 = .ok (.iaload, 1) := by decide +kernel
theorem dX10_layer_162 : decode cX10_layer 162 = .ok (.iconst 1, 1) := by decide +kernel
theorem dX10_layer_163 : decode cX10_layer 163 = .ok (.iadd, 1) := by decide +kernel
theorem dX10_layer_164 : decode cX10_layer 164 = .ok (.iastore, 1) := by decide +kernel
theorem dX10_layer_165 : decode cX10_layer 165 = .ok (.iconst 1, 1) := by decide +kernel
theorem dX10_layer_166 : decode cX10_layer 166 = .ok (.istore_n 2, 1) := by decide +kernel
theorem dX10_layer_167 : decode cX10_layer 167 = .ok (.iinc 4 1, 3) := by decide +kernel
theorem dX10_layer_170 : decode cX10_layer 170 = .ok (.goto (-93), 3) := by decide +kernel
theorem dX10_layer_173 : decode cX10_layer 173 = .ok (.iinc 3 1, 3) := by decide +kernel
theorem dX10_layer_176 : decode cX10_layer 176 = .ok (.goto (-110), 3) := by decide +kernel
theorem dX10_layer_179 : decode cX10_layer 179 = .ok (.goto (-121), 3) := by decide +kernel
theorem dX10_layer_182 : decode cX10_layer 182 = .ok (.aload_n 0, 1) := by decide +kernel
theorem dX10_layer_183 : decode cX10_layer 183 = .ok (.getfield 115, 3) := by decide +kernel
theorem dX10_layer_186 : decode cX10_layer 186 = .ok (.iload_n 1, 1) := by decide +kernel
theorem dX10_layer_187 : decode cX10_layer 187 = .ok (.iaload, 1) := by decide +kernel
theorem dX10_layer_188 : decode cX10_layer 188 = .ok (.ireturn, 1) := by decide +kernel
theorem dX10_push_0 : decode cX10_push 0 = .ok (.aload_n 0, 1) := by decide +kernel
theorem dX10_push_1 : decode cX10_push 1 = .ok (.iconst 0, 1) := by decide +kernel
theorem dX10_push_2 : decode cX10_push 2 = .ok (.putfield 1, 3) := by decide +kernel
theorem dX10_push_5 : decode cX10_push 5 = .ok (.aload_n 0, 1) := by decide +kernel
theorem dX10_push_6 : decode cX10_push 6 = .ok (.getfield 340, 3) := by decide +kernel
theorem dX10_push_9 : decode cX10_push 9 = .ok (.bipush 40, 2) := by decide +kernel
theorem dX10_push_11 : decode cX10_push 11 = .ok (.if_icmp .ne 5, 3) := by decide +kernel
theorem dX10_push_14 : decode cX10_push 14 = .ok (.iconst (-1), 1) := by decide +kernel
theorem dX10_push_15 : decode cX10_push 15 = .ok (.ireturn, 1) := by decide +kernel
theorem dX10_push_16 : decode cX10_push 16 = .ok (.aload_n 0, 1) := by decide +kernel
theorem dX10_push_17 : decode cX10_push 17 = .ok (.getfield 133, 3) := by decide +kernel
theorem dX10_push_20 : decode cX10_push 20 = .ok (.aload_n 0, 1) := by decide +kernel
theorem dX10_push_21 : decode cX10_push 21 = .ok (.getfield 340, 3) := by decide +kernel
theorem dX10_push_24 : decode cX10_push 24 = .ok (.iload_n 1, 1) := by decide +kernel
theorem dX10_push_25 : decode cX10_push 25 = .ok (.iastore, 1) := by decide +kernel
theorem dX10_push_26 : decode cX10_push 26 = .ok (.aload_n 0, 1) := by decide +kernel
theorem dX10_push_27 : decode cX10_push 27 = .ok (.dup, 1) := by decide +kernel
theorem dX10_push_28 : decode cX10_push 28 = .ok (.getfield 340, 3) := by decide +kernel
theorem dX10_push_31 : decode cX10_push 31 = .ok (.iconst 1, 1) := by decide +kernel
theorem dX10_push_32 : decode cX10_push 32 = .ok (.iadd, 1) := by decide +kernel
theorem dX10_push_33 : decode cX10_push 33 = .ok (.putfield 340, 3) := by decide +kernel
theorem dX10_push_36 : decode cX10_push 36 = .ok (.aload_n 0, 1) := by decide +kernel
theorem dX10_push_37 : decode cX10_push 37 = .ok (.getfield 340, 3) := by decide +kernel
theorem dX10_push_40 : decode cX10_push 40 = .ok (.ireturn, 1) := by decide +kernel
theorem dX10_check_0 : decode cX10_check 0 = .ok (.aload_n 0, 1) := by decide +kernel
theorem dX10_check_1 : decode cX10_check 1 = .ok (.iconst 0, 1) := by decide +kernel
theorem dX10_check_2 : decode cX10_check 2 = .ok (.putfield 1, 3) := by decide +kernel
theorem dX10_check_5 : decode cX10_check 5 = .ok (.aload_n 0, 1) := by decide +kernel
theorem dX10_check_6 : decode cX10_check 6 = .ok (.iload_n 1, 1) := by decide +kernel
theorem dX10_check_7 : decode cX10_check 7 = .ok (.ifCond .eq 8, 3) := by decide +kernel
theorem dX10_check_10 : decode cX10_check 10 = .ok (.iload_n 1, 1) := by decide +kernel
theorem dX10_check_11 : decode cX10_check 11 = .ok (.iconst 1, 1) := by decide +kernel
theorem dX10_check_12 : decode cX10_check 12 = .ok (.if_icmp .ne 7, 3) := by decide +kernel
theorem dX10_check_15 : decode cX10_check 15 = .ok (.iconst 1, 1) := by decide +kernel
theorem dX10_check_16 : decode cX10_check 16 = .ok (.goto 4, 3) := by decide +kernel
theorem dX10_check_19 : decode cX10_check 19 = .ok (.iconst 0, 1) := by decide +kernel
theorem dX10_check_20 : decode cX10_check 20 = .ok (.iconst 1, 1) := by decide +kernel
theorem dX10_check_21 : decode cX10_check 21 = .ok (.invokevirtual 136, 3) := by decide +kernel
theorem dX10_check_24 : decode cX10_check 24 = .ok (.ifCond .ne 5, 3) := by decide +kernel
theorem dX10_check_27 : decode cX10_check 27 = .ok (.iconst 0, 1) := by decide +kernel
theorem dX10_check_28 : decode cX10_check 28 = .ok (.ireturn, 1) := by decide +kernel
theorem dX10_check_29 : decode cX10_check 29 = .ok (.aload_n 0, 1) := by decide +kernel
theorem dX10_check_30 : decode cX10_check 30 = .ok (.getfield 340, 3) := by decide +kernel
theorem dX10_check_33 : decode cX10_check 33 = .ok (.istore_n 2, 1) := by decide +kernel
theorem dX10_check_34 : decode cX10_check 34 = .ok (.aload_n 0, 1) := by decide +kernel
theorem dX10_check_35 : decode cX10_check 35 = .ok (.iconst 0, 1) := by decide +kernel
theorem dX10_check_36 : decode cX10_check 36 = .ok (.putfield 340, 3) := by decide +kernel
theorem dX10_check_39 : decode cX10_check 39 = .ok (.aload_n 0, 1) := by decide +kernel
theorem dX10_check_40 : decode cX10_check 40 = .ok (.invokevirtual 288, 3) := by decide +kernel
theorem dX10_check_43 : decode cX10_check 43 = .ok (.iconst 0, 1) := by decide +kernel
theorem dX10_check_44 : decode cX10_check 44 = .ok (.istore_n 3, 1) := by decide +kernel
theorem dX10_check_45 : decode cX10_check 45 = .ok (.iload_n 3, 1) := by decide +kernel
theorem dX10_check_46 : decode cX10_check 46 = .ok (.aload_n 0, 1) := by decide +kernel
theorem dX10_check_47 : decode cX10_check 47 = .ok (.getfield 285, 3) := by decide +kernel
theorem dX10_check_50 : decode cX10_check 50 = .ok (.if_icmp .ge 21, 3) := by decide +kernel
theorem dX10_check_53 : decode cX10_check 53 = .ok (.aload_n 0, 1) := by decide +kernel
theorem dX10_check_54 : decode cX10_check 54 = .ok (.getfield 109, 3) := by decide +kernel
theorem dX10_check_57 : decode cX10_check 57 = .ok (.aload_n 0, 1) := by decide +kernel
theorem dX10_check_58 : decode cX10_check 58 = .ok (.getfield 112, 3) := by decide +kernel
theorem dX10_check_61 : decode cX10_check 61 = .ok (.iload_n 3, 1) := by decide +kernel
theorem dX10_check_62 : decode cX10_check 62 = .ok (.iaload, 1) := by decide +kernel
theorem dX10_check_63 : decode cX10_check 63 = .ok (.iconst 1, 1) := by decide +kernel
theorem dX10_check_64 : decode cX10_check 64 = .ok (.bastore, 1) := by decide +kernel
theorem dX10_check_65 : decode cX10_check 65 = .ok (.iinc 3 1, 3) := by decide +kernel
theorem dX10_check_68 : decode cX10_check 68 = .ok (.goto (-23), 3) := by decide +kernel
theorem dX10_check_71 : decode cX10_check 71 = .ok (.iconst 0, 1) := by decide +kernel
theorem dX10_check_72 : decode cX10_check 72 = .ok (.istore_n 3, 1) := by decide +kernel
theorem dX10_check_73 : decode cX10_check 73 = .ok (.iload_n 3, 1) := by decide +kernel
theorem dX10_check_74 : decode cX10_check 74 = .ok (.iload_n 2, 1) := by decide +kernel
theorem dX10_check_75 : decode cX10_check 75 = .ok (.if_icmp .ge 125, 3) := by decide +kernel
theorem dX10_check_78 : decode cX10_check 78 = .ok (.aload_n 0, 1) := by decide +kernel
theorem dX10_check_79 : decode cX10_check 79 = .ok (.getfield 133, 3) := by decide +kernel
theorem dX10_check_82 : decode cX10_check 82 = .ok (.iload_n 3, 1) := by decide +kernel
theorem dX10_check_83 : decode cX10_check 83 = .ok (.iaload, 1) := by decide +kernel
theorem dX10_check_84 : decode cX10_check 84 = .ok (.istore 4, 2) := by decide +kernel
theorem dX10_check_86 : decode cX10_check 86 = .ok (.iload 4, 2) := by decide +kernel
theorem dX10_check_88 : decode cX10_check 88 = .ok (.ifCond .lt 36, 3) := by decide +kernel
theorem dX10_check_91 : decode cX10_check 91 = .ok (.iload 4, 2) := by decide +kernel
theorem dX10_check_93 : decode cX10_check 93 = .ok (.aload_n 0, 1) := by decide +kernel
theorem dX10_check_94 : decode cX10_check 94 = .ok (.getfield 181, 3) := by decide +kernel
theorem dX10_check_97 : decode cX10_check 97 = .ok (.if_icmp .ge 27, 3) := by decide +kernel
theorem dX10_check_100 : decode cX10_check 100 = .ok (.aload_n 0, 1) := by decide +kernel
theorem dX10_check_101 : decode cX10_check 101 = .ok (.getfield 39, 3) := by decide +kernel
theorem dX10_check_104 : decode cX10_check 104 = .ok (.iload 4, 2) := by decide +kernel
theorem dX10_check_106 : decode cX10_check 106 = .ok (.baload, 1) := by decide +kernel
theorem dX10_check_107 : decode cX10_check 107 = .ok (.ifCond .eq 17, 3) := by decide +kernel
theorem dX10_check_110 : decode cX10_check 110 = .ok (.aload_n 0, 1) := by decide +kernel
theorem dX10_check_111 : decode cX10_check 111 = .ok (.getfield 109, 3) := by decide +kernel
theorem dX10_check_114 : decode cX10_check 114 = .ok (.iload 4, 2) := by decide +kernel
theorem dX10_check_116 : decode cX10_check 116 = .ok (.baload, 1) := by decide +kernel
theorem dX10_check_117 : decode cX10_check 117 = .ok (.ifCond .eq 7, 3) := by decide +kernel
theorem dX10_check_120 : decode cX10_check 120 = .ok (.iconst 1, 1) := by decide +kernel
theorem dX10_check_121 : decode cX10_check 121 = .ok (.goto 4, 3) := by decide +kernel
theorem dX10_check_124 : decode cX10_check 124 = .ok (.iconst 0, 1) := by decide +kernel
theorem dX10_check_125 : decode cX10_check 125 = .ok (.istore 5, 2) := by decide +kernel
theorem dX10_check_127 : decode cX10_check 127 = .ok (.iload 5, 2) := by decide +kernel
theorem dX10_check_129 : decode cX10_check 129 = .ok (.ifCond .eq 15, 3) := by decide +kernel
theorem dX10_check_132 : decode cX10_check 132 = .ok (.iload_n 1, 1) := by decide +kernel
theorem dX10_check_133 : decode cX10_check 133 = .ok (.ifCond .ne 11, 3) := by decide +kernel
theorem dX10_check_136 : decode cX10_check 136 = .ok (.aload_n 0, 1) := by decide +kernel
theorem dX10_check_137 : decode cX10_check 137 = .ok (.iload 4, 2) := by decide +kernel
theorem dX10_check_139 : decode cX10_check 139 = .ok (.invokevirtual 291, 3) := by decide +kernel
theorem dX10_check_142 : decode cX10_check 142 = .ok (.istore 5, 2) := by decide +kernel
theorem dX10_check_144 : decode cX10_check 144 = .ok (.iload 5, 2) := by decide +kernel
theorem dX10_check_146 : decode cX10_check 146 = .ok (.ifCond .eq 33, 3) := by decide +kernel
theorem dX10_check_149 : decode cX10_check 149 = .ok (.iload_n 1, 1) := by decide +kernel
theorem dX10_check_150 : decode cX10_check 150 = .ok (.iconst 1, 1) := by decide +kernel
theorem dX10_check_151 : decode cX10_check 151 = .ok (.if_icmp .ne 28, 3) := by decide +kernel
theorem dX10_check_154 : decode cX10_check 154 = .ok (.iload_n 3, 1) := by decide +kernel
theorem dX10_check_155 : decode cX10_check 155 = .ok (.ifCond .le 24, 3) := by decide +kernel
theorem dX10_check_158 : decode cX10_check 158 = .ok (.aload_n 0, 1) := by decide +kernel
theorem dX10_check_159 : decode cX10_check 159 = .ok (.getfield 103, 3) := by decide +kernel
theorem dX10_check_162 : decode cX10_check 162 = .ok (.bipush 100, 2) := by decide +kernel
theorem dX10_check_164 : decode cX10_check 164 = .ok (.iload 4, 2) := by decide +kernel
theorem dX10_check_166 : decode cX10_check 166 = .ok (.imul, 1) := by decide +kernel
theorem dX10_check_167 : decode cX10_check 167 = .ok (.aload_n 0, 1) := by decide +kernel
theorem dX10_check_168 : decode cX10_check 168 = .ok (.getfield 133, 3) := by decide +kernel
theorem dX10_check_171 : decode cX10_check 171 = .ok (.iload_n 3, 1) := by decide +kernel
theorem dX10_check_172 : decode cX10_check 172 = .ok (.iconst 1, 1) := by decide +kernel
theorem dX10_check_173 : decode cX10_check 173 = .ok (.isub, 1) := by decide +kernel
theorem dX10_check_174 : decode cX10_check 174 = .ok (.iaload, 1) := by decide +kernel
theorem dX10_check_175 : decode cX10_check 175 = .ok (.iadd, 1) := by decide +kernel
theorem dX10_check_176 : decode cX10_check 176 = .ok (.baload, 1) := by decide +kernel
theorem dX10_check_177 : decode cX10_check 177 = .ok (.istore 5, 2) := by decide +kernel
theorem dX10_check_179 : decode cX10_check 179 = .ok (.iload 5, 2) := by decide +kernel
theorem dX10_check_181 : decode cX10_check 181 = .ok (.ifCond .ne 5, 3) := by decide +kernel
theorem dX10_check_184 : decode cX10_check 184 = .ok (.iload_n 3, 1) := by decide +kernel
theorem dX10_check_185 : decode cX10_check 185 = .ok (.ireturn, 1) := by decide +kernel
theorem dX10_check_186 : decode cX10_check 186 = .ok (.aload_n 0, 1) := by decide +kernel
theorem dX10_check_187 : decode cX10_check 187 = .ok (.getfield 109, 3) := by decide +kernel
theorem dX10_check_190 : decode cX10_check 190 = .ok (.iload 4, 2) := by decide +kernel
theorem dX10_check_192 : decode cX10_check 192 = .ok (.iconst 0, 1) := by decide +kernel
theorem dX10_check_193 : decode cX10_check 193 = .ok (.bastore, 1) := by decide +kernel
theorem dX10_check_194 : decode cX10_check 194 = .ok (.iinc 3 1, 3) := by decide +kernel
theorem dX10_check_197 : decode cX10_check 197 = .ok (.goto (-124), 3) := by decide +kernel
theorem dX10_check_200 : decode cX10_check 200 = .ok (.iload_n 1, 1) := by decide +kernel
theorem dX10_check_201 : decode cX10_check 201 = .ok (.ifCond .ne 17, 3) := by decide +kernel
theorem dX10_check_204 : decode cX10_check 204 = .ok (.iload_n 2, 1) := by decide +kernel
theorem dX10_check_205 : decode cX10_check 205 = .ok (.aload_n 0, 1) := by decide +kernel
theorem dX10_check_206 : decode cX10_check 206 = .ok (.getfield 285, 3) := by decide +kernel
theorem dX10_check_209 : decode cX10_check 209 = .ok (.if_icmp .ne 7, 3) := by decide +kernel
theorem dX10_check_212 : decode cX10_check 212 = .ok (.iconst (-1), 1) := by decide +kernel
theorem dX10_check_213 : decode cX10_check 213 = .ok (.goto 4, 3) := by decide +kernel
theorem dX10_check_216 : decode cX10_check 216 = .ok (.iload_n 2, 1) := by decide +kernel
theorem dX10_check_217 : decode cX10_check 217 = .ok (.ireturn, 1) := by decide +kernel
theorem dX10_check_218 : decode cX10_check 218 = .ok (.iload_n 2, 1) := by decide +kernel
theorem dX10_check_219 : decode cX10_check 219 = .ok (.iconst 2, 1) := by decide +kernel
theorem dX10_check_220 : decode cX10_check 220 = .ok (.if_icmp .ge 5, 3) := by decide +kernel
theorem dX10_check_223 : decode cX10_check 223 = .ok (.iload_n 2, 1) := by decide +kernel
theorem dX10_check_224 : decode cX10_check 224 = .ok (.ireturn, 1) := by decide +kernel
theorem dX10_check_225 : decode cX10_check 225 = .ok (.aload_n 0, 1) := by decide +kernel
theorem dX10_check_226 : decode cX10_check 226 = .ok (.getfield 103, 3) := by decide +kernel
theorem dX10_check_229 : decode cX10_check 229 = .ok (.bipush 100, 2) := by decide +kernel
theorem dX10_check_231 : decode cX10_check 231 = .ok (.aload_n 0, 1) := by decide +kernel
theorem dX10_check_232 : decode cX10_check 232 = .ok (.getfield 133, 3) := by decide +kernel
theorem dX10_check_235 : decode cX10_check 235 = .ok (.iconst 0, 1) := by decide +kernel
theorem dX10_check_236 : decode cX10_check 236 = .ok (.iaload, 1) := by decide +kernel
theorem dX10_check_237 : decode cX10_check 237 = .ok (.imul, 1) := by decide +kernel
theorem dX10_check_238 : decode cX10_check 238 = .ok (.aload_n 0, 1) := by decide +kernel
theorem dX10_check_239 : decode cX10_check 239 = .ok (.getfield 133, 3) := by decide +kernel
theorem dX10_check_242 : decode cX10_check 242 = .ok (.iload_n 2, 1) := by decide +kernel
theorem dX10_check_243 : decode cX10_check 243 = .ok (.iconst 1, 1) := by decide +kernel
theorem dX10_check_244 : decode cX10_check 244 = .ok (.isub, 1) := by decide +kernel
theorem dX10_check_245 : decode cX10_check 245 = .ok (.iaload, 1) := by decide +kernel
theorem dX10_check_246 : decode cX10_check 246 = .ok (.iadd, 1) := by decide +kernel
theorem dX10_check_247 : decode cX10_check 247 = .ok (.baload, 1) := by decide +kernel
theorem dX10_check_248 : decode cX10_check 248 = .ok (.ifCond .eq 7, 3) := by decide +kernel
theorem dX10_check_251 : decode cX10_check 251 = .ok (.iconst (-1), 1) := by decide +kernel
theorem dX10_check_252 : decode cX10_check 252 = .ok (.goto 4, 3) := by decide +kernel
theorem dX10_check_255 : decode cX10_check 255 = .ok (.iconst 0, 1) := by decide +kernel
theorem dX10_check_256 : decode cX10_check 256 = .ok (.ireturn, 1) := by decide +kernel
theorem dX10_count_0 : decode cX10_count 0 = .ok (.aload_n 0, 1) := by decide +kernel
theorem dX10_count_1 : decode cX10_count 1 = .ok (.iconst 0, 1) := by decide +kernel
theorem dX10_count_2 : decode cX10_count 2 = .ok (.putfield 1, 3) := by decide +kernel
theorem dX10_count_5 : decode cX10_count 5 = .ok (.iload_n 1, 1) := by decide +kernel
theorem dX10_count_6 : decode cX10_count 6 = .ok (.tableswitch 138 0 5 #[38, 43, 48, 53, 58, 63], 38) := by decide +kernel
theorem dX10_count_44 : decode cX10_count 44 = .ok (.aload_n 0, 1) := by decide +kernel
theorem dX10_count_45 : decode cX10_count 45 = .ok (.getfield 140, 3) := by decide +kernel
theorem dX10_count_48 : decode cX10_count 48 = .ok (.ireturn, 1) := by decide +kernel
theorem dX10_count_49 : decode cX10_count 49 = .ok (.aload_n 0, 1) := by decide +kernel
theorem dX10_count_50 : decode cX10_count 50 = .ok (.getfield 199, 3) := by decide +kernel
theorem dX10_count_53 : decode cX10_count 53 = .ok (.ireturn, 1) := by decide +kernel
theorem dX10_count_54 : decode cX10_count 54 = .ok (.aload_n 0, 1) := by decide +kernel
theorem dX10_count_55 : decode cX10_count 55 = .ok (.getfield 181, 3) := by decide +kernel
theorem dX10_count_58 : decode cX10_count 58 = .ok (.ireturn, 1) := by decide +kernel
theorem dX10_count_59 : decode cX10_count 59 = .ok (.aload_n 0, 1) := by decide +kernel
theorem dX10_count_60 : decode cX10_count 60 = .ok (.getfield 278, 3) := by decide +kernel
theorem dX10_count_63 : decode cX10_count 63 = .ok (.ireturn, 1) := by decide +kernel
theorem dX10_count_64 : decode cX10_count 64 = .ok (.aload_n 0, 1) := by decide +kernel
theorem dX10_count_65 : decode cX10_count 65 = .ok (.getfield 196, 3) := by decide +kernel
theorem dX10_count_68 : decode cX10_count 68 = .ok (.ireturn, 1) := by decide +kernel
theorem dX10_count_69 : decode cX10_count 69 = .ok (.aload_n 0, 1) := by decide +kernel
theorem dX10_count_70 : decode cX10_count 70 = .ok (.invokevirtual 288, 3) := by decide +kernel
theorem dX10_count_73 : decode cX10_count 73 = .ok (.iconst 0, 1) := by decide +kernel
theorem dX10_count_74 : decode cX10_count 74 = .ok (.istore_n 2, 1) := by decide +kernel
theorem dX10_count_75 : decode cX10_count 75 = .ok (.iconst 0, 1) := by decide +kernel
theorem dX10_count_76 : decode cX10_count 76 = .ok (.istore_n 3, 1) := by decide +kernel
theorem dX10_count_77 : decode cX10_count 77 = .ok (.iload_n 3, 1) := by decide +kernel
theorem dX10_count_78 : decode cX10_count 78 = .ok (.aload_n 0, 1) := by decide +kernel
theorem dX10_count_79 : decode cX10_count 79 = .ok (.getfield 285, 3) := by decide +kernel
theorem dX10_count_82 : decode cX10_count 82 = .ok (.if_icmp .ge 60, 3) := by decide +kernel
theorem dX10_count_85 : decode cX10_count 85 = .ok (.iconst 0, 1) := by decide +kernel
theorem dX10_count_86 : decode cX10_count 86 = .ok (.istore 4, 2) := by decide +kernel
theorem dX10_count_88 : decode cX10_count 88 = .ok (.iload 4, 2) := by decide +kernel
theorem dX10_count_90 : decode cX10_count 90 = .ok (.aload_n 0, 1) := by decide +kernel
theorem dX10_count_91 : decode cX10_count 91 = .ok (.getfield 285, 3) := by decide +kernel
theorem dX10_count_94 : decode cX10_count 94 = .ok (.if_icmp .ge 42, 3) := by decide +kernel
theorem dX10_count_97 : decode cX10_count 97 = .ok (.iload_n 2, 1) := by decide +kernel
theorem dX10_count_98 : decode cX10_count 98 = .ok (.aload_n 0, 1) := by decide +kernel
theorem dX10_count_99 : decode cX10_count 99 = .ok (.getfield 103, 3) := by decide +kernel
theorem dX10_count_102 : decode cX10_count 102 = .ok (.bipush 100, 2) := by decide +kernel
theorem dX10_count_104 : decode cX10_count 104 = .ok (.aload_n 0, 1) := by decide +kernel
theorem dX10_count_105 : decode cX10_count 105 = .ok (.getfield 112, 3) := by decide +kernel
theorem dX10_count_108 : decode cX10_count 108 = .ok (.iload_n 3, 1) := by decide +kernel
theorem dX10_count_109 : decode cX10_count 109 = .ok (.iaload, 1) := by decide +kernel
theorem dX10_count_110 : decode cX10_count 110 = .ok (.imul, 1) := by decide +kernel
theorem dX10_count_111 : decode cX10_count 111 = .ok (.aload_n 0, 1) := by decide +kernel
theorem dX10_count_112 : decode cX10_count 112 = .ok (.getfield 112, 3) := by decide +kernel
theorem dX10_count_115 : decode cX10_count 115 = .ok (.iload 4, 2) := by decide +kernel
theorem dX10_count_117 : decode cX10_count 117 = .ok (.iaload, 1) := by decide +kernel
theorem dX10_count_118 : decode cX10_count 118 = .ok (.iadd, 1) := by decide +kernel
theorem dX10_count_119 : decode cX10_count 119 = .ok (.baload, 1) := by decide +kernel
theorem dX10_count_120 : decode cX10_count 120 = .ok (.ifCond .eq 7, 3) := by decide +kernel
theorem dX10_count_123 : decode cX10_count 123 = .ok (.iconst 1, 1) := by decide +kernel
theorem dX10_count_124 : decode cX10_count 124 = .ok (.goto 4, 3) := by decide +kernel
theorem dX10_count_127 : decode cX10_count 127 = .ok (.iconst 0, 1) := by decide +kernel
theorem dX10_count_128 : decode cX10_count 128 = .ok (.iadd, 1) := by decide +kernel
theorem dX10_count_129 : decode cX10_count 129 = .ok (.istore_n 2, 1) := by decide +kernel
theorem dX10_count_130 : decode cX10_count 130 = .ok (.iinc 4 1, 3) := by decide +kernel
theorem dX10_count_133 : decode cX10_count 133 = .ok (.goto (-45), 3) := by decide +kernel
theorem dX10_count_136 : decode cX10_count 136 = .ok (.iinc 3 1, 3) := by decide +kernel
theorem dX10_count_139 : decode cX10_count 139 = .ok (.goto (-62), 3) := by decide +kernel
theorem dX10_count_142 : decode cX10_count 142 = .ok (.iload_n 2, 1) := by decide +kernel
theorem dX10_count_143 : decode cX10_count 143 = .ok (.ireturn, 1) := by decide +kernel
theorem dX10_count_144 : decode cX10_count 144 = .ok (.iconst (-1), 1) := by decide +kernel
theorem dX10_count_145 : decode cX10_count 145 = .ok (.ireturn, 1) := by decide +kernel
