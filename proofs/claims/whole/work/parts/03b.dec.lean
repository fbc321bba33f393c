theorem dX6_init_0 : decode cX6_init 0 = .ok (.aload_n 0, 1) := by decide +kernel
theorem dX6_init_1 : decode cX6_init 1 = .ok (.invokespecial 3, 3) := by decide +kernel
theorem dX6_init_4 : decode cX6_init 4 = .ok (.aload_n 0, 1) := by decide +kernel
theorem dX6_init_5 : decode cX6_init 5 = .ok (.iconst 3, 1) := by decide +kernel
theorem dX6_init_6 : decode cX6_init 6 = .ok (.newarray .long, 2) := by decide +kernel
theorem dX6_init_8 : decode cX6_init 8 = .ok (.putfield 9, 3) := by decide +kernel
theorem dX6_init_11 : decode cX6_init 11 = .ok (.aload_n 0, 1) := by decide +kernel
theorem dX6_init_12 : decode cX6_init 12 = .ok (.iconst 3, 1) := by decide +kernel
theorem dX6_init_13 : decode cX6_init 13 = .ok (.newarray .long, 2) := by decide +kernel
theorem dX6_init_15 : decode cX6_init 15 = .ok (.putfield 15, 3) := by decide +kernel
theorem dX6_init_18 : decode cX6_init 18 = .ok (.aload_n 0, 1) := by decide +kernel
theorem dX6_init_19 : decode cX6_init 19 = .ok (.iconst 3, 1) := by decide +kernel
theorem dX6_init_20 : decode cX6_init 20 = .ok (.newarray .long, 2) := by decide +kernel
theorem dX6_init_22 : decode cX6_init 22 = .ok (.putfield 18, 3) := by decide +kernel
theorem dX6_init_25 : decode cX6_init 25 = .ok (.aload_n 0, 1) := by decide +kernel
theorem dX6_init_26 : decode cX6_init 26 = .ok (.iconst 3, 1) := by decide +kernel
theorem dX6_init_27 : decode cX6_init 27 = .ok (.newarray .long, 2) := by decide +kernel
theorem dX6_init_29 : decode cX6_init 29 = .ok (.putfield 21, 3) := by decide +kernel
theorem dX6_init_32 : decode cX6_init 32 = .ok (.aload_n 0, 1) := by decide +kernel
theorem dX6_init_33 : decode cX6_init 33 = .ok (.iconst 3, 1) := by decide +kernel
theorem dX6_init_34 : decode cX6_init 34 = .ok (.newarray .long, 2) := by decide +kernel
theorem dX6_init_36 : decode cX6_init 36 = .ok (.putfield 24, 3) := by decide +kernel
theorem dX6_init_39 : decode cX6_init 39 = .ok (.aload_n 0, 1) := by decide +kernel
theorem dX6_init_40 : decode cX6_init 40 = .ok (.iconst 3, 1) := by decide +kernel
theorem dX6_init_41 : decode cX6_init 41 = .ok (.newarray .long, 2) := by decide +kernel
theorem dX6_init_43 : decode cX6_init 43 = .ok (.putfield 27, 3) := by decide +kernel
theorem dX6_init_46 : decode cX6_init 46 = .ok (.aload_n 0, 1) := by decide +kernel
theorem dX6_init_47 : decode cX6_init 47 = .ok (.iconst 3, 1) := by decide +kernel
theorem dX6_init_48 : decode cX6_init 48 = .ok (.newarray .long, 2) := by decide +kernel
theorem dX6_init_50 : decode cX6_init 50 = .ok (.putfield 30, 3) := by decide +kernel
theorem dX6_init_53 : decode cX6_init 53 = .ok (.aload_n 0, 1) := by decide +kernel
theorem dX6_init_54 : decode cX6_init 54 = .ok (.iconst 3, 1) := by decide +kernel
theorem dX6_init_55 : decode cX6_init 55 = .ok (.newarray .long, 2) := by decide +kernel
theorem dX6_init_57 : decode cX6_init 57 = .ok (.putfield 33, 3) := by decide +kernel
theorem dX6_init_60 : decode cX6_init 60 = .ok (.aload_n 0, 1) := by decide +kernel
theorem dX6_init_61 : decode cX6_init 61 = .ok (.getfield 9, 3) := by decide +kernel
theorem dX6_init_64 : decode cX6_init 64 = .ok (.iconst 2, 1) := by decide +kernel
theorem dX6_init_65 : decode cX6_init 65 = .ok (.lconst 1, 1) := by decide +kernel
theorem dX6_init_66 : decode cX6_init 66 = .ok (.lastore, 1) := by decide +kernel
theorem dX6_init_67 : decode cX6_init 67 = .ok (.aload_n 0, 1) := by decide +kernel
theorem dX6_init_68 : decode cX6_init 68 = .ok (.iconst 2, 1) := by decide +kernel
theorem dX6_init_69 : decode cX6_init 69 = .ok (.putfield 36, 3) := by decide +kernel
theorem dX6_init_72 : decode cX6_init 72 = .ok (.return_, 1) := by decide +kernel
theorem dX6_lookAlong_0 : decode cX6_lookAlong 0 = .ok (.aload_n 0, 1) := by decide +kernel
theorem dX6_lookAlong_1 : decode cX6_lookAlong 1 = .ok (.getfield 9, 3) := by decide +kernel
theorem dX6_lookAlong_4 : decode cX6_lookAlong 4 = .ok (.iconst 0, 1) := by decide +kernel
theorem dX6_lookAlong_5 : decode cX6_lookAlong 5 = .ok (.iload_n 1, 1) := by decide +kernel
theorem dX6_lookAlong_6 : decode cX6_lookAlong 6 = .ok (.i2l, 1) := by decide +kernel
theorem dX6_lookAlong_7 : decode cX6_lookAlong 7 = .ok (.lastore, 1) := by decide +kernel
theorem dX6_lookAlong_8 : decode cX6_lookAlong 8 = .ok (.aload_n 0, 1) := by decide +kernel
theorem dX6_lookAlong_9 : decode cX6_lookAlong 9 = .ok (.getfield 9, 3) := by decide +kernel
theorem dX6_lookAlong_12 : decode cX6_lookAlong 12 = .ok (.iconst 1, 1) := by decide +kernel
theorem dX6_lookAlong_13 : decode cX6_lookAlong 13 = .ok (.iload_n 2, 1) := by decide +kernel
theorem dX6_lookAlong_14 : decode cX6_lookAlong 14 = .ok (.i2l, 1) := by decide +kernel
theorem dX6_lookAlong_15 : decode cX6_lookAlong 15 = .ok (.lastore, 1) := by decide +kernel
theorem dX6_lookAlong_16 : decode cX6_lookAlong 16 = .ok (.aload_n 0, 1) := by decide +kernel
theorem dX6_lookAlong_17 : decode cX6_lookAlong 17 = .ok (.getfield 9, 3) := by decide +kernel
theorem dX6_lookAlong_20 : decode cX6_lookAlong 20 = .ok (.iconst 2, 1) := by decide +kernel
theorem dX6_lookAlong_21 : decode cX6_lookAlong 21 = .ok (.iload_n 3, 1) := by decide +kernel
theorem dX6_lookAlong_22 : decode cX6_lookAlong 22 = .ok (.i2l, 1) := by decide +kernel
theorem dX6_lookAlong_23 : decode cX6_lookAlong 23 = .ok (.lastore, 1) := by decide +kernel
theorem dX6_lookAlong_24 : decode cX6_lookAlong 24 = .ok (.aload_n 0, 1) := by decide +kernel
theorem dX6_lookAlong_25 : decode cX6_lookAlong 25 = .ok (.aload_n 0, 1) := by decide +kernel
theorem dX6_lookAlong_26 : decode cX6_lookAlong 26 = .ok (.getfield 9, 3) := by decide +kernel
theorem dX6_lookAlong_29 : decode cX6_lookAlong 29 = .ok (.invokestatic 40, 3) := by decide +kernel
theorem dX6_lookAlong_32 : decode cX6_lookAlong 32 = .ok (.putfield 36, 3) := by decide +kernel
theorem dX6_lookAlong_35 : decode cX6_lookAlong 35 = .ok (.return_, 1) := by decide +kernel
theorem dX6_touch_0 : decode cX6_touch 0 = .ok (.iconst 0, 1) := by decide +kernel
theorem dX6_touch_1 : decode cX6_touch 1 = .ok (.istore_n 3, 1) := by decide +kernel
theorem dX6_touch_2 : decode cX6_touch 2 = .ok (.iload_n 3, 1) := by decide +kernel
theorem dX6_touch_3 : decode cX6_touch 3 = .ok (.aload_n 1, 1) := by decide +kernel
theorem dX6_touch_4 : decode cX6_touch 4 = .ok (.getfield 44, 3) := by decide +kernel
theorem dX6_touch_7 : decode cX6_touch 7 = .ok (.if_icmp .ge 45, 3) := by decide +kernel
theorem dX6_touch_10 : decode cX6_touch 10 = .ok (.iconst 0, 1) := by decide +kernel
theorem dX6_touch_11 : decode cX6_touch 11 = .ok (.istore 4, 2) := by decide +kernel
theorem dX6_touch_13 : decode cX6_touch 13 = .ok (.iload 4, 2) := by decide +kernel
theorem dX6_touch_15 : decode cX6_touch 15 = .ok (.aload_n 2, 1) := by decide +kernel
theorem dX6_touch_16 : decode cX6_touch 16 = .ok (.getfield 44, 3) := by decide +kernel
theorem dX6_touch_19 : decode cX6_touch 19 = .ok (.if_icmp .ge 27, 3) := by decide +kernel
theorem dX6_touch_22 : decode cX6_touch 22 = .ok (.aload_n 0, 1) := by decide +kernel
theorem dX6_touch_23 : decode cX6_touch 23 = .ok (.aload_n 1, 1) := by decide +kernel
theorem dX6_touch_24 : decode cX6_touch 24 = .ok (.iload_n 3, 1) := by decide +kernel
theorem dX6_touch_25 : decode cX6_touch 25 = .ok (.aload_n 2, 1) := by decide +kernel
theorem dX6_touch_26 : decode cX6_touch 26 = .ok (.iload 4, 2) := by decide +kernel
theorem dX6_touch_28 : decode cX6_touch 28 = .ok (.invokevirtual 49, 3) := by decide +kernel
theorem dX6_touch_31 : decode cX6_touch 31 = .ok (.aload_n 0, 1) := by decide +kernel
theorem dX6_touch_32 : decode cX6_touch 32 = .ok (.invokevirtual 53, 3) := by decide +kernel
theorem dX6_touch_35 : decode cX6_touch 35 = .ok (.ifCond .eq 5, 3) := by decide +kernel
theorem dX6_touch_38 : decode cX6_touch 38 = .ok (.iconst 1, 1) := by decide +kernel
theorem dX6_touch_39 : decode cX6_touch 39 = .ok (.ireturn, 1) := by decide +kernel
theorem dX6_touch_40 : decode cX6_touch 40 = .ok (.iinc 4 1, 3) := by decide +kernel
theorem dX6_touch_43 : decode cX6_touch 43 = .ok (.goto (-30), 3) := by decide +kernel
theorem dX6_touch_46 : decode cX6_touch 46 = .ok (.iinc 3 1, 3) := by decide +kernel
theorem dX6_touch_49 : decode cX6_touch 49 = .ok (.goto (-47), 3) := by decide +kernel
theorem dX6_touch_52 : decode cX6_touch 52 = .ok (.iconst 0, 1) := by decide +kernel
theorem dX6_touch_53 : decode cX6_touch 53 = .ok (.ireturn, 1) := by decide +kernel
theorem dX6_take_0 : decode cX6_take 0 = .ok (.iconst 0, 1) := by decide +kernel
theorem dX6_take_1 : decode cX6_take 1 = .ok (.istore 5, 2) := by decide +kernel
theorem dX6_take_3 : decode cX6_take 3 = .ok (.iload 5, 2) := by decide +kernel
theorem dX6_take_5 : decode cX6_take 5 = .ok (.iconst 3, 1) := by decide +kernel
theorem dX6_take_6 : decode cX6_take 6 = .ok (.if_icmp .ge 85, 3) := by decide +kernel
theorem dX6_take_9 : decode cX6_take 9 = .ok (.aload_n 0, 1) := by decide +kernel
theorem dX6_take_10 : decode cX6_take 10 = .ok (.getfield 15, 3) := by decide +kernel
theorem dX6_take_13 : decode cX6_take 13 = .ok (.iload 5, 2) := by decide +kernel
theorem dX6_take_15 : decode cX6_take 15 = .ok (.aload_n 1, 1) := by decide +kernel
theorem dX6_take_16 : decode cX6_take 16 = .ok (.iload_n 2, 1) := by decide +kernel
theorem dX6_take_17 : decode cX6_take 17 = .ok (.iconst 1, 1) := by decide +kernel
theorem dX6_take_18 : decode cX6_take 18 = .ok (.iadd, 1) := by decide +kernel
theorem dX6_take_19 : decode cX6_take 19 = .ok (.iload 5, 2) := by decide +kernel
theorem dX6_take_21 : decode cX6_take 21 = .ok (.invokevirtual 57, 3) := by decide +kernel
theorem dX6_take_24 : decode cX6_take 24 = .ok (.aload_n 1, 1) := by decide +kernel
theorem dX6_take_25 : decode cX6_take 25 = .ok (.iload_n 2, 1) := by decide +kernel
theorem dX6_take_26 : decode cX6_take 26 = .ok (.iload 5, 2) := by decide +kernel
theorem dX6_take_28 : decode cX6_take 28 = .ok (.invokevirtual 57, 3) := by decide +kernel
theorem dX6_take_31 : decode cX6_take 31 = .ok (.isub, 1) := by decide +kernel
theorem dX6_take_32 : decode cX6_take 32 = .ok (.i2l, 1) := by decide +kernel
theorem dX6_take_33 : decode cX6_take 33 = .ok (.lastore, 1) := by decide +kernel
theorem dX6_take_34 : decode cX6_take 34 = .ok (.aload_n 0, 1) := by decide +kernel
theorem dX6_take_35 : decode cX6_take 35 = .ok (.getfield 18, 3) := by decide +kernel
theorem dX6_take_38 : decode cX6_take 38 = .ok (.iload 5, 2) := by decide +kernel
theorem dX6_take_40 : decode cX6_take 40 = .ok (.aload_n 3, 1) := by decide +kernel
theorem dX6_take_41 : decode cX6_take 41 = .ok (.iload 4, 2) := by decide +kernel
theorem dX6_take_43 : decode cX6_take 43 = .ok (.iconst 1, 1) := by decide +kernel
theorem dX6_take_44 : decode cX6_take 44 = .ok (.iadd, 1) := by decide +kernel
theorem dX6_take_45 : decode cX6_take 45 = .ok (.iload 5, 2) := by decide +kernel
theorem dX6_take_47 : decode cX6_take 47 = .ok (.invokevirtual 57, 3) := by decide +kernel
theorem dX6_take_50 : decode cX6_take 50 = .ok (.aload_n 3, 1) := by decide +kernel
theorem dX6_take_51 : decode cX6_take 51 = .ok (.iload 4, 2) := by decide +kernel
theorem dX6_take_53 : decode cX6_take 53 = .ok (.iload 5, 2) := by decide +kernel
theorem dX6_take_55 : decode cX6_take 55 = .ok (.invokevirtual 57, 3) := by decide +kernel
theorem dX6_take_58 : decode cX6_take 58 = .ok (.isub, 1) := by decide +kernel
theorem dX6_take_59 : decode cX6_take 59 = .ok (.i2l, 1) := by decide +kernel
theorem dX6_take_60 : decode cX6_take 60 = .ok (.lastore, 1) := by decide +kernel
theorem dX6_take_61 : decode cX6_take 61 = .ok (.aload_n 0, 1) := by decide +kernel
theorem dX6_take_62 : decode cX6_take 62 = .ok (.getfield 21, 3) := by decide +kernel
theorem dX6_take_65 : decode cX6_take 65 = .ok (.iload 5, 2) := by decide +kernel
theorem dX6_take_67 : decode cX6_take 67 = .ok (.aload_n 3, 1) := by decide +kernel
theorem dX6_take_68 : decode cX6_take 68 = .ok (.iload 4, 2) := by decide +kernel
theorem dX6_take_70 : decode cX6_take 70 = .ok (.iload 5, 2) := by decide +kernel
theorem dX6_take_72 : decode cX6_take 72 = .ok (.invokevirtual 57, 3) := by decide +kernel
theorem dX6_take_75 : decode cX6_take 75 = .ok (.aload_n 1, 1) := by decide +kernel
theorem dX6_take_76 : decode cX6_take 76 = .ok (.iload_n 2, 1) := by decide +kernel
theorem dX6_take_77 : decode cX6_take 77 = .ok (.iload 5, 2) := by decide +kernel
theorem dX6_take_79 : decode cX6_take 79 = .ok (.invokevirtual 57, 3) := by decide +kernel
theorem dX6_take_82 : decode cX6_take 82 = .ok (.isub, 1) := by decide +kernel
theorem dX6_take_83 : decode cX6_take 83 = .ok (.i2l, 1) := by decide +kernel
theorem dX6_take_84 : decode cX6_take 84 = .ok (.lastore, 1) := by decide +kernel
theorem dX6_take_85 : decode cX6_take 85 = .ok (.iinc 5 1, 3) := by decide +kernel
theorem dX6_take_88 : decode cX6_take 88 = .ok (.goto (-85), 3) := by decide +kernel
theorem dX6_take_91 : decode cX6_take 91 = .ok (.return_, 1) := by decide +kernel
theorem dX6_piecesTouch_0 : decode cX6_piecesTouch 0 = .ok (.aload_n 0, 1) := by decide +kernel
theorem dX6_piecesTouch_1 : decode cX6_piecesTouch 1 = .ok (.getfield 15, 3) := by decide +kernel
theorem dX6_piecesTouch_4 : decode cX6_piecesTouch 4 = .ok (.aload_n 0, 1) := by decide +kernel
theorem dX6_piecesTouch_5 : decode cX6_piecesTouch 5 = .ok (.getfield 18, 3) := by decide +kernel
theorem dX6_piecesTouch_8 : decode cX6_piecesTouch 8 = .ok (.aload_n 0, 1) := by decide +kernel
theorem dX6_piecesTouch_9 : decode cX6_piecesTouch 9 = .ok (.getfield 33, 3) := by decide +kernel
theorem dX6_piecesTouch_12 : decode cX6_piecesTouch 12 = .ok (.invokestatic 61, 3) := by decide +kernel
theorem dX6_piecesTouch_15 : decode cX6_piecesTouch 15 = .ok (.aload_n 0, 1) := by decide +kernel
theorem dX6_piecesTouch_16 : decode cX6_piecesTouch 16 = .ok (.getfield 33, 3) := by decide +kernel
theorem dX6_piecesTouch_19 : decode cX6_piecesTouch 19 = .ok (.invokestatic 65, 3) := by decide +kernel
theorem dX6_piecesTouch_22 : decode cX6_piecesTouch 22 = .ok (.ifCond .eq 8, 3) := by decide +kernel
theorem dX6_piecesTouch_25 : decode cX6_piecesTouch 25 = .ok (.aload_n 0, 1) := by decide +kernel
theorem dX6_piecesTouch_26 : decode cX6_piecesTouch 26 = .ok (.invokevirtual 69, 3) := by decide +kernel
theorem dX6_piecesTouch_29 : decode cX6_piecesTouch 29 = .ok (.ireturn, 1) := by decide +kernel
theorem dX6_piecesTouch_30 : decode cX6_piecesTouch 30 = .ok (.aload_n 0, 1) := by decide +kernel
theorem dX6_piecesTouch_31 : decode cX6_piecesTouch 31 = .ok (.getfield 21, 3) := by decide +kernel
theorem dX6_piecesTouch_34 : decode cX6_piecesTouch 34 = .ok (.aload_n 0, 1) := by decide +kernel
theorem dX6_piecesTouch_35 : decode cX6_piecesTouch 35 = .ok (.getfield 33, 3) := by decide +kernel
theorem dX6_piecesTouch_38 : decode cX6_piecesTouch 38 = .ok (.invokestatic 72, 3) := by decide +kernel
theorem dX6_piecesTouch_41 : decode cX6_piecesTouch 41 = .ok (.lconst 0, 1) := by decide +kernel
theorem dX6_piecesTouch_42 : decode cX6_piecesTouch 42 = .ok (.lcmp, 1) := by decide +kernel
theorem dX6_piecesTouch_43 : decode cX6_piecesTouch 43 = .ok (.ifCond .eq 5, 3) := by decide +kernel
theorem dX6_piecesTouch_46 : decode cX6_piecesTouch 46 = .ok (.iconst 0, 1) := by decide +kernel
theorem dX6_piecesTouch_47 : decode cX6_piecesTouch 47 = .ok (.ireturn, 1) := by decide +kernel
theorem dX6_piecesTouch_48 : decode cX6_piecesTouch 48 = .ok (.aload_n 0, 1) := by decide +kernel
theorem dX6_piecesTouch_49 : decode cX6_piecesTouch 49 = .ok (.getfield 33, 3) := by decide +kernel
theorem dX6_piecesTouch_52 : decode cX6_piecesTouch 52 = .ok (.aload_n 0, 1) := by decide +kernel
theorem dX6_piecesTouch_53 : decode cX6_piecesTouch 53 = .ok (.getfield 33, 3) := by decide +kernel
theorem dX6_piecesTouch_56 : decode cX6_piecesTouch 56 = .ok (.invokestatic 72, 3) := by decide +kernel
theorem dX6_piecesTouch_59 : decode cX6_piecesTouch 59 = .ok (.lstore_n 1, 1) := by decide +kernel
theorem dX6_piecesTouch_60 : decode cX6_piecesTouch 60 = .ok (.aload_n 0, 1) := by decide +kernel
theorem dX6_piecesTouch_61 : decode cX6_piecesTouch 61 = .ok (.getfield 21, 3) := by decide +kernel
theorem dX6_piecesTouch_64 : decode cX6_piecesTouch 64 = .ok (.aload_n 0, 1) := by decide +kernel
theorem dX6_piecesTouch_65 : decode cX6_piecesTouch 65 = .ok (.getfield 18, 3) := by decide +kernel
theorem dX6_piecesTouch_68 : decode cX6_piecesTouch 68 = .ok (.aload_n 0, 1) := by decide +kernel
theorem dX6_piecesTouch_69 : decode cX6_piecesTouch 69 = .ok (.getfield 24, 3) := by decide +kernel
theorem dX6_piecesTouch_72 : decode cX6_piecesTouch 72 = .ok (.invokestatic 61, 3) := by decide +kernel
theorem dX6_piecesTouch_75 : decode cX6_piecesTouch 75 = .ok (.aload_n 0, 1) := by decide +kernel
theorem dX6_piecesTouch_76 : decode cX6_piecesTouch 76 = .ok (.getfield 21, 3) := by decide +kernel
theorem dX6_piecesTouch_79 : decode cX6_piecesTouch 79 = .ok (.aload_n 0, 1) := by decide +kernel
theorem dX6_piecesTouch_80 : decode cX6_piecesTouch 80 = .ok (.getfield 15, 3) := by decide +kernel
theorem dX6_piecesTouch_83 : decode cX6_piecesTouch 83 = .ok (.aload_n 0, 1) := by decide +kernel
theorem dX6_piecesTouch_84 : decode cX6_piecesTouch 84 = .ok (.getfield 27, 3) := by decide +kernel
theorem dX6_piecesTouch_87 : decode cX6_piecesTouch 87 = .ok (.invokestatic 61, 3) := by decide +kernel
theorem dX6_piecesTouch_90 : decode cX6_piecesTouch 90 = .ok (.aload_n 0, 1) := by decide +kernel
theorem dX6_piecesTouch_91 : decode cX6_piecesTouch 91 = .ok (.getfield 24, 3) := by decide +kernel
theorem dX6_piecesTouch_94 : decode cX6_piecesTouch 94 = .ok (.aload_n 0, 1) := by decide +kernel
theorem dX6_piecesTouch_95 : decode cX6_piecesTouch 95 = .ok (.getfield 33, 3) := by decide +kernel
theorem dX6_piecesTouch_98 : decode cX6_piecesTouch 98 = .ok (.invokestatic 72, 3) := by decide +kernel
theorem dX6_piecesTouch_101 : decode cX6_piecesTouch 101 = .ok (.lload_n 1, 1) := by decide +kernel
theorem dX6_piecesTouch_102 : decode cX6_piecesTouch 102 = .ok (.invokestatic 76, 3) := by decide +kernel
theorem dX6_piecesTouch_105 : decode cX6_piecesTouch 105 = .ok (.ifCond .eq 25, 3) := by decide +kernel
theorem dX6_piecesTouch_108 : decode cX6_piecesTouch 108 = .ok (.aload_n 0, 1) := by decide +kernel
theorem dX6_piecesTouch_109 : decode cX6_piecesTouch 109 = .ok (.getfield 27, 3) := by decide +kernel
theorem dX6_piecesTouch_112 : decode cX6_piecesTouch 112 = .ok (.aload_n 0, 1) := by decide +kernel
theorem dX6_piecesTouch_113 : decode cX6_piecesTouch 113 = .ok (.getfield 33, 3) := by decide +kernel
theorem dX6_piecesTouch_116 : decode cX6_piecesTouch 116 = .ok (.invokestatic 72, 3) := by decide +kernel
theorem dX6_piecesTouch_119 : decode cX6_piecesTouch 119 = .ok (.lload_n 1, 1) := by decide +kernel
theorem dX6_piecesTouch_120 : decode cX6_piecesTouch 120 = .ok (.invokestatic 76, 3) := by decide +kernel
theorem dX6_piecesTouch_123 : decode cX6_piecesTouch 123 = .ok (.ifCond .eq 7, 3) := by decide +kernel
theorem dX6_piecesTouch_126 : decode cX6_piecesTouch 126 = .ok (.iconst 1, 1) := by decide +kernel
theorem dX6_piecesTouch_127 : decode cX6_piecesTouch 127 = .ok (.goto 4, 3) := by decide +kernel
theorem dX6_piecesTouch_130 : decode cX6_piecesTouch 130 = .ok (.iconst 0, 1) := by decide +kernel
theorem dX6_piecesTouch_131 : decode cX6_piecesTouch 131 = .ok (.ireturn, 1) := by decide +kernel
theorem dX6_parallelPiecesTouch_0 : decode cX6_parallelPiecesTouch 0 = .ok (.aload_n 0, 1) := by decide +kernel
theorem dX6_parallelPiecesTouch_1 : decode cX6_parallelPiecesTouch 1 = .ok (.getfield 21, 3) := by decide +kernel
theorem dX6_parallelPiecesTouch_4 : decode cX6_parallelPiecesTouch 4 = .ok (.aload_n 0, 1) := by decide +kernel
theorem dX6_parallelPiecesTouch_5 : decode cX6_parallelPiecesTouch 5 = .ok (.getfield 15, 3) := by decide +kernel
theorem dX6_parallelPiecesTouch_8 : decode cX6_parallelPiecesTouch 8 = .ok (.aload_n 0, 1) := by decide +kernel
theorem dX6_parallelPiecesTouch_9 : decode cX6_parallelPiecesTouch 9 = .ok (.getfield 30, 3) := by decide +kernel
theorem dX6_parallelPiecesTouch_12 : decode cX6_parallelPiecesTouch 12 = .ok (.invokestatic 61, 3) := by decide +kernel
theorem dX6_parallelPiecesTouch_15 : decode cX6_parallelPiecesTouch 15 = .ok (.aload_n 0, 1) := by decide +kernel
theorem dX6_parallelPiecesTouch_16 : decode cX6_parallelPiecesTouch 16 = .ok (.getfield 30, 3) := by decide +kernel
theorem dX6_parallelPiecesTouch_19 : decode cX6_parallelPiecesTouch 19 = .ok (.invokestatic 65, 3) := by decide +kernel
theorem dX6_parallelPiecesTouch_22 : decode cX6_parallelPiecesTouch 22 = .ok (.ifCond .ne 5, 3) := by decide +kernel
theorem dX6_parallelPiecesTouch_25 : decode cX6_parallelPiecesTouch 25 = .ok (.iconst 0, 1) := by decide +kernel
theorem dX6_parallelPiecesTouch_26 : decode cX6_parallelPiecesTouch 26 = .ok (.ireturn, 1) := by decide +kernel
theorem dX6_parallelPiecesTouch_27 : decode cX6_parallelPiecesTouch 27 = .ok (.aload_n 0, 1) := by decide +kernel
theorem dX6_parallelPiecesTouch_28 : decode cX6_parallelPiecesTouch 28 = .ok (.getfield 21, 3) := by decide +kernel
theorem dX6_parallelPiecesTouch_31 : decode cX6_parallelPiecesTouch 31 = .ok (.aload_n 0, 1) := by decide +kernel
theorem dX6_parallelPiecesTouch_32 : decode cX6_parallelPiecesTouch 32 = .ok (.getfield 15, 3) := by decide +kernel
theorem dX6_parallelPiecesTouch_35 : decode cX6_parallelPiecesTouch 35 = .ok (.invokestatic 72, 3) := by decide +kernel
theorem dX6_parallelPiecesTouch_38 : decode cX6_parallelPiecesTouch 38 = .ok (.lstore_n 1, 1) := by decide +kernel
theorem dX6_parallelPiecesTouch_39 : decode cX6_parallelPiecesTouch 39 = .ok (.lload_n 1, 1) := by decide +kernel
theorem dX6_parallelPiecesTouch_40 : decode cX6_parallelPiecesTouch 40 = .ok (.aload_n 0, 1) := by decide +kernel
theorem dX6_parallelPiecesTouch_41 : decode cX6_parallelPiecesTouch 41 = .ok (.getfield 18, 3) := by decide +kernel
theorem dX6_parallelPiecesTouch_44 : decode cX6_parallelPiecesTouch 44 = .ok (.aload_n 0, 1) := by decide +kernel
theorem dX6_parallelPiecesTouch_45 : decode cX6_parallelPiecesTouch 45 = .ok (.getfield 15, 3) := by decide +kernel
theorem dX6_parallelPiecesTouch_48 : decode cX6_parallelPiecesTouch 48 = .ok (.invokestatic 72, 3) := by decide +kernel
theorem dX6_parallelPiecesTouch_51 : decode cX6_parallelPiecesTouch 51 = .ok (.ladd, 1) := by decide +kernel
theorem dX6_parallelPiecesTouch_52 : decode cX6_parallelPiecesTouch 52 = .ok (.lstore_n 3, 1) := by decide +kernel
theorem dX6_parallelPiecesTouch_53 : decode cX6_parallelPiecesTouch 53 = .ok (.lload_n 1, 1) := by decide +kernel
theorem dX6_parallelPiecesTouch_54 : decode cX6_parallelPiecesTouch 54 = .ok (.lload_n 3, 1) := by decide +kernel
theorem dX6_parallelPiecesTouch_55 : decode cX6_parallelPiecesTouch 55 = .ok (.invokestatic 80, 3) := by decide +kernel
theorem dX6_parallelPiecesTouch_58 : decode cX6_parallelPiecesTouch 58 = .ok (.lconst 0, 1) := by decide +kernel
theorem dX6_parallelPiecesTouch_59 : decode cX6_parallelPiecesTouch 59 = .ok (.lcmp, 1) := by decide +kernel
theorem dX6_parallelPiecesTouch_60 : decode cX6_parallelPiecesTouch 60 = .ok (.ifCond .lt 27, 3) := by decide +kernel
theorem dX6_parallelPiecesTouch_63 : decode cX6_parallelPiecesTouch 63 = .ok (.lload_n 1, 1) := by decide +kernel
theorem dX6_parallelPiecesTouch_64 : decode cX6_parallelPiecesTouch 64 = .ok (.lload_n 3, 1) := by decide +kernel
theorem dX6_parallelPiecesTouch_65 : decode cX6_parallelPiecesTouch 65 = .ok (.invokestatic 86, 3) := by decide +kernel
theorem dX6_parallelPiecesTouch_68 : decode cX6_parallelPiecesTouch 68 = .ok (.aload_n 0, 1) := by decide +kernel
theorem dX6_parallelPiecesTouch_69 : decode cX6_parallelPiecesTouch 69 = .ok (.getfield 15, 3) := by decide +kernel
theorem dX6_parallelPiecesTouch_72 : decode cX6_parallelPiecesTouch 72 = .ok (.aload_n 0, 1) := by decide +kernel
theorem dX6_parallelPiecesTouch_73 : decode cX6_parallelPiecesTouch 73 = .ok (.getfield 15, 3) := by decide +kernel
theorem dX6_parallelPiecesTouch_76 : decode cX6_parallelPiecesTouch 76 = .ok (.invokestatic 72, 3) := by decide +kernel
theorem dX6_parallelPiecesTouch_79 : decode cX6_parallelPiecesTouch 79 = .ok (.lcmp, 1) := by decide +kernel
theorem dX6_parallelPiecesTouch_80 : decode cX6_parallelPiecesTouch 80 = .ok (.ifCond .gt 7, 3) := by decide +kernel
theorem dX6_parallelPiecesTouch_83 : decode cX6_parallelPiecesTouch 83 = .ok (.iconst 1, 1) := by decide +kernel
theorem dX6_parallelPiecesTouch_84 : decode cX6_parallelPiecesTouch 84 = .ok (.goto 4, 3) := by decide +kernel
theorem dX6_parallelPiecesTouch_87 : decode cX6_parallelPiecesTouch 87 = .ok (.iconst 0, 1) := by decide +kernel
theorem dX6_parallelPiecesTouch_88 : decode cX6_parallelPiecesTouch 88 = .ok (.ireturn, 1) := by decide +kernel
theorem dX6_sees_0 : decode cX6_sees 0 = .ok (.aload_n 0, 1) := by decide +kernel
theorem dX6_sees_1 : decode cX6_sees 1 = .ok (.aload_n 1, 1) := by decide +kernel
theorem dX6_sees_2 : decode cX6_sees 2 = .ok (.iload_n 2, 1) := by decide +kernel
theorem dX6_sees_3 : decode cX6_sees 3 = .ok (.aload_n 3, 1) := by decide +kernel
theorem dX6_sees_4 : decode cX6_sees 4 = .ok (.iload 4, 2) := by decide +kernel
theorem dX6_sees_6 : decode cX6_sees 6 = .ok (.invokevirtual 49, 3) := by decide +kernel
theorem dX6_sees_9 : decode cX6_sees 9 = .ok (.aload_n 0, 1) := by decide +kernel
theorem dX6_sees_10 : decode cX6_sees 10 = .ok (.getfield 15, 3) := by decide +kernel
theorem dX6_sees_13 : decode cX6_sees 13 = .ok (.aload_n 0, 1) := by decide +kernel
theorem dX6_sees_14 : decode cX6_sees 14 = .ok (.getfield 18, 3) := by decide +kernel
theorem dX6_sees_17 : decode cX6_sees 17 = .ok (.aload_n 0, 1) := by decide +kernel
theorem dX6_sees_18 : decode cX6_sees 18 = .ok (.getfield 9, 3) := by decide +kernel
theorem dX6_sees_21 : decode cX6_sees 21 = .ok (.invokestatic 89, 3) := by decide +kernel
theorem dX6_sees_24 : decode cX6_sees 24 = .ok (.lstore 5, 2) := by decide +kernel
theorem dX6_sees_26 : decode cX6_sees 26 = .ok (.lload 5, 2) := by decide +kernel
theorem dX6_sees_28 : decode cX6_sees 28 = .ok (.lconst 0, 1) := by decide +kernel
theorem dX6_sees_29 : decode cX6_sees 29 = .ok (.lcmp, 1) := by decide +kernel
theorem dX6_sees_30 : decode cX6_sees 30 = .ok (.ifCond .ne 8, 3) := by decide +kernel
theorem dX6_sees_33 : decode cX6_sees 33 = .ok (.aload_n 0, 1) := by decide +kernel
theorem dX6_sees_34 : decode cX6_sees 34 = .ok (.invokevirtual 93, 3) := by decide +kernel
theorem dX6_sees_37 : decode cX6_sees 37 = .ok (.ireturn, 1) := by decide +kernel
theorem dX6_sees_38 : decode cX6_sees 38 = .ok (.lload 5, 2) := by decide +kernel
theorem dX6_sees_40 : decode cX6_sees 40 = .ok (.lconst 0, 1) := by decide +kernel
theorem dX6_sees_41 : decode cX6_sees 41 = .ok (.lcmp, 1) := by decide +kernel
theorem dX6_sees_42 : decode cX6_sees 42 = .ok (.ifCond .ge 9, 3) := by decide +kernel
theorem dX6_sees_45 : decode cX6_sees 45 = .ok (.ldc2_w 96, 3) := by decide +kernel
theorem dX6_sees_48 : decode cX6_sees 48 = .ok (.goto 4, 3) := by decide +kernel
theorem dX6_sees_51 : decode cX6_sees 51 = .ok (.lconst 1, 1) := by decide +kernel
theorem dX6_sees_52 : decode cX6_sees 52 = .ok (.lstore 7, 2) := by decide +kernel
theorem dX6_sees_54 : decode cX6_sees 54 = .ok (.lload 7, 2) := by decide +kernel
theorem dX6_sees_56 : decode cX6_sees 56 = .ok (.aload_n 0, 1) := by decide +kernel
theorem dX6_sees_57 : decode cX6_sees 57 = .ok (.getfield 21, 3) := by decide +kernel
theorem dX6_sees_60 : decode cX6_sees 60 = .ok (.aload_n 0, 1) := by decide +kernel
theorem dX6_sees_61 : decode cX6_sees 61 = .ok (.getfield 18, 3) := by decide +kernel
theorem dX6_sees_64 : decode cX6_sees 64 = .ok (.aload_n 0, 1) := by decide +kernel
theorem dX6_sees_65 : decode cX6_sees 65 = .ok (.getfield 9, 3) := by decide +kernel
theorem dX6_sees_68 : decode cX6_sees 68 = .ok (.invokestatic 89, 3) := by decide +kernel
theorem dX6_sees_71 : decode cX6_sees 71 = .ok (.lmul, 1) := by decide +kernel
theorem dX6_sees_72 : decode cX6_sees 72 = .ok (.lstore 9, 2) := by decide +kernel
theorem dX6_sees_74 : decode cX6_sees 74 = .ok (.lload 5, 2) := by decide +kernel
theorem dX6_sees_76 : decode cX6_sees 76 = .ok (.lload 7, 2) := by decide +kernel
theorem dX6_sees_78 : decode cX6_sees 78 = .ok (.lmul, 1) := by decide +kernel
theorem dX6_sees_79 : decode cX6_sees 79 = .ok (.lstore 5, 2) := by decide +kernel
theorem dX6_sees_81 : decode cX6_sees 81 = .ok (.lload 9, 2) := by decide +kernel
theorem dX6_sees_83 : decode cX6_sees 83 = .ok (.lload 5, 2) := by decide +kernel
theorem dX6_sees_85 : decode cX6_sees 85 = .ok (.invokestatic 76, 3) := by decide +kernel
theorem dX6_sees_88 : decode cX6_sees 88 = .ok (.ifCond .eq 29, 3) := by decide +kernel
theorem dX6_sees_91 : decode cX6_sees 91 = .ok (.lload 7, 2) := by decide +kernel
theorem dX6_sees_93 : decode cX6_sees 93 = .ok (.aload_n 0, 1) := by decide +kernel
theorem dX6_sees_94 : decode cX6_sees 94 = .ok (.getfield 21, 3) := by decide +kernel
theorem dX6_sees_97 : decode cX6_sees 97 = .ok (.aload_n 0, 1) := by decide +kernel
theorem dX6_sees_98 : decode cX6_sees 98 = .ok (.getfield 15, 3) := by decide +kernel
theorem dX6_sees_101 : decode cX6_sees 101 = .ok (.aload_n 0, 1) := by decide +kernel
theorem dX6_sees_102 : decode cX6_sees 102 = .ok (.getfield 9, 3) := by decide +kernel
theorem dX6_sees_105 : decode cX6_sees 105 = .ok (.invokestatic 89, 3) := by decide +kernel
theorem dX6_sees_108 : decode cX6_sees 108 = .ok (.lmul, 1) := by decide +kernel
theorem dX6_sees_109 : decode cX6_sees 109 = .ok (.lload 5, 2) := by decide +kernel
theorem dX6_sees_111 : decode cX6_sees 111 = .ok (.invokestatic 76, 3) := by decide +kernel
theorem dX6_sees_114 : decode cX6_sees 114 = .ok (.ifCond .ne 5, 3) := by decide +kernel
theorem dX6_sees_117 : decode cX6_sees 117 = .ok (.iconst 0, 1) := by decide +kernel
theorem dX6_sees_118 : decode cX6_sees 118 = .ok (.ireturn, 1) := by decide +kernel
theorem dX6_sees_119 : decode cX6_sees 119 = .ok (.aload_n 0, 1) := by decide +kernel
theorem dX6_sees_120 : decode cX6_sees 120 = .ok (.lload 9, 2) := by decide +kernel
theorem dX6_sees_122 : decode cX6_sees 122 = .ok (.putfield 98, 3) := by decide +kernel
theorem dX6_sees_125 : decode cX6_sees 125 = .ok (.aload_n 0, 1) := by decide +kernel
theorem dX6_sees_126 : decode cX6_sees 126 = .ok (.lload 5, 2) := by decide +kernel
theorem dX6_sees_128 : decode cX6_sees 128 = .ok (.putfield 102, 3) := by decide +kernel
theorem dX6_sees_131 : decode cX6_sees 131 = .ok (.aload_n 0, 1) := by decide +kernel
theorem dX6_sees_132 : decode cX6_sees 132 = .ok (.lload 7, 2) := by decide +kernel
theorem dX6_sees_134 : decode cX6_sees 134 = .ok (.aload_n 0, 1) := by decide +kernel
theorem dX6_sees_135 : decode cX6_sees 135 = .ok (.getfield 15, 3) := by decide +kernel
theorem dX6_sees_138 : decode cX6_sees 138 = .ok (.aload_n 0, 1) := by decide +kernel
theorem dX6_sees_139 : decode cX6_sees 139 = .ok (.getfield 18, 3) := by decide +kernel
theorem dX6_sees_142 : decode cX6_sees 142 = .ok (.aload_n 0, 1) := by decide +kernel
theorem dX6_sees_143 : decode cX6_sees 143 = .ok (.getfield 21, 3) := by decide +kernel
theorem dX6_sees_146 : decode cX6_sees 146 = .ok (.invokestatic 89, 3) := by decide +kernel
theorem dX6_sees_149 : decode cX6_sees 149 = .ok (.lmul, 1) := by decide +kernel
theorem dX6_sees_150 : decode cX6_sees 150 = .ok (.putfield 105, 3) := by decide +kernel
theorem dX6_sees_153 : decode cX6_sees 153 = .ok (.aload_n 0, 1) := by decide +kernel
theorem dX6_sees_154 : decode cX6_sees 154 = .ok (.lload 5, 2) := by decide +kernel
theorem dX6_sees_156 : decode cX6_sees 156 = .ok (.putfield 108, 3) := by decide +kernel
theorem dX6_sees_159 : decode cX6_sees 159 = .ok (.iconst 1, 1) := by decide +kernel
theorem dX6_sees_160 : decode cX6_sees 160 = .ok (.ireturn, 1) := by decide +kernel
theorem dX6_seesInOneLine_0 : decode cX6_seesInOneLine 0 = .ok (.aload_n 0, 1) := by decide +kernel
theorem dX6_seesInOneLine_1 : decode cX6_seesInOneLine 1 = .ok (.getfield 15, 3) := by decide +kernel
theorem dX6_seesInOneLine_4 : decode cX6_seesInOneLine 4 = .ok (.aload_n 0, 1) := by decide +kernel
theorem dX6_seesInOneLine_5 : decode cX6_seesInOneLine 5 = .ok (.getfield 9, 3) := by decide +kernel
theorem dX6_seesInOneLine_8 : decode cX6_seesInOneLine 8 = .ok (.aload_n 0, 1) := by decide +kernel
theorem dX6_seesInOneLine_9 : decode cX6_seesInOneLine 9 = .ok (.getfield 24, 3) := by decide +kernel
theorem dX6_seesInOneLine_12 : decode cX6_seesInOneLine 12 = .ok (.invokestatic 61, 3) := by decide +kernel
theorem dX6_seesInOneLine_15 : decode cX6_seesInOneLine 15 = .ok (.aload_n 0, 1) := by decide +kernel
theorem dX6_seesInOneLine_16 : decode cX6_seesInOneLine 16 = .ok (.getfield 18, 3) := by decide +kernel
theorem dX6_seesInOneLine_19 : decode cX6_seesInOneLine 19 = .ok (.aload_n 0, 1) := by decide +kernel
theorem dX6_seesInOneLine_20 : decode cX6_seesInOneLine 20 = .ok (.getfield 9, 3) := by decide +kernel
theorem dX6_seesInOneLine_23 : decode cX6_seesInOneLine 23 = .ok (.aload_n 0, 1) := by decide +kernel
theorem dX6_seesInOneLine_24 : decode cX6_seesInOneLine 24 = .ok (.getfield 27, 3) := by decide +kernel
theorem dX6_seesInOneLine_27 : decode cX6_seesInOneLine 27 = .ok (.invokestatic 61, 3) := by decide +kernel
theorem dX6_seesInOneLine_30 : decode cX6_seesInOneLine 30 = .ok (.aload_n 0, 1) := by decide +kernel
theorem dX6_seesInOneLine_31 : decode cX6_seesInOneLine 31 = .ok (.getfield 21, 3) := by decide +kernel
theorem dX6_seesInOneLine_34 : decode cX6_seesInOneLine 34 = .ok (.aload_n 0, 1) := by decide +kernel
theorem dX6_seesInOneLine_35 : decode cX6_seesInOneLine 35 = .ok (.getfield 9, 3) := by decide +kernel
theorem dX6_seesInOneLine_38 : decode cX6_seesInOneLine 38 = .ok (.aload_n 0, 1) := by decide +kernel
theorem dX6_seesInOneLine_39 : decode cX6_seesInOneLine 39 = .ok (.getfield 30, 3) := by decide +kernel
theorem dX6_seesInOneLine_42 : decode cX6_seesInOneLine 42 = .ok (.invokestatic 61, 3) := by decide +kernel
theorem dX6_seesInOneLine_45 : decode cX6_seesInOneLine 45 = .ok (.aload_n 0, 1) := by decide +kernel
theorem dX6_seesInOneLine_46 : decode cX6_seesInOneLine 46 = .ok (.getfield 24, 3) := by decide +kernel
theorem dX6_seesInOneLine_49 : decode cX6_seesInOneLine 49 = .ok (.invokestatic 65, 3) := by decide +kernel
theorem dX6_seesInOneLine_52 : decode cX6_seesInOneLine 52 = .ok (.ifCond .eq 10, 3) := by decide +kernel
theorem dX6_seesInOneLine_55 : decode cX6_seesInOneLine 55 = .ok (.aload_n 0, 1) := by decide +kernel
theorem dX6_seesInOneLine_56 : decode cX6_seesInOneLine 56 = .ok (.getfield 27, 3) := by decide +kernel
theorem dX6_seesInOneLine_59 : decode cX6_seesInOneLine 59 = .ok (.goto 7, 3) := by decide +kernel
theorem dX6_seesInOneLine_62 : decode cX6_seesInOneLine 62 = .ok (.aload_n 0, 1) := by decide +kernel
theorem dX6_seesInOneLine_63 : decode cX6_seesInOneLine 63 = .ok (.getfield 24, 3) := by decide +kernel
theorem dX6_seesInOneLine_66 : decode cX6_seesInOneLine 66 = .ok (.astore_n 1, 1) := by decide +kernel
theorem dX6_seesInOneLine_67 : decode cX6_seesInOneLine 67 = .ok (.aload_n 1, 1) := by decide +kernel
theorem dX6_seesInOneLine_68 : decode cX6_seesInOneLine 68 = .ok (.invokestatic 40, 3) := by decide +kernel
theorem dX6_seesInOneLine_71 : decode cX6_seesInOneLine 71 = .ok (.istore_n 2, 1) := by decide +kernel
theorem dX6_seesInOneLine_72 : decode cX6_seesInOneLine 72 = .ok (.aload_n 0, 1) := by decide +kernel
theorem dX6_seesInOneLine_73 : decode cX6_seesInOneLine 73 = .ok (.getfield 30, 3) := by decide +kernel
theorem dX6_seesInOneLine_76 : decode cX6_seesInOneLine 76 = .ok (.aload_n 1, 1) := by decide +kernel
theorem dX6_seesInOneLine_77 : decode cX6_seesInOneLine 77 = .ok (.iload_n 2, 1) := by decide +kernel
theorem dX6_seesInOneLine_78 : decode cX6_seesInOneLine 78 = .ok (.invokestatic 111, 3) := by decide +kernel
theorem dX6_seesInOneLine_81 : decode cX6_seesInOneLine 81 = .ok (.ifCond .ne 5, 3) := by decide +kernel
theorem dX6_seesInOneLine_84 : decode cX6_seesInOneLine 84 = .ok (.iconst 0, 1) := by decide +kernel
theorem dX6_seesInOneLine_85 : decode cX6_seesInOneLine 85 = .ok (.ireturn, 1) := by decide +kernel
theorem dX6_seesInOneLine_86 : decode cX6_seesInOneLine 86 = .ok (.aload_n 0, 1) := by decide +kernel
theorem dX6_seesInOneLine_87 : decode cX6_seesInOneLine 87 = .ok (.iconst 0, 1) := by decide +kernel
theorem dX6_seesInOneLine_88 : decode cX6_seesInOneLine 88 = .ok (.putfield 115, 3) := by decide +kernel
theorem dX6_seesInOneLine_91 : decode cX6_seesInOneLine 91 = .ok (.iconst 0, 1) := by decide +kernel
theorem dX6_seesInOneLine_92 : decode cX6_seesInOneLine 92 = .ok (.istore_n 3, 1) := by decide +kernel
theorem dX6_seesInOneLine_93 : decode cX6_seesInOneLine 93 = .ok (.iload_n 3, 1) := by decide +kernel
theorem dX6_seesInOneLine_94 : decode cX6_seesInOneLine 94 = .ok (.iconst 1, 1) := by decide +kernel
theorem dX6_seesInOneLine_95 : decode cX6_seesInOneLine 95 = .ok (.if_icmp .gt 58, 3) := by decide +kernel
theorem dX6_seesInOneLine_98 : decode cX6_seesInOneLine 98 = .ok (.aload_n 0, 1) := by decide +kernel
theorem dX6_seesInOneLine_99 : decode cX6_seesInOneLine 99 = .ok (.iconst 1, 1) := by decide +kernel
theorem dX6_seesInOneLine_100 : decode cX6_seesInOneLine 100 = .ok (.iload_n 3, 1) := by decide +kernel
theorem dX6_seesInOneLine_101 : decode cX6_seesInOneLine 101 = .ok (.aload_n 0, 1) := by decide +kernel
theorem dX6_seesInOneLine_102 : decode cX6_seesInOneLine 102 = .ok (.getfield 24, 3) := by decide +kernel
theorem dX6_seesInOneLine_105 : decode cX6_seesInOneLine 105 = .ok (.iload_n 2, 1) := by decide +kernel
theorem dX6_seesInOneLine_106 : decode cX6_seesInOneLine 106 = .ok (.laload, 1) := by decide +kernel
theorem dX6_seesInOneLine_107 : decode cX6_seesInOneLine 107 = .ok (.aload_n 0, 1) := by decide +kernel
theorem dX6_seesInOneLine_108 : decode cX6_seesInOneLine 108 = .ok (.getfield 27, 3) := by decide +kernel
theorem dX6_seesInOneLine_111 : decode cX6_seesInOneLine 111 = .ok (.iload_n 2, 1) := by decide +kernel
theorem dX6_seesInOneLine_112 : decode cX6_seesInOneLine 112 = .ok (.laload, 1) := by decide +kernel
theorem dX6_seesInOneLine_113 : decode cX6_seesInOneLine 113 = .ok (.aload_n 0, 1) := by decide +kernel
theorem dX6_seesInOneLine_114 : decode cX6_seesInOneLine 114 = .ok (.getfield 30, 3) := by decide +kernel
theorem dX6_seesInOneLine_117 : decode cX6_seesInOneLine 117 = .ok (.iload_n 2, 1) := by decide +kernel
theorem dX6_seesInOneLine_118 : decode cX6_seesInOneLine 118 = .ok (.laload, 1) := by decide +kernel
theorem dX6_seesInOneLine_119 : decode cX6_seesInOneLine 119 = .ok (.lneg, 1) := by decide +kernel
theorem dX6_seesInOneLine_120 : decode cX6_seesInOneLine 120 = .ok (.invokevirtual 119, 3) := by decide +kernel
theorem dX6_seesInOneLine_123 : decode cX6_seesInOneLine 123 = .ok (.aload_n 0, 1) := by decide +kernel
theorem dX6_seesInOneLine_124 : decode cX6_seesInOneLine 124 = .ok (.iconst 0, 1) := by decide +kernel
theorem dX6_seesInOneLine_125 : decode cX6_seesInOneLine 125 = .ok (.iload_n 3, 1) := by decide +kernel
theorem dX6_seesInOneLine_126 : decode cX6_seesInOneLine 126 = .ok (.aload_n 0, 1) := by decide +kernel
theorem dX6_seesInOneLine_127 : decode cX6_seesInOneLine 127 = .ok (.getfield 27, 3) := by decide +kernel
theorem dX6_seesInOneLine_130 : decode cX6_seesInOneLine 130 = .ok (.iload_n 2, 1) := by decide +kernel
theorem dX6_seesInOneLine_131 : decode cX6_seesInOneLine 131 = .ok (.laload, 1) := by decide +kernel
theorem dX6_seesInOneLine_132 : decode cX6_seesInOneLine 132 = .ok (.aload_n 0, 1) := by decide +kernel
theorem dX6_seesInOneLine_133 : decode cX6_seesInOneLine 133 = .ok (.getfield 24, 3) := by decide +kernel
theorem dX6_seesInOneLine_136 : decode cX6_seesInOneLine 136 = .ok (.iload_n 2, 1) := by decide +kernel
theorem dX6_seesInOneLine_137 : decode cX6_seesInOneLine 137 = .ok (.laload, 1) := by decide +kernel
theorem dX6_seesInOneLine_138 : decode cX6_seesInOneLine 138 = .ok (.aload_n 0, 1) := by decide +kernel
theorem dX6_seesInOneLine_139 : decode cX6_seesInOneLine 139 = .ok (.getfield 30, 3) := by decide +kernel
theorem dX6_seesInOneLine_142 : decode cX6_seesInOneLine 142 = .ok (.iload_n 2, 1) := by decide +kernel
theorem dX6_seesInOneLine_143 : decode cX6_seesInOneLine 143 = .ok (.laload, 1) := by decide +kernel
theorem dX6_seesInOneLine_144 : decode cX6_seesInOneLine 144 = .ok (.invokevirtual 119, 3) := by decide +kernel
theorem dX6_seesInOneLine_147 : decode cX6_seesInOneLine 147 = .ok (.iinc 3 1, 3) := by decide +kernel
theorem dX6_seesInOneLine_150 : decode cX6_seesInOneLine 150 = .ok (.goto (-57), 3) := by decide +kernel
theorem dX6_seesInOneLine_153 : decode cX6_seesInOneLine 153 = .ok (.aload_n 0, 1) := by decide +kernel
theorem dX6_seesInOneLine_154 : decode cX6_seesInOneLine 154 = .ok (.getfield 115, 3) := by decide +kernel
theorem dX6_seesInOneLine_157 : decode cX6_seesInOneLine 157 = .ok (.ireturn, 1) := by decide +kernel
theorem dX6_offerEnd_0 : decode cX6_offerEnd 0 = .ok (.iload_n 2, 1) := by decide +kernel
theorem dX6_offerEnd_1 : decode cX6_offerEnd 1 = .ok (.i2l, 1) := by decide +kernel
theorem dX6_offerEnd_2 : decode cX6_offerEnd 2 = .ok (.lload_n 3, 1) := by decide +kernel
theorem dX6_offerEnd_3 : decode cX6_offerEnd 3 = .ok (.lmul, 1) := by decide +kernel
theorem dX6_offerEnd_4 : decode cX6_offerEnd 4 = .ok (.lload 7, 2) := by decide +kernel
theorem dX6_offerEnd_6 : decode cX6_offerEnd 6 = .ok (.ladd, 1) := by decide +kernel
theorem dX6_offerEnd_7 : decode cX6_offerEnd 7 = .ok (.lstore 9, 2) := by decide +kernel
theorem dX6_offerEnd_9 : decode cX6_offerEnd 9 = .ok (.lload 5, 2) := by decide +kernel
theorem dX6_offerEnd_11 : decode cX6_offerEnd 11 = .ok (.lconst 0, 1) := by decide +kernel
theorem dX6_offerEnd_12 : decode cX6_offerEnd 12 = .ok (.lcmp, 1) := by decide +kernel
theorem dX6_offerEnd_13 : decode cX6_offerEnd 13 = .ok (.ifCond .ne 28, 3) := by decide +kernel
theorem dX6_offerEnd_16 : decode cX6_offerEnd 16 = .ok (.lload 9, 2) := by decide +kernel
theorem dX6_offerEnd_18 : decode cX6_offerEnd 18 = .ok (.lconst 0, 1) := by decide +kernel
theorem dX6_offerEnd_19 : decode cX6_offerEnd 19 = .ok (.lcmp, 1) := by decide +kernel
theorem dX6_offerEnd_20 : decode cX6_offerEnd 20 = .ok (.ifCond .ne 21, 3) := by decide +kernel
theorem dX6_offerEnd_23 : decode cX6_offerEnd 23 = .ok (.aload_n 0, 1) := by decide +kernel
theorem dX6_offerEnd_24 : decode cX6_offerEnd 24 = .ok (.iload_n 1, 1) := by decide +kernel
theorem dX6_offerEnd_25 : decode cX6_offerEnd 25 = .ok (.iload_n 2, 1) := by decide +kernel
theorem dX6_offerEnd_26 : decode cX6_offerEnd 26 = .ok (.i2l, 1) := by decide +kernel
theorem dX6_offerEnd_27 : decode cX6_offerEnd 27 = .ok (.lconst 0, 1) := by decide +kernel
theorem dX6_offerEnd_28 : decode cX6_offerEnd 28 = .ok (.lconst 1, 1) := by decide +kernel
theorem dX6_offerEnd_29 : decode cX6_offerEnd 29 = .ok (.invokevirtual 123, 3) := by decide +kernel
theorem dX6_offerEnd_32 : decode cX6_offerEnd 32 = .ok (.aload_n 0, 1) := by decide +kernel
theorem dX6_offerEnd_33 : decode cX6_offerEnd 33 = .ok (.iload_n 1, 1) := by decide +kernel
theorem dX6_offerEnd_34 : decode cX6_offerEnd 34 = .ok (.iload_n 2, 1) := by decide +kernel
theorem dX6_offerEnd_35 : decode cX6_offerEnd 35 = .ok (.i2l, 1) := by decide +kernel
theorem dX6_offerEnd_36 : decode cX6_offerEnd 36 = .ok (.lconst 1, 1) := by decide +kernel
theorem dX6_offerEnd_37 : decode cX6_offerEnd 37 = .ok (.lconst 1, 1) := by decide +kernel
theorem dX6_offerEnd_38 : decode cX6_offerEnd 38 = .ok (.invokevirtual 123, 3) := by decide +kernel
theorem dX6_offerEnd_41 : decode cX6_offerEnd 41 = .ok (.lload 5, 2) := by decide +kernel
theorem dX6_offerEnd_43 : decode cX6_offerEnd 43 = .ok (.lconst 0, 1) := by decide +kernel
theorem dX6_offerEnd_44 : decode cX6_offerEnd 44 = .ok (.lcmp, 1) := by decide +kernel
theorem dX6_offerEnd_45 : decode cX6_offerEnd 45 = .ok (.ifCond .ne 4, 3) := by decide +kernel
theorem dX6_offerEnd_48 : decode cX6_offerEnd 48 = .ok (.return_, 1) := by decide +kernel
theorem dX6_offerEnd_49 : decode cX6_offerEnd 49 = .ok (.lload 5, 2) := by decide +kernel
theorem dX6_offerEnd_51 : decode cX6_offerEnd 51 = .ok (.lconst 0, 1) := by decide +kernel
theorem dX6_offerEnd_52 : decode cX6_offerEnd 52 = .ok (.lcmp, 1) := by decide +kernel
theorem dX6_offerEnd_53 : decode cX6_offerEnd 53 = .ok (.ifCond .ge 9, 3) := by decide +kernel
theorem dX6_offerEnd_56 : decode cX6_offerEnd 56 = .ok (.ldc2_w 96, 3) := by decide +kernel
theorem dX6_offerEnd_59 : decode cX6_offerEnd 59 = .ok (.goto 4, 3) := by decide +kernel
theorem dX6_offerEnd_62 : decode cX6_offerEnd 62 = .ok (.lconst 1, 1) := by decide +kernel
theorem dX6_offerEnd_63 : decode cX6_offerEnd 63 = .ok (.lstore 11, 2) := by decide +kernel
theorem dX6_offerEnd_65 : decode cX6_offerEnd 65 = .ok (.lload 11, 2) := by decide +kernel
theorem dX6_offerEnd_67 : decode cX6_offerEnd 67 = .ok (.lload 5, 2) := by decide +kernel
theorem dX6_offerEnd_69 : decode cX6_offerEnd 69 = .ok (.lmul, 1) := by decide +kernel
theorem dX6_offerEnd_70 : decode cX6_offerEnd 70 = .ok (.lstore 13, 2) := by decide +kernel
theorem dX6_offerEnd_72 : decode cX6_offerEnd 72 = .ok (.lload 11, 2) := by decide +kernel
theorem dX6_offerEnd_74 : decode cX6_offerEnd 74 = .ok (.lload 9, 2) := by decide +kernel
theorem dX6_offerEnd_76 : decode cX6_offerEnd 76 = .ok (.lmul, 1) := by decide +kernel
theorem dX6_offerEnd_77 : decode cX6_offerEnd 77 = .ok (.lload 13, 2) := by decide +kernel
theorem dX6_offerEnd_79 : decode cX6_offerEnd 79 = .ok (.invokestatic 76, 3) := by decide +kernel
theorem dX6_offerEnd_82 : decode cX6_offerEnd 82 = .ok (.ifCond .eq 20, 3) := by decide +kernel
theorem dX6_offerEnd_85 : decode cX6_offerEnd 85 = .ok (.aload_n 0, 1) := by decide +kernel
theorem dX6_offerEnd_86 : decode cX6_offerEnd 86 = .ok (.iload_n 1, 1) := by decide +kernel
theorem dX6_offerEnd_87 : decode cX6_offerEnd 87 = .ok (.iload_n 2, 1) := by decide +kernel
theorem dX6_offerEnd_88 : decode cX6_offerEnd 88 = .ok (.i2l, 1) := by decide +kernel
theorem dX6_offerEnd_89 : decode cX6_offerEnd 89 = .ok (.lload 13, 2) := by decide +kernel
theorem dX6_offerEnd_91 : decode cX6_offerEnd 91 = .ok (.lmul, 1) := by decide +kernel
theorem dX6_offerEnd_92 : decode cX6_offerEnd 92 = .ok (.lload 11, 2) := by decide +kernel
theorem dX6_offerEnd_94 : decode cX6_offerEnd 94 = .ok (.lload 9, 2) := by decide +kernel
theorem dX6_offerEnd_96 : decode cX6_offerEnd 96 = .ok (.lmul, 1) := by decide +kernel
theorem dX6_offerEnd_97 : decode cX6_offerEnd 97 = .ok (.lload 13, 2) := by decide +kernel
theorem dX6_offerEnd_99 : decode cX6_offerEnd 99 = .ok (.invokevirtual 123, 3) := by decide +kernel
theorem dX6_offerEnd_102 : decode cX6_offerEnd 102 = .ok (.return_, 1) := by decide +kernel
theorem dX6_offer_0 : decode cX6_offer 0 = .ok (.iload_n 1, 1) := by decide +kernel
theorem dX6_offer_1 : decode cX6_offer 1 = .ok (.ifCond .eq 7, 3) := by decide +kernel
theorem dX6_offer_4 : decode cX6_offer 4 = .ok (.lload_n 2, 1) := by decide +kernel
theorem dX6_offer_5 : decode cX6_offer 5 = .ok (.goto 5, 3) := by decide +kernel
theorem dX6_offer_8 : decode cX6_offer 8 = .ok (.lload 4, 2) := by decide +kernel
theorem dX6_offer_10 : decode cX6_offer 10 = .ok (.lstore 8, 2) := by decide +kernel
theorem dX6_offer_12 : decode cX6_offer 12 = .ok (.iload_n 1, 1) := by decide +kernel
theorem dX6_offer_13 : decode cX6_offer 13 = .ok (.ifCond .eq 8, 3) := by decide +kernel
theorem dX6_offer_16 : decode cX6_offer 16 = .ok (.lload 4, 2) := by decide +kernel
theorem dX6_offer_18 : decode cX6_offer 18 = .ok (.goto 4, 3) := by decide +kernel
theorem dX6_offer_21 : decode cX6_offer 21 = .ok (.lload_n 2, 1) := by decide +kernel
theorem dX6_offer_22 : decode cX6_offer 22 = .ok (.lstore 10, 2) := by decide +kernel
theorem dX6_offer_24 : decode cX6_offer 24 = .ok (.aload_n 0, 1) := by decide +kernel
theorem dX6_offer_25 : decode cX6_offer 25 = .ok (.getfield 9, 3) := by decide +kernel
theorem dX6_offer_28 : decode cX6_offer 28 = .ok (.aload_n 0, 1) := by decide +kernel
theorem dX6_offer_29 : decode cX6_offer 29 = .ok (.getfield 36, 3) := by decide +kernel
theorem dX6_offer_32 : decode cX6_offer 32 = .ok (.laload, 1) := by decide +kernel
theorem dX6_offer_33 : decode cX6_offer 33 = .ok (.lconst 0, 1) := by decide +kernel
theorem dX6_offer_34 : decode cX6_offer 34 = .ok (.lcmp, 1) := by decide +kernel
theorem dX6_offer_35 : decode cX6_offer 35 = .ok (.ifCond .ge 9, 3) := by decide +kernel
theorem dX6_offer_38 : decode cX6_offer 38 = .ok (.ldc2_w 96, 3) := by decide +kernel
theorem dX6_offer_41 : decode cX6_offer 41 = .ok (.goto 4, 3) := by decide +kernel
theorem dX6_offer_44 : decode cX6_offer 44 = .ok (.lconst 1, 1) := by decide +kernel
theorem dX6_offer_45 : decode cX6_offer 45 = .ok (.lstore 12, 2) := by decide +kernel
theorem dX6_offer_47 : decode cX6_offer 47 = .ok (.lload 12, 2) := by decide +kernel
theorem dX6_offer_49 : decode cX6_offer 49 = .ok (.lload 6, 2) := by decide +kernel
theorem dX6_offer_51 : decode cX6_offer 51 = .ok (.lmul, 1) := by decide +kernel
theorem dX6_offer_52 : decode cX6_offer 52 = .ok (.aload_n 0, 1) := by decide +kernel
theorem dX6_offer_53 : decode cX6_offer 53 = .ok (.getfield 9, 3) := by decide +kernel
theorem dX6_offer_56 : decode cX6_offer 56 = .ok (.aload_n 0, 1) := by decide +kernel
theorem dX6_offer_57 : decode cX6_offer 57 = .ok (.getfield 36, 3) := by decide +kernel
theorem dX6_offer_60 : decode cX6_offer 60 = .ok (.laload, 1) := by decide +kernel
theorem dX6_offer_61 : decode cX6_offer 61 = .ok (.lmul, 1) := by decide +kernel
theorem dX6_offer_62 : decode cX6_offer 62 = .ok (.lstore 14, 2) := by decide +kernel
theorem dX6_offer_64 : decode cX6_offer 64 = .ok (.lload 12, 2) := by decide +kernel
theorem dX6_offer_66 : decode cX6_offer 66 = .ok (.lload 6, 2) := by decide +kernel
theorem dX6_offer_68 : decode cX6_offer 68 = .ok (.aload_n 0, 1) := by decide +kernel
theorem dX6_offer_69 : decode cX6_offer 69 = .ok (.getfield 21, 3) := by decide +kernel
theorem dX6_offer_72 : decode cX6_offer 72 = .ok (.aload_n 0, 1) := by decide +kernel
theorem dX6_offer_73 : decode cX6_offer 73 = .ok (.getfield 36, 3) := by decide +kernel
theorem dX6_offer_76 : decode cX6_offer 76 = .ok (.laload, 1) := by decide +kernel
theorem dX6_offer_77 : decode cX6_offer 77 = .ok (.lmul, 1) := by decide +kernel
theorem dX6_offer_78 : decode cX6_offer 78 = .ok (.lload 10, 2) := by decide +kernel
theorem dX6_offer_80 : decode cX6_offer 80 = .ok (.aload_n 0, 1) := by decide +kernel
theorem dX6_offer_81 : decode cX6_offer 81 = .ok (.getfield 18, 3) := by decide +kernel
theorem dX6_offer_84 : decode cX6_offer 84 = .ok (.aload_n 0, 1) := by decide +kernel
theorem dX6_offer_85 : decode cX6_offer 85 = .ok (.getfield 36, 3) := by decide +kernel
theorem dX6_offer_88 : decode cX6_offer 88 = .ok (.laload, 1) := by decide +kernel
theorem dX6_offer_89 : decode cX6_offer 89 = .ok (.lmul, 1) := by decide +kernel
theorem dX6_offer_90 : decode cX6_offer 90 = .ok (.ladd, 1) := by decide +kernel
theorem dX6_offer_91 : decode cX6_offer 91 = .ok (.lload 8, 2) := by decide +kernel
theorem dX6_offer_93 : decode cX6_offer 93 = .ok (.aload_n 0, 1) := by decide +kernel
theorem dX6_offer_94 : decode cX6_offer 94 = .ok (.getfield 15, 3) := by decide +kernel
theorem dX6_offer_97 : decode cX6_offer 97 = .ok (.aload_n 0, 1) := by decide +kernel
theorem dX6_offer_98 : decode cX6_offer 98 = .ok (.getfield 36, 3) := by decide +kernel
theorem dX6_offer_101 : decode cX6_offer 101 = .ok (.laload, 1) := by decide +kernel
theorem dX6_offer_102 : decode cX6_offer 102 = .ok (.lmul, 1) := by decide +kernel
theorem dX6_offer_103 : decode cX6_offer 103 = .ok (.lsub, 1) := by decide +kernel
theorem dX6_offer_104 : decode cX6_offer 104 = .ok (.lmul, 1) := by decide +kernel
theorem dX6_offer_105 : decode cX6_offer 105 = .ok (.lstore 16, 2) := by decide +kernel
theorem dX6_offer_107 : decode cX6_offer 107 = .ok (.aload_n 0, 1) := by decide +kernel
theorem dX6_offer_108 : decode cX6_offer 108 = .ok (.getfield 115, 3) := by decide +kernel
theorem dX6_offer_111 : decode cX6_offer 111 = .ok (.ifCond .eq 21, 3) := by decide +kernel
theorem dX6_offer_114 : decode cX6_offer 114 = .ok (.lload 8, 2) := by decide +kernel
theorem dX6_offer_116 : decode cX6_offer 116 = .ok (.aload_n 0, 1) := by decide +kernel
theorem dX6_offer_117 : decode cX6_offer 117 = .ok (.getfield 102, 3) := by decide +kernel
theorem dX6_offer_120 : decode cX6_offer 120 = .ok (.lmul, 1) := by decide +kernel
theorem dX6_offer_121 : decode cX6_offer 121 = .ok (.aload_n 0, 1) := by decide +kernel
theorem dX6_offer_122 : decode cX6_offer 122 = .ok (.getfield 98, 3) := by decide +kernel
theorem dX6_offer_125 : decode cX6_offer 125 = .ok (.lload 6, 2) := by decide +kernel
theorem dX6_offer_127 : decode cX6_offer 127 = .ok (.lmul, 1) := by decide +kernel
theorem dX6_offer_128 : decode cX6_offer 128 = .ok (.lcmp, 1) := by decide +kernel
theorem dX6_offer_129 : decode cX6_offer 129 = .ok (.ifCond .ge 15, 3) := by decide +kernel
theorem dX6_offer_132 : decode cX6_offer 132 = .ok (.aload_n 0, 1) := by decide +kernel
theorem dX6_offer_133 : decode cX6_offer 133 = .ok (.lload 8, 2) := by decide +kernel
theorem dX6_offer_135 : decode cX6_offer 135 = .ok (.putfield 98, 3) := by decide +kernel
theorem dX6_offer_138 : decode cX6_offer 138 = .ok (.aload_n 0, 1) := by decide +kernel
theorem dX6_offer_139 : decode cX6_offer 139 = .ok (.lload 6, 2) := by decide +kernel
theorem dX6_offer_141 : decode cX6_offer 141 = .ok (.putfield 102, 3) := by decide +kernel
theorem dX6_offer_144 : decode cX6_offer 144 = .ok (.lload 16, 2) := by decide +kernel
theorem dX6_offer_146 : decode cX6_offer 146 = .ok (.lconst 0, 1) := by decide +kernel
theorem dX6_offer_147 : decode cX6_offer 147 = .ok (.lcmp, 1) := by decide +kernel
theorem dX6_offer_148 : decode cX6_offer 148 = .ok (.ifCond .ge 9, 3) := by decide +kernel
theorem dX6_offer_151 : decode cX6_offer 151 = .ok (.lload 16, 2) := by decide +kernel
theorem dX6_offer_153 : decode cX6_offer 153 = .ok (.lneg, 1) := by decide +kernel
theorem dX6_offer_154 : decode cX6_offer 154 = .ok (.goto 5, 3) := by decide +kernel
theorem dX6_offer_157 : decode cX6_offer 157 = .ok (.lload 16, 2) := by decide +kernel
theorem dX6_offer_159 : decode cX6_offer 159 = .ok (.lstore 18, 2) := by decide +kernel
theorem dX6_offer_161 : decode cX6_offer 161 = .ok (.aload_n 0, 1) := by decide +kernel
theorem dX6_offer_162 : decode cX6_offer 162 = .ok (.getfield 105, 3) := by decide +kernel
theorem dX6_offer_165 : decode cX6_offer 165 = .ok (.lconst 0, 1) := by decide +kernel
theorem dX6_offer_166 : decode cX6_offer 166 = .ok (.lcmp, 1) := by decide +kernel
theorem dX6_offer_167 : decode cX6_offer 167 = .ok (.ifCond .ge 11, 3) := by decide +kernel
theorem dX6_offer_170 : decode cX6_offer 170 = .ok (.aload_n 0, 1) := by decide +kernel
theorem dX6_offer_171 : decode cX6_offer 171 = .ok (.getfield 105, 3) := by decide +kernel
theorem dX6_offer_174 : decode cX6_offer 174 = .ok (.lneg, 1) := by decide +kernel
theorem dX6_offer_175 : decode cX6_offer 175 = .ok (.goto 7, 3) := by decide +kernel
theorem dX6_offer_178 : decode cX6_offer 178 = .ok (.aload_n 0, 1) := by decide +kernel
theorem dX6_offer_179 : decode cX6_offer 179 = .ok (.getfield 105, 3) := by decide +kernel
theorem dX6_offer_182 : decode cX6_offer 182 = .ok (.lstore 20, 2) := by decide +kernel
theorem dX6_offer_184 : decode cX6_offer 184 = .ok (.aload_n 0, 1) := by decide +kernel
theorem dX6_offer_185 : decode cX6_offer 185 = .ok (.getfield 115, 3) := by decide +kernel
theorem dX6_offer_188 : decode cX6_offer 188 = .ok (.ifCond .eq 19, 3) := by decide +kernel
theorem dX6_offer_191 : decode cX6_offer 191 = .ok (.lload 18, 2) := by decide +kernel
theorem dX6_offer_193 : decode cX6_offer 193 = .ok (.aload_n 0, 1) := by decide +kernel
theorem dX6_offer_194 : decode cX6_offer 194 = .ok (.getfield 108, 3) := by decide +kernel
theorem dX6_offer_197 : decode cX6_offer 197 = .ok (.lmul, 1) := by decide +kernel
theorem dX6_offer_198 : decode cX6_offer 198 = .ok (.lload 20, 2) := by decide +kernel
theorem dX6_offer_200 : decode cX6_offer 200 = .ok (.lload 14, 2) := by decide +kernel
theorem dX6_offer_202 : decode cX6_offer 202 = .ok (.lmul, 1) := by decide +kernel
theorem dX6_offer_203 : decode cX6_offer 203 = .ok (.lcmp, 1) := by decide +kernel
theorem dX6_offer_204 : decode cX6_offer 204 = .ok (.ifCond .ge 15, 3) := by decide +kernel
theorem dX6_offer_207 : decode cX6_offer 207 = .ok (.aload_n 0, 1) := by decide +kernel
theorem dX6_offer_208 : decode cX6_offer 208 = .ok (.lload 16, 2) := by decide +kernel
theorem dX6_offer_210 : decode cX6_offer 210 = .ok (.putfield 105, 3) := by decide +kernel
theorem dX6_offer_213 : decode cX6_offer 213 = .ok (.aload_n 0, 1) := by decide +kernel
theorem dX6_offer_214 : decode cX6_offer 214 = .ok (.lload 14, 2) := by decide +kernel
theorem dX6_offer_216 : decode cX6_offer 216 = .ok (.putfield 108, 3) := by decide +kernel
theorem dX6_offer_219 : decode cX6_offer 219 = .ok (.aload_n 0, 1) := by decide +kernel
theorem dX6_offer_220 : decode cX6_offer 220 = .ok (.iconst 1, 1) := by decide +kernel
theorem dX6_offer_221 : decode cX6_offer 221 = .ok (.putfield 115, 3) := by decide +kernel
theorem dX6_offer_224 : decode cX6_offer 224 = .ok (.return_, 1) := by decide +kernel
theorem dX6_widestAxis_0 : decode cX6_widestAxis 0 = .ok (.iconst 0, 1) := by decide +kernel
theorem dX6_widestAxis_1 : decode cX6_widestAxis 1 = .ok (.istore_n 1, 1) := by decide +kernel
theorem dX6_widestAxis_2 : decode cX6_widestAxis 2 = .ok (.iconst 1, 1) := by decide +kernel
theorem dX6_widestAxis_3 : decode cX6_widestAxis 3 = .ok (.istore_n 2, 1) := by decide +kernel
theorem dX6_widestAxis_4 : decode cX6_widestAxis 4 = .ok (.iload_n 2, 1) := by decide +kernel
theorem dX6_widestAxis_5 : decode cX6_widestAxis 5 = .ok (.iconst 3, 1) := by decide +kernel
theorem dX6_widestAxis_6 : decode cX6_widestAxis 6 = .ok (.if_icmp .ge 27, 3) := by decide +kernel
theorem dX6_widestAxis_9 : decode cX6_widestAxis 9 = .ok (.aload_n 0, 1) := by decide +kernel
theorem dX6_widestAxis_10 : decode cX6_widestAxis 10 = .ok (.iload_n 2, 1) := by decide +kernel
theorem dX6_widestAxis_11 : decode cX6_widestAxis 11 = .ok (.laload, 1) := by decide +kernel
theorem dX6_widestAxis_12 : decode cX6_widestAxis 12 = .ok (.invokestatic 127, 3) := by decide +kernel
theorem dX6_widestAxis_15 : decode cX6_widestAxis 15 = .ok (.aload_n 0, 1) := by decide +kernel
theorem dX6_widestAxis_16 : decode cX6_widestAxis 16 = .ok (.iload_n 1, 1) := by decide +kernel
theorem dX6_widestAxis_17 : decode cX6_widestAxis 17 = .ok (.laload, 1) := by decide +kernel
theorem dX6_widestAxis_18 : decode cX6_widestAxis 18 = .ok (.invokestatic 127, 3) := by decide +kernel
theorem dX6_widestAxis_21 : decode cX6_widestAxis 21 = .ok (.lcmp, 1) := by decide +kernel
theorem dX6_widestAxis_22 : decode cX6_widestAxis 22 = .ok (.ifCond .le 5, 3) := by decide +kernel
theorem dX6_widestAxis_25 : decode cX6_widestAxis 25 = .ok (.iload_n 2, 1) := by decide +kernel
theorem dX6_widestAxis_26 : decode cX6_widestAxis 26 = .ok (.istore_n 1, 1) := by decide +kernel
theorem dX6_widestAxis_27 : decode cX6_widestAxis 27 = .ok (.iinc 2 1, 3) := by decide +kernel
theorem dX6_widestAxis_30 : decode cX6_widestAxis 30 = .ok (.goto (-26), 3) := by decide +kernel
theorem dX6_widestAxis_33 : decode cX6_widestAxis 33 = .ok (.iload_n 1, 1) := by decide +kernel
theorem dX6_widestAxis_34 : decode cX6_widestAxis 34 = .ok (.ireturn, 1) := by decide +kernel
theorem dX6_isMultiple_0 : decode cX6_isMultiple 0 = .ok (.aload_n 1, 1) := by decide +kernel
theorem dX6_isMultiple_1 : decode cX6_isMultiple 1 = .ok (.iload_n 2, 1) := by decide +kernel
theorem dX6_isMultiple_2 : decode cX6_isMultiple 2 = .ok (.laload, 1) := by decide +kernel
theorem dX6_isMultiple_3 : decode cX6_isMultiple 3 = .ok (.lconst 0, 1) := by decide +kernel
theorem dX6_isMultiple_4 : decode cX6_isMultiple 4 = .ok (.lcmp, 1) := by decide +kernel
theorem dX6_isMultiple_5 : decode cX6_isMultiple 5 = .ok (.ifCond .ne 8, 3) := by decide +kernel
theorem dX6_isMultiple_8 : decode cX6_isMultiple 8 = .ok (.aload_n 0, 1) := by decide +kernel
theorem dX6_isMultiple_9 : decode cX6_isMultiple 9 = .ok (.invokestatic 65, 3) := by decide +kernel
theorem dX6_isMultiple_12 : decode cX6_isMultiple 12 = .ok (.ireturn, 1) := by decide +kernel
theorem dX6_isMultiple_13 : decode cX6_isMultiple 13 = .ok (.iconst 0, 1) := by decide +kernel
theorem dX6_isMultiple_14 : decode cX6_isMultiple 14 = .ok (.istore_n 3, 1) := by decide +kernel
theorem dX6_isMultiple_15 : decode cX6_isMultiple 15 = .ok (.iload_n 3, 1) := by decide +kernel
theorem dX6_isMultiple_16 : decode cX6_isMultiple 16 = .ok (.iconst 3, 1) := by decide +kernel
theorem dX6_isMultiple_17 : decode cX6_isMultiple 17 = .ok (.if_icmp .ge 29, 3) := by decide +kernel
theorem dX6_isMultiple_20 : decode cX6_isMultiple 20 = .ok (.aload_n 0, 1) := by decide +kernel
theorem dX6_isMultiple_21 : decode cX6_isMultiple 21 = .ok (.iload_n 3, 1) := by decide +kernel
theorem dX6_isMultiple_22 : decode cX6_isMultiple 22 = .ok (.laload, 1) := by decide +kernel
theorem dX6_isMultiple_23 : decode cX6_isMultiple 23 = .ok (.aload_n 1, 1) := by decide +kernel
theorem dX6_isMultiple_24 : decode cX6_isMultiple 24 = .ok (.iload_n 2, 1) := by decide +kernel
theorem dX6_isMultiple_25 : decode cX6_isMultiple 25 = .ok (.laload, 1) := by decide +kernel
theorem dX6_isMultiple_26 : decode cX6_isMultiple 26 = .ok (.lmul, 1) := by decide +kernel
theorem dX6_isMultiple_27 : decode cX6_isMultiple 27 = .ok (.aload_n 0, 1) := by decide +kernel
theorem dX6_isMultiple_28 : decode cX6_isMultiple 28 = .ok (.iload_n 2, 1) := by decide +kernel
theorem dX6_isMultiple_29 : decode cX6_isMultiple 29 = .ok (.laload, 1) := by decide +kernel
theorem dX6_isMultiple_30 : decode cX6_isMultiple 30 = .ok (.aload_n 1, 1) := by decide +kernel
theorem dX6_isMultiple_31 : decode cX6_isMultiple 31 = .ok (.iload_n 3, 1) := by decide +kernel
theorem dX6_isMultiple_32 : decode cX6_isMultiple 32 = .ok (.laload, 1) := by decide +kernel
theorem dX6_isMultiple_33 : decode cX6_isMultiple 33 = .ok (.lmul, 1) := by decide +kernel
theorem dX6_isMultiple_34 : decode cX6_isMultiple 34 = .ok (.lcmp, 1) := by decide +kernel
theorem dX6_isMultiple_35 : decode cX6_isMultiple 35 = .ok (.ifCond .eq 5, 3) := by decide +kernel
theorem dX6_isMultiple_38 : decode cX6_isMultiple 38 = .ok (.iconst 0, 1) := by decide +kernel
theorem dX6_isMultiple_39 : decode cX6_isMultiple 39 = .ok (.ireturn, 1) := by decide +kernel
theorem dX6_isMultiple_40 : decode cX6_isMultiple 40 = .ok (.iinc 3 1, 3) := by decide +kernel
theorem dX6_isMultiple_43 : decode cX6_isMultiple 43 = .ok (.goto (-28), 3) := by decide +kernel
theorem dX6_isMultiple_46 : decode cX6_isMultiple 46 = .ok (.iconst 1, 1) := by decide +kernel
theorem dX6_isMultiple_47 : decode cX6_isMultiple 47 = .ok (.ireturn, 1) := by decide +kernel
theorem dX6_isPart_0 : decode cX6_isPart 0 = .ok (.lload_n 0, 1) := by decide +kernel
theorem dX6_isPart_1 : decode cX6_isPart 1 = .ok (.lconst 0, 1) := by decide +kernel
theorem dX6_isPart_2 : decode cX6_isPart 2 = .ok (.lcmp, 1) := by decide +kernel
theorem dX6_isPart_3 : decode cX6_isPart 3 = .ok (.ifCond .lt 13, 3) := by decide +kernel
theorem dX6_isPart_6 : decode cX6_isPart 6 = .ok (.lload_n 0, 1) := by decide +kernel
theorem dX6_isPart_7 : decode cX6_isPart 7 = .ok (.lload_n 2, 1) := by decide +kernel
theorem dX6_isPart_8 : decode cX6_isPart 8 = .ok (.lcmp, 1) := by decide +kernel
theorem dX6_isPart_9 : decode cX6_isPart 9 = .ok (.ifCond .gt 7, 3) := by decide +kernel
theorem dX6_isPart_12 : decode cX6_isPart 12 = .ok (.iconst 1, 1) := by decide +kernel
theorem dX6_isPart_13 : decode cX6_isPart 13 = .ok (.goto 4, 3) := by decide +kernel
theorem dX6_isPart_16 : decode cX6_isPart 16 = .ok (.iconst 0, 1) := by decide +kernel
theorem dX6_isPart_17 : decode cX6_isPart 17 = .ok (.ireturn, 1) := by decide +kernel
theorem dX6_cross_0 : decode cX6_cross 0 = .ok (.aload_n 2, 1) := by decide +kernel
theorem dX6_cross_1 : decode cX6_cross 1 = .ok (.iconst 0, 1) := by decide +kernel
theorem dX6_cross_2 : decode cX6_cross 2 = .ok (.aload_n 0, 1) := by decide +kernel
theorem dX6_cross_3 : decode cX6_cross 3 = .ok (.iconst 1, 1) := by decide +kernel
theorem dX6_cross_4 : decode cX6_cross 4 = .ok (.laload, 1) := by decide +kernel
theorem dX6_cross_5 : decode cX6_cross 5 = .ok (.aload_n 1, 1) := by decide +kernel
theorem dX6_cross_6 : decode cX6_cross 6 = .ok (.iconst 2, 1) := by decide +kernel
theorem dX6_cross_7 : decode cX6_cross 7 = .ok (.laload, 1) := by decide +kernel
theorem dX6_cross_8 : decode cX6_cross 8 = .ok (.lmul, 1) := by decide +kernel
theorem dX6_cross_9 : decode cX6_cross 9 = .ok (.aload_n 0, 1) := by decide +kernel
theorem dX6_cross_10 : decode cX6_cross 10 = .ok (.iconst 2, 1) := by decide +kernel
theorem dX6_cross_11 : decode cX6_cross 11 = .ok (.laload, 1) := by decide +kernel
theorem dX6_cross_12 : decode cX6_cross 12 = .ok (.aload_n 1, 1) := by decide +kernel
theorem dX6_cross_13 : decode cX6_cross 13 = .ok (.iconst 1, 1) := by decide +kernel
theorem dX6_cross_14 : decode cX6_cross 14 = .ok (.laload, 1) := by decide +kernel
theorem dX6_cross_15 : decode cX6_cross 15 = .ok (.lmul, 1) := by decide +kernel
theorem dX6_cross_16 : decode cX6_cross 16 = .ok (.lsub, 1) := by decide +kernel
theorem dX6_cross_17 : decode cX6_cross 17 = .ok (.lastore, 1) := by decide +kernel
theorem dX6_cross_18 : decode cX6_cross 18 = .ok (.aload_n 2, 1) := by decide +kernel
theorem dX6_cross_19 : decode cX6_cross 19 = .ok (.iconst 1, 1) := by decide +kernel
theorem dX6_cross_20 : decode cX6_cross 20 = .ok (.aload_n 0, 1) := by decide +kernel
theorem dX6_cross_21 : decode cX6_cross 21 = .ok (.iconst 2, 1) := by decide +kernel
theorem dX6_cross_22 : decode cX6_cross 22 = .ok (.laload, 1) := by decide +kernel
theorem dX6_cross_23 : decode cX6_cross 23 = .ok (.aload_n 1, 1) := by decide +kernel
theorem dX6_cross_24 : decode cX6_cross 24 = .ok (.iconst 0, 1) := by decide +kernel
theorem dX6_cross_25 : decode cX6_cross 25 = .ok (.laload, 1) := by decide +kernel
theorem dX6_cross_26 : decode cX6_cross 26 = .ok (.lmul, 1) := by decide +kernel
theorem dX6_cross_27 : decode cX6_cross 27 = .ok (.aload_n 0, 1) := by decide +kernel
theorem dX6_cross_28 : decode cX6_cross 28 = .ok (.iconst 0, 1) := by decide +kernel
theorem dX6_cross_29 : decode cX6_cross 29 = .ok (.laload, 1) := by decide +kernel
theorem dX6_cross_30 : decode cX6_cross 30 = .ok (.aload_n 1, 1) := by decide +kernel
theorem dX6_cross_31 : decode cX6_cross 31 = .ok (.iconst 2, 1) := by decide +kernel
theorem dX6_cross_32 : decode cX6_cross 32 = .ok (.laload, 1) := by decide +kernel
theorem dX6_cross_33 : decode cX6_cross 33 = .ok (.lmul, 1) := by decide +kernel
theorem dX6_cross_34 : decode cX6_cross 34 = .ok (.lsub, 1) := by decide +kernel
theorem dX6_cross_35 : decode cX6_cross 35 = .ok (.lastore, 1) := by decide +kernel
theorem dX6_cross_36 : decode cX6_cross 36 = .ok (.aload_n 2, 1) := by decide +kernel
theorem dX6_cross_37 : decode cX6_cross 37 = .ok (.iconst 2, 1) := by decide +kernel
theorem dX6_cross_38 : decode cX6_cross 38 = .ok (.aload_n 0, 1) := by decide +kernel
theorem dX6_cross_39 : decode cX6_cross 39 = .ok (.iconst 0, 1) := by decide +kernel
theorem dX6_cross_40 : decode cX6_cross 40 = .ok (.laload, 1) := by decide +kernel
theorem dX6_cross_41 : decode cX6_cross 41 = .ok (.aload_n 1, 1) := by decide +kernel
theorem dX6_cross_42 : decode cX6_cross 42 = .ok (.iconst 1, 1) := by decide +kernel
theorem dX6_cross_43 : decode cX6_cross 43 = .ok (.laload, 1) := by decide +kernel
theorem dX6_cross_44 : decode cX6_cross 44 = .ok (.lmul, 1) := by decide +kernel
theorem dX6_cross_45 : decode cX6_cross 45 = .ok (.aload_n 0, 1) := by decide +kernel
theorem dX6_cross_46 : decode cX6_cross 46 = .ok (.iconst 1, 1) := by decide +kernel
theorem dX6_cross_47 : decode cX6_cross 47 = .ok (.laload, 1) := by decide +kernel
theorem dX6_cross_48 : decode cX6_cross 48 = .ok (.aload_n 1, 1) := by decide +kernel
theorem dX6_cross_49 : decode cX6_cross 49 = .ok (.iconst 0, 1) := by decide +kernel
theorem dX6_cross_50 : decode cX6_cross 50 = .ok (.laload, 1) := by decide +kernel
theorem dX6_cross_51 : decode cX6_cross 51 = .ok (.lmul, 1) := by decide +kernel
theorem dX6_cross_52 : decode cX6_cross 52 = .ok (.lsub, 1) := by decide +kernel
theorem dX6_cross_53 : decode cX6_cross 53 = .ok (.lastore, 1) := by decide +kernel
theorem dX6_cross_54 : decode cX6_cross 54 = .ok (.return_, 1) := by decide +kernel
theorem dX6_dot_0 : decode cX6_dot 0 = .ok (.aload_n 0, 1) := by decide +kernel
theorem dX6_dot_1 : decode cX6_dot 1 = .ok (.iconst 0, 1) := by decide +kernel
theorem dX6_dot_2 : decode cX6_dot 2 = .ok (.laload, 1) := by decide +kernel
theorem dX6_dot_3 : decode cX6_dot 3 = .ok (.aload_n 1, 1) := by decide +kernel
theorem dX6_dot_4 : decode cX6_dot 4 = .ok (.iconst 0, 1) := by decide +kernel
theorem dX6_dot_5 : decode cX6_dot 5 = .ok (.laload, 1) := by decide +kernel
theorem dX6_dot_6 : decode cX6_dot 6 = .ok (.lmul, 1) := by decide +kernel
theorem dX6_dot_7 : decode cX6_dot 7 = .ok (.aload_n 0, 1) := by decide +kernel
theorem dX6_dot_8 : decode cX6_dot 8 = .ok (.iconst 1, 1) := by decide +kernel
theorem dX6_dot_9 : decode cX6_dot 9 = .ok (.laload, 1) := by decide +kernel
theorem dX6_dot_10 : decode cX6_dot 10 = .ok (.aload_n 1, 1) := by decide +kernel
theorem dX6_dot_11 : decode cX6_dot 11 = .ok (.iconst 1, 1) := by decide +kernel
theorem dX6_dot_12 : decode cX6_dot 12 = .ok (.laload, 1) := by decide +kernel
theorem dX6_dot_13 : decode cX6_dot 13 = .ok (.lmul, 1) := by decide +kernel
theorem dX6_dot_14 : decode cX6_dot 14 = .ok (.ladd, 1) := by decide +kernel
theorem dX6_dot_15 : decode cX6_dot 15 = .ok (.aload_n 0, 1) := by decide +kernel
theorem dX6_dot_16 : decode cX6_dot 16 = .ok (.iconst 2, 1) := by decide +kernel
theorem dX6_dot_17 : decode cX6_dot 17 = .ok (.laload, 1) := by decide +kernel
theorem dX6_dot_18 : decode cX6_dot 18 = .ok (.aload_n 1, 1) := by decide +kernel
theorem dX6_dot_19 : decode cX6_dot 19 = .ok (.iconst 2, 1) := by decide +kernel
theorem dX6_dot_20 : decode cX6_dot 20 = .ok (.laload, 1) := by decide +kernel
theorem dX6_dot_21 : decode cX6_dot 21 = .ok (.lmul, 1) := by decide +kernel
theorem dX6_dot_22 : decode cX6_dot 22 = .ok (.ladd, 1) := by decide +kernel
theorem dX6_dot_23 : decode cX6_dot 23 = .ok (.lreturn, 1) := by decide +kernel
theorem dX6_isZero_0 : decode cX6_isZero 0 = .ok (.aload_n 0, 1) := by decide +kernel
theorem dX6_isZero_1 : decode cX6_isZero 1 = .ok (.iconst 0, 1) := by decide +kernel
theorem dX6_isZero_2 : decode cX6_isZero 2 = .ok (.laload, 1) := by decide +kernel
theorem dX6_isZero_3 : decode cX6_isZero 3 = .ok (.lconst 0, 1) := by decide +kernel
theorem dX6_isZero_4 : decode cX6_isZero 4 = .ok (.lcmp, 1) := by decide +kernel
theorem dX6_isZero_5 : decode cX6_isZero 5 = .ok (.ifCond .ne 23, 3) := by decide +kernel
theorem dX6_isZero_8 : decode cX6_isZero 8 = .ok (.aload_n 0, 1) := by decide +kernel
theorem dX6_isZero_9 : decode cX6_isZero 9 = .ok (.iconst 1, 1) := by decide +kernel
theorem dX6_isZero_10 : decode cX6_isZero 10 = .ok (.laload, 1) := by decide +kernel
theorem dX6_isZero_11 : decode cX6_isZero 11 = .ok (.lconst 0, 1) := by decide +kernel
theorem dX6_isZero_12 : decode cX6_isZero 12 = .ok (.lcmp, 1) := by decide +kernel
theorem dX6_isZero_13 : decode cX6_isZero 13 = .ok (.ifCond .ne 15, 3) := by decide +kernel
theorem dX6_isZero_16 : decode cX6_isZero 16 = .ok (.aload_n 0, 1) := by decide +kernel
theorem dX6_isZero_17 : decode cX6_isZero 17 = .ok (.iconst 2, 1) := by decide +kernel
theorem dX6_isZero_18 : decode cX6_isZero 18 = .ok (.laload, 1) := by decide +kernel
theorem dX6_isZero_19 : decode cX6_isZero 19 = .ok (.lconst 0, 1) := by decide +kernel
theorem dX6_isZero_20 : decode cX6_isZero 20 = .ok (.lcmp, 1) := by decide +kernel
theorem dX6_isZero_21 : decode cX6_isZero 21 = .ok (.ifCond .ne 7, 3) := by decide +kernel
theorem dX6_isZero_24 : decode cX6_isZero 24 = .ok (.iconst 1, 1) := by decide +kernel
theorem dX6_isZero_25 : decode cX6_isZero 25 = .ok (.goto 4, 3) := by decide +kernel
theorem dX6_isZero_28 : decode cX6_isZero 28 = .ok (.iconst 0, 1) := by decide +kernel
theorem dX6_isZero_29 : decode cX6_isZero 29 = .ok (.ireturn, 1) := by decide +kernel
theorem dX6_det_0 : decode cX6_det 0 = .ok (.aload_n 0, 1) := by decide +kernel
theorem dX6_det_1 : decode cX6_det 1 = .ok (.iconst 0, 1) := by decide +kernel
theorem dX6_det_2 : decode cX6_det 2 = .ok (.laload, 1) := by decide +kernel
theorem dX6_det_3 : decode cX6_det 3 = .ok (.aload_n 1, 1) := by decide +kernel
theorem dX6_det_4 : decode cX6_det 4 = .ok (.iconst 1, 1) := by decide +kernel
theorem dX6_det_5 : decode cX6_det 5 = .ok (.laload, 1) := by decide +kernel
theorem dX6_det_6 : decode cX6_det 6 = .ok (.aload_n 2, 1) := by decide +kernel
theorem dX6_det_7 : decode cX6_det 7 = .ok (.iconst 2, 1) := by decide +kernel
theorem dX6_det_8 : decode cX6_det 8 = .ok (.laload, 1) := by decide +kernel
theorem dX6_det_9 : decode cX6_det 9 = .ok (.lmul, 1) := by decide +kernel
theorem dX6_det_10 : decode cX6_det 10 = .ok (.aload_n 1, 1) := by decide +kernel
theorem dX6_det_11 : decode cX6_det 11 = .ok (.iconst 2, 1) := by decide +kernel
theorem dX6_det_12 : decode cX6_det 12 = .ok (.laload, 1) := by decide +kernel
theorem dX6_det_13 : decode cX6_det 13 = .ok (.aload_n 2, 1) := by decide +kernel
theorem dX6_det_14 : decode cX6_det 14 = .ok (.iconst 1, 1) := by decide +kernel
theorem dX6_det_15 : decode cX6_det 15 = .ok (.laload, 1) := by decide +kernel
theorem dX6_det_16 : decode cX6_det 16 = .ok (.lmul, 1) := by decide +kernel
theorem dX6_det_17 : decode cX6_det 17 = .ok (.lsub, 1) := by decide +kernel
theorem dX6_det_18 : decode cX6_det 18 = .ok (.lmul, 1) := by decide +kernel
theorem dX6_det_19 : decode cX6_det 19 = .ok (.aload_n 0, 1) := by decide +kernel
theorem dX6_det_20 : decode cX6_det 20 = .ok (.iconst 1, 1) := by decide +kernel
theorem dX6_det_21 : decode cX6_det 21 = .ok (.laload, 1) := by decide +kernel
theorem dX6_det_22 : decode cX6_det 22 = .ok (.aload_n 1, 1) := by decide +kernel
theorem dX6_det_23 : decode cX6_det 23 = .ok (.iconst 2, 1) := by decide +kernel
theorem dX6_det_24 : decode cX6_det 24 = .ok (.laload, 1) := by decide +kernel
theorem dX6_det_25 : decode cX6_det 25 = .ok (.aload_n 2, 1) := by decide +kernel
theorem dX6_det_26 : decode cX6_det 26 = .ok (.iconst 0, 1) := by decide +kernel
theorem dX6_det_27 : decode cX6_det 27 = .ok (.laload, 1) := by decide +kernel
theorem dX6_det_28 : decode cX6_det 28 = .ok (.lmul, 1) := by decide +kernel
theorem dX6_det_29 : decode cX6_det 29 = .ok (.aload_n 1, 1) := by decide +kernel
theorem dX6_det_30 : decode cX6_det 30 = .ok (.iconst 0, 1) := by decide +kernel
theorem dX6_det_31 : decode cX6_det 31 = .ok (.laload, 1) := by decide +kernel
theorem dX6_det_32 : decode cX6_det 32 = .ok (.aload_n 2, 1) := by decide +kernel
theorem dX6_det_33 : decode cX6_det 33 = .ok (.iconst 2, 1) := by decide +kernel
theorem dX6_det_34 : decode cX6_det 34 = .ok (.laload, 1) := by decide +kernel
theorem dX6_det_35 : decode cX6_det 35 = .ok (.lmul, 1) := by decide +kernel
theorem dX6_det_36 : decode cX6_det 36 = .ok (.lsub, 1) := by decide +kernel
theorem dX6_det_37 : decode cX6_det 37 = .ok (.lmul, 1) := by decide +kernel
theorem dX6_det_38 : decode cX6_det 38 = .ok (.ladd, 1) := by decide +kernel
theorem dX6_det_39 : decode cX6_det 39 = .ok (.aload_n 0, 1) := by decide +kernel
theorem dX6_det_40 : decode cX6_det 40 = .ok (.iconst 2, 1) := by decide +kernel
theorem dX6_det_41 : decode cX6_det 41 = .ok (.laload, 1) := by decide +kernel
theorem dX6_det_42 : decode cX6_det 42 = .ok (.aload_n 1, 1) := by decide +kernel
theorem dX6_det_43 : decode cX6_det 43 = .ok (.iconst 0, 1) := by decide +kernel
theorem dX6_det_44 : decode cX6_det 44 = .ok (.laload, 1) := by decide +kernel
theorem dX6_det_45 : decode cX6_det 45 = .ok (.aload_n 2, 1) := by decide +kernel
theorem dX6_det_46 : decode cX6_det 46 = .ok (.iconst 1, 1) := by decide +kernel
theorem dX6_det_47 : decode cX6_det 47 = .ok (.laload, 1) := by decide +kernel
theorem dX6_det_48 : decode cX6_det 48 = .ok (.lmul, 1) := by decide +kernel
theorem dX6_det_49 : decode cX6_det 49 = .ok (.aload_n 1, 1) := by decide +kernel
theorem dX6_det_50 : decode cX6_det 50 = .ok (.iconst 1, 1) := by decide +kernel
theorem dX6_det_51 : decode cX6_det 51 = .ok (.laload, 1) := by decide +kernel
theorem dX6_det_52 : decode cX6_det 52 = .ok (.aload_n 2, 1) := by decide +kernel
theorem dX6_det_53 : decode cX6_det 53 = .ok (.iconst 0, 1) := by decide +kernel
theorem dX6_det_54 : decode cX6_det 54 = .ok (.laload, 1) := by decide +kernel
theorem dX6_det_55 : decode cX6_det 55 = .ok (.lmul, 1) := by decide +kernel
theorem dX6_det_56 : decode cX6_det 56 = .ok (.lsub, 1) := by decide +kernel
theorem dX6_det_57 : decode cX6_det 57 = .ok (.lmul, 1) := by decide +kernel
theorem dX6_det_58 : decode cX6_det 58 = .ok (.ladd, 1) := by decide +kernel
theorem dX6_det_59 : decode cX6_det 59 = .ok (.lreturn, 1) := by decide +kernel
theorem dX8_init_0 : decode cX8_init 0 = .ok (.aload_n 0, 1) := by decide +kernel
theorem dX8_init_1 : decode cX8_init 1 = .ok (.invokespecial 3, 3) := by decide +kernel
theorem dX8_init_4 : decode cX8_init 4 = .ok (.aload_n 0, 1) := by decide +kernel
theorem dX8_init_5 : decode cX8_init 5 = .ok (.bipush 40, 2) := by decide +kernel
theorem dX8_init_7 : decode cX8_init 7 = .ok (.newarray .int, 2) := by decide +kernel
theorem dX8_init_9 : decode cX8_init 9 = .ok (.putfield 9, 3) := by decide +kernel
theorem dX8_init_12 : decode cX8_init 12 = .ok (.aload_n 0, 1) := by decide +kernel
theorem dX8_init_13 : decode cX8_init 13 = .ok (.bipush 40, 2) := by decide +kernel
theorem dX8_init_15 : decode cX8_init 15 = .ok (.newarray .int, 2) := by decide +kernel
theorem dX8_init_17 : decode cX8_init 17 = .ok (.putfield 15, 3) := by decide +kernel
theorem dX8_init_20 : decode cX8_init 20 = .ok (.aload_n 0, 1) := by decide +kernel
theorem dX8_init_21 : decode cX8_init 21 = .ok (.bipush 40, 2) := by decide +kernel
theorem dX8_init_23 : decode cX8_init 23 = .ok (.newarray .long, 2) := by decide +kernel
theorem dX8_init_25 : decode cX8_init 25 = .ok (.putfield 18, 3) := by decide +kernel
theorem dX8_init_28 : decode cX8_init 28 = .ok (.aload_n 0, 1) := by decide +kernel
theorem dX8_init_29 : decode cX8_init 29 = .ok (.bipush 40, 2) := by decide +kernel
theorem dX8_init_31 : decode cX8_init 31 = .ok (.newarray .long, 2) := by decide +kernel
theorem dX8_init_33 : decode cX8_init 33 = .ok (.putfield 22, 3) := by decide +kernel
theorem dX8_init_36 : decode cX8_init 36 = .ok (.aload_n 0, 1) := by decide +kernel
theorem dX8_init_37 : decode cX8_init 37 = .ok (.bipush 40, 2) := by decide +kernel
theorem dX8_init_39 : decode cX8_init 39 = .ok (.newarray .long, 2) := by decide +kernel
theorem dX8_init_41 : decode cX8_init 41 = .ok (.putfield 25, 3) := by decide +kernel
theorem dX8_init_44 : decode cX8_init 44 = .ok (.aload_n 0, 1) := by decide +kernel
theorem dX8_init_45 : decode cX8_init 45 = .ok (.bipush 40, 2) := by decide +kernel
theorem dX8_init_47 : decode cX8_init 47 = .ok (.newarray .int, 2) := by decide +kernel
theorem dX8_init_49 : decode cX8_init 49 = .ok (.putfield 28, 3) := by decide +kernel
theorem dX8_init_52 : decode cX8_init 52 = .ok (.aload_n 0, 1) := by decide +kernel
theorem dX8_init_53 : decode cX8_init 53 = .ok (.bipush 40, 2) := by decide +kernel
theorem dX8_init_55 : decode cX8_init 55 = .ok (.newarray .int, 2) := by decide +kernel
theorem dX8_init_57 : decode cX8_init 57 = .ok (.putfield 31, 3) := by decide +kernel
theorem dX8_init_60 : decode cX8_init 60 = .ok (.aload_n 0, 1) := by decide +kernel
theorem dX8_init_61 : decode cX8_init 61 = .ok (.bipush 20, 2) := by decide +kernel
theorem dX8_init_63 : decode cX8_init 63 = .ok (.newarray .long, 2) := by decide +kernel
theorem dX8_init_65 : decode cX8_init 65 = .ok (.putfield 34, 3) := by decide +kernel
theorem dX8_init_68 : decode cX8_init 68 = .ok (.aload_n 0, 1) := by decide +kernel
theorem dX8_init_69 : decode cX8_init 69 = .ok (.bipush 41, 2) := by decide +kernel
theorem dX8_init_71 : decode cX8_init 71 = .ok (.newarray .long, 2) := by decide +kernel
theorem dX8_init_73 : decode cX8_init 73 = .ok (.putfield 37, 3) := by decide +kernel
theorem dX8_init_76 : decode cX8_init 76 = .ok (.return_, 1) := by decide +kernel
theorem dX8_clear_0 : decode cX8_clear 0 = .ok (.aload_n 0, 1) := by decide +kernel
theorem dX8_clear_1 : decode cX8_clear 1 = .ok (.iconst 0, 1) := by decide +kernel
theorem dX8_clear_2 : decode cX8_clear 2 = .ok (.putfield 40, 3) := by decide +kernel
theorem dX8_clear_5 : decode cX8_clear 5 = .ok (.return_, 1) := by decide +kernel
theorem dX8_include_0 : decode cX8_include 0 = .ok (.aload_n 0, 1) := by decide +kernel
theorem dX8_include_1 : decode cX8_include 1 = .ok (.getfield 40, 3) := by decide +kernel
theorem dX8_include_4 : decode cX8_include 4 = .ok (.bipush 40, 2) := by decide +kernel
theorem dX8_include_6 : decode cX8_include 6 = .ok (.if_icmp .lt 4, 3) := by decide +kernel
theorem dX8_include_9 : decode cX8_include 9 = .ok (.return_, 1) := by decide +kernel
theorem dX8_include_10 : decode cX8_include 10 = .ok (.aload_n 0, 1) := by decide +kernel
theorem dX8_include_11 : decode cX8_include 11 = .ok (.getfield 9, 3) := by decide +kernel
theorem dX8_include_14 : decode cX8_include 14 = .ok (.aload_n 0, 1) := by decide +kernel
theorem dX8_include_15 : decode cX8_include 15 = .ok (.getfield 40, 3) := by decide +kernel
theorem dX8_include_18 : decode cX8_include 18 = .ok (.iload_n 1, 1) := by decide +kernel
theorem dX8_include_19 : decode cX8_include 19 = .ok (.iastore, 1) := by decide +kernel
theorem dX8_include_20 : decode cX8_include 20 = .ok (.aload_n 0, 1) := by decide +kernel
theorem dX8_include_21 : decode cX8_include 21 = .ok (.getfield 15, 3) := by decide +kernel
theorem dX8_include_24 : decode cX8_include 24 = .ok (.aload_n 0, 1) := by decide +kernel
theorem dX8_include_25 : decode cX8_include 25 = .ok (.getfield 40, 3) := by decide +kernel
theorem dX8_include_28 : decode cX8_include 28 = .ok (.iload_n 2, 1) := by decide +kernel
theorem dX8_include_29 : decode cX8_include 29 = .ok (.iastore, 1) := by decide +kernel
theorem dX8_include_30 : decode cX8_include 30 = .ok (.aload_n 0, 1) := by decide +kernel
theorem dX8_include_31 : decode cX8_include 31 = .ok (.getfield 18, 3) := by decide +kernel
theorem dX8_include_34 : decode cX8_include 34 = .ok (.aload_n 0, 1) := by decide +kernel
theorem dX8_include_35 : decode cX8_include 35 = .ok (.getfield 40, 3) := by decide +kernel
theorem dX8_include_38 : decode cX8_include 38 = .ok (.lconst 0, 1) := by decide +kernel
theorem dX8_include_39 : decode cX8_include 39 = .ok (.lastore, 1) := by decide +kernel
theorem dX8_include_40 : decode cX8_include 40 = .ok (.aload_n 0, 1) := by decide +kernel
theorem dX8_include_41 : decode cX8_include 41 = .ok (.getfield 22, 3) := by decide +kernel
theorem dX8_include_44 : decode cX8_include 44 = .ok (.aload_n 0, 1) := by decide +kernel
theorem dX8_include_45 : decode cX8_include 45 = .ok (.getfield 40, 3) := by decide +kernel
theorem dX8_include_48 : decode cX8_include 48 = .ok (.lconst 0, 1) := by decide +kernel
theorem dX8_include_49 : decode cX8_include 49 = .ok (.lastore, 1) := by decide +kernel
theorem dX8_include_50 : decode cX8_include 50 = .ok (.aload_n 0, 1) := by decide +kernel
theorem dX8_include_51 : decode cX8_include 51 = .ok (.dup, 1) := by decide +kernel
theorem dX8_include_52 : decode cX8_include 52 = .ok (.getfield 40, 3) := by decide +kernel
theorem dX8_include_55 : decode cX8_include 55 = .ok (.iconst 1, 1) := by decide +kernel
theorem dX8_include_56 : decode cX8_include 56 = .ok (.iadd, 1) := by decide +kernel
theorem dX8_include_57 : decode cX8_include 57 = .ok (.putfield 40, 3) := by decide +kernel
theorem dX8_include_60 : decode cX8_include 60 = .ok (.return_, 1) := by decide +kernel
theorem dX8_setAbove_0 : decode cX8_setAbove 0 = .ok (.aload_n 0, 1) := by decide +kernel
theorem dX8_setAbove_1 : decode cX8_setAbove 1 = .ok (.iload_n 1, 1) := by decide +kernel
theorem dX8_setAbove_2 : decode cX8_setAbove 2 = .ok (.invokevirtual 44, 3) := by decide +kernel
theorem dX8_setAbove_5 : decode cX8_setAbove 5 = .ok (.ifCond .eq 35, 3) := by decide +kernel
theorem dX8_setAbove_8 : decode cX8_setAbove 8 = .ok (.aload_n 0, 1) := by decide +kernel
theorem dX8_setAbove_9 : decode cX8_setAbove 9 = .ok (.iload_n 2, 1) := by decide +kernel
theorem dX8_setAbove_10 : decode cX8_setAbove 10 = .ok (.invokevirtual 44, 3) := by decide +kernel
theorem dX8_setAbove_13 : decode cX8_setAbove 13 = .ok (.ifCond .eq 27, 3) := by decide +kernel
theorem dX8_setAbove_16 : decode cX8_setAbove 16 = .ok (.aload_n 0, 1) := by decide +kernel
theorem dX8_setAbove_17 : decode cX8_setAbove 17 = .ok (.getfield 18, 3) := by decide +kernel
theorem dX8_setAbove_20 : decode cX8_setAbove 20 = .ok (.iload_n 2, 1) := by decide +kernel
theorem dX8_setAbove_21 : decode cX8_setAbove 21 = .ok (.dup2, 1) := by decide +kernel
theorem dX8_setAbove_22 : decode cX8_setAbove 22 = .ok (.laload, 1) := by decide +kernel
theorem dX8_setAbove_23 : decode cX8_setAbove 23 = .ok (.lconst 1, 1) := by decide +kernel
theorem dX8_setAbove_24 : decode cX8_setAbove 24 = .ok (.iload_n 1, 1) := by decide +kernel
theorem dX8_setAbove_25 : decode cX8_setAbove 25 = .ok (.lshl, 1) := by decide +kernel
theorem dX8_setAbove_26 : decode cX8_setAbove 26 = .ok (.lor, 1) := by decide +kernel
theorem dX8_setAbove_27 : decode cX8_setAbove 27 = .ok (.lastore, 1) := by decide +kernel
theorem dX8_setAbove_28 : decode cX8_setAbove 28 = .ok (.aload_n 0, 1) := by decide +kernel
theorem dX8_setAbove_29 : decode cX8_setAbove 29 = .ok (.getfield 22, 3) := by decide +kernel
theorem dX8_setAbove_32 : decode cX8_setAbove 32 = .ok (.iload_n 1, 1) := by decide +kernel
theorem dX8_setAbove_33 : decode cX8_setAbove 33 = .ok (.dup2, 1) := by decide +kernel
theorem dX8_setAbove_34 : decode cX8_setAbove 34 = .ok (.laload, 1) := by decide +kernel
theorem dX8_setAbove_35 : decode cX8_setAbove 35 = .ok (.lconst 1, 1) := by decide +kernel
theorem dX8_setAbove_36 : decode cX8_setAbove 36 = .ok (.iload_n 2, 1) := by decide +kernel
theorem dX8_setAbove_37 : decode cX8_setAbove 37 = .ok (.lshl, 1) := by decide +kernel
theorem dX8_setAbove_38 : decode cX8_setAbove 38 = .ok (.lor, 1) := by decide +kernel
theorem dX8_setAbove_39 : decode cX8_setAbove 39 = .ok (.lastore, 1) := by decide +kernel
theorem dX8_setAbove_40 : decode cX8_setAbove 40 = .ok (.return_, 1) := by decide +kernel
theorem dX8_isAbove_0 : decode cX8_isAbove 0 = .ok (.aload_n 0, 1) := by decide +kernel
theorem dX8_isAbove_1 : decode cX8_isAbove 1 = .ok (.iload_n 1, 1) := by decide +kernel
theorem dX8_isAbove_2 : decode cX8_isAbove 2 = .ok (.invokevirtual 44, 3) := by decide +kernel
theorem dX8_isAbove_5 : decode cX8_isAbove 5 = .ok (.ifCond .eq 28, 3) := by decide +kernel
theorem dX8_isAbove_8 : decode cX8_isAbove 8 = .ok (.aload_n 0, 1) := by decide +kernel
theorem dX8_isAbove_9 : decode cX8_isAbove 9 = .ok (.iload_n 2, 1) := by decide +kernel
theorem dX8_isAbove_10 : decode cX8_isAbove 10 = .ok (.invokevirtual 44, 3) := by decide +kernel
theorem dX8_isAbove_13 : decode cX8_isAbove 13 = .ok (.ifCond .eq 20, 3) := by decide +kernel
theorem dX8_isAbove_16 : decode cX8_isAbove 16 = .ok (.aload_n 0, 1) := by decide +kernel
theorem dX8_isAbove_17 : decode cX8_isAbove 17 = .ok (.getfield 18, 3) := by decide +kernel
theorem dX8_isAbove_20 : decode cX8_isAbove 20 = .ok (.iload_n 2, 1) := by decide +kernel
theorem dX8_isAbove_21 : decode cX8_isAbove 21 = .ok (.laload, 1) := by decide +kernel
theorem dX8_isAbove_22 : decode cX8_isAbove 22 = .ok (.iload_n 1, 1) := by decide +kernel
theorem dX8_isAbove_23 : decode cX8_isAbove 23 = .ok (.invokestatic 48, 3) := by decide +kernel
theorem dX8_isAbove_26 : decode cX8_isAbove 26 = .ok (.ifCond .eq 7, 3) := by decide +kernel
theorem dX8_isAbove_29 : decode cX8_isAbove 29 = .ok (.iconst 1, 1) := by decide +kernel
theorem dX8_isAbove_30 : decode cX8_isAbove 30 = .ok (.goto 4, 3) := by decide +kernel
theorem dX8_isAbove_33 : decode cX8_isAbove 33 = .ok (.iconst 0, 1) := by decide +kernel
theorem dX8_isAbove_34 : decode cX8_isAbove 34 = .ok (.ireturn, 1) := by decide +kernel
theorem dX8_isFree_0 : decode cX8_isFree 0 = .ok (.aload_n 0, 1) := by decide +kernel
theorem dX8_isFree_1 : decode cX8_isFree 1 = .ok (.iload_n 1, 1) := by decide +kernel
theorem dX8_isFree_2 : decode cX8_isFree 2 = .ok (.invokevirtual 52, 3) := by decide +kernel
theorem dX8_isFree_5 : decode cX8_isFree 5 = .ok (.istore_n 2, 1) := by decide +kernel
theorem dX8_isFree_6 : decode cX8_isFree 6 = .ok (.iload_n 2, 1) := by decide +kernel
theorem dX8_isFree_7 : decode cX8_isFree 7 = .ok (.iconst (-1), 1) := by decide +kernel
theorem dX8_isFree_8 : decode cX8_isFree 8 = .ok (.if_icmp .eq 18, 3) := by decide +kernel
theorem dX8_isFree_11 : decode cX8_isFree 11 = .ok (.aload_n 0, 1) := by decide +kernel
theorem dX8_isFree_12 : decode cX8_isFree 12 = .ok (.getfield 18, 3) := by decide +kernel
theorem dX8_isFree_15 : decode cX8_isFree 15 = .ok (.iload_n 2, 1) := by decide +kernel
theorem dX8_isFree_16 : decode cX8_isFree 16 = .ok (.laload, 1) := by decide +kernel
theorem dX8_isFree_17 : decode cX8_isFree 17 = .ok (.lconst 0, 1) := by decide +kernel
theorem dX8_isFree_18 : decode cX8_isFree 18 = .ok (.lcmp, 1) := by decide +kernel
theorem dX8_isFree_19 : decode cX8_isFree 19 = .ok (.ifCond .ne 7, 3) := by decide +kernel
theorem dX8_isFree_22 : decode cX8_isFree 22 = .ok (.iconst 1, 1) := by decide +kernel
theorem dX8_isFree_23 : decode cX8_isFree 23 = .ok (.goto 4, 3) := by decide +kernel
theorem dX8_isFree_26 : decode cX8_isFree 26 = .ok (.iconst 0, 1) := by decide +kernel
theorem dX8_isFree_27 : decode cX8_isFree 27 = .ok (.ireturn, 1) := by decide +kernel
theorem dX8_isPlace_0 : decode cX8_isPlace 0 = .ok (.iload_n 1, 1) := by decide +kernel
theorem dX8_isPlace_1 : decode cX8_isPlace 1 = .ok (.ifCond .lt 15, 3) := by decide +kernel
theorem dX8_isPlace_4 : decode cX8_isPlace 4 = .ok (.iload_n 1, 1) := by decide +kernel
theorem dX8_isPlace_5 : decode cX8_isPlace 5 = .ok (.aload_n 0, 1) := by decide +kernel
theorem dX8_isPlace_6 : decode cX8_isPlace 6 = .ok (.getfield 40, 3) := by decide +kernel
theorem dX8_isPlace_9 : decode cX8_isPlace 9 = .ok (.if_icmp .ge 7, 3) := by decide +kernel
theorem dX8_isPlace_12 : decode cX8_isPlace 12 = .ok (.iconst 1, 1) := by decide +kernel
theorem dX8_isPlace_13 : decode cX8_isPlace 13 = .ok (.goto 4, 3) := by decide +kernel
theorem dX8_isPlace_16 : decode cX8_isPlace 16 = .ok (.iconst 0, 1) := by decide +kernel
theorem dX8_isPlace_17 : decode cX8_isPlace 17 = .ok (.ireturn, 1) := by decide +kernel
theorem dX8_placeOf_0 : decode cX8_placeOf 0 = .ok (.iconst 0, 1) := by decide +kernel
theorem dX8_placeOf_1 : decode cX8_placeOf 1 = .ok (.istore_n 2, 1) := by decide +kernel
theorem dX8_placeOf_2 : decode cX8_placeOf 2 = .ok (.iload_n 2, 1) := by decide +kernel
theorem dX8_placeOf_3 : decode cX8_placeOf 3 = .ok (.aload_n 0, 1) := by decide +kernel
theorem dX8_placeOf_4 : decode cX8_placeOf 4 = .ok (.getfield 40, 3) := by decide +kernel
theorem dX8_placeOf_7 : decode cX8_placeOf 7 = .ok (.if_icmp .ge 21, 3) := by decide +kernel
theorem dX8_placeOf_10 : decode cX8_placeOf 10 = .ok (.aload_n 0, 1) := by decide +kernel
theorem dX8_placeOf_11 : decode cX8_placeOf 11 = .ok (.getfield 9, 3) := by decide +kernel
theorem dX8_placeOf_14 : decode cX8_placeOf 14 = .ok (.iload_n 2, 1) := by decide +kernel
theorem dX8_placeOf_15 : decode cX8_placeOf 15 = .ok (.iaload, 1) := by decide +kernel
theorem dX8_placeOf_16 : decode cX8_placeOf 16 = .ok (.iload_n 1, 1) := by decide +kernel
theorem dX8_placeOf_17 : decode cX8_placeOf 17 = .ok (.if_icmp .ne 5, 3) := by decide +kernel
theorem dX8_placeOf_20 : decode cX8_placeOf 20 = .ok (.iload_n 2, 1) := by decide +kernel
theorem dX8_placeOf_21 : decode cX8_placeOf 21 = .ok (.ireturn, 1) := by decide +kernel
theorem dX8_placeOf_22 : decode cX8_placeOf 22 = .ok (.iinc 2 1, 3) := by decide +kernel
theorem dX8_placeOf_25 : decode cX8_placeOf 25 = .ok (.goto (-23), 3) := by decide +kernel
theorem dX8_placeOf_28 : decode cX8_placeOf 28 = .ok (.iconst (-1), 1) := by decide +kernel
theorem dX8_placeOf_29 : decode cX8_placeOf 29 = .ok (.ireturn, 1) := by decide +kernel
theorem dX8_numberAt_0 : decode cX8_numberAt 0 = .ok (.aload_n 0, 1) := by decide +kernel
theorem dX8_numberAt_1 : decode cX8_numberAt 1 = .ok (.iload_n 1, 1) := by decide +kernel
theorem dX8_numberAt_2 : decode cX8_numberAt 2 = .ok (.invokevirtual 44, 3) := by decide +kernel
theorem dX8_numberAt_5 : decode cX8_numberAt 5 = .ok (.ifCond .eq 12, 3) := by decide +kernel
theorem dX8_numberAt_8 : decode cX8_numberAt 8 = .ok (.aload_n 0, 1) := by decide +kernel
theorem dX8_numberAt_9 : decode cX8_numberAt 9 = .ok (.getfield 9, 3) := by decide +kernel
theorem dX8_numberAt_12 : decode cX8_numberAt 12 = .ok (.iload_n 1, 1) := by decide +kernel
theorem dX8_numberAt_13 : decode cX8_numberAt 13 = .ok (.iaload, 1) := by decide +kernel
theorem dX8_numberAt_14 : decode cX8_numberAt 14 = .ok (.goto 4, 3) := by decide +kernel
theorem dX8_numberAt_17 : decode cX8_numberAt 17 = .ok (.iconst (-1), 1) := by decide +kernel
theorem dX8_numberAt_18 : decode cX8_numberAt 18 = .ok (.ireturn, 1) := by decide +kernel
theorem dX8_everyPlace_0 : decode cX8_everyPlace 0 = .ok (.lconst 1, 1) := by decide +kernel
theorem dX8_everyPlace_1 : decode cX8_everyPlace 1 = .ok (.aload_n 0, 1) := by decide +kernel
theorem dX8_everyPlace_2 : decode cX8_everyPlace 2 = .ok (.getfield 40, 3) := by decide +kernel
theorem dX8_everyPlace_5 : decode cX8_everyPlace 5 = .ok (.lshl, 1) := by decide +kernel
theorem dX8_everyPlace_6 : decode cX8_everyPlace 6 = .ok (.lconst 1, 1) := by decide +kernel
theorem dX8_everyPlace_7 : decode cX8_everyPlace 7 = .ok (.lsub, 1) := by decide +kernel
theorem dX8_everyPlace_8 : decode cX8_everyPlace 8 = .ok (.lreturn, 1) := by decide +kernel
theorem dX8_pairs_0 : decode cX8_pairs 0 = .ok (.iconst 0, 1) := by decide +kernel
theorem dX8_pairs_1 : decode cX8_pairs 1 = .ok (.istore_n 1, 1) := by decide +kernel
theorem dX8_pairs_2 : decode cX8_pairs 2 = .ok (.iconst 0, 1) := by decide +kernel
theorem dX8_pairs_3 : decode cX8_pairs 3 = .ok (.istore_n 2, 1) := by decide +kernel
theorem dX8_pairs_4 : decode cX8_pairs 4 = .ok (.iload_n 2, 1) := by decide +kernel
theorem dX8_pairs_5 : decode cX8_pairs 5 = .ok (.aload_n 0, 1) := by decide +kernel
theorem dX8_pairs_6 : decode cX8_pairs 6 = .ok (.getfield 40, 3) := by decide +kernel
theorem dX8_pairs_9 : decode cX8_pairs 9 = .ok (.if_icmp .ge 21, 3) := by decide +kernel
theorem dX8_pairs_12 : decode cX8_pairs 12 = .ok (.iload_n 1, 1) := by decide +kernel
theorem dX8_pairs_13 : decode cX8_pairs 13 = .ok (.aload_n 0, 1) := by decide +kernel
theorem dX8_pairs_14 : decode cX8_pairs 14 = .ok (.getfield 18, 3) := by decide +kernel
theorem dX8_pairs_17 : decode cX8_pairs 17 = .ok (.iload_n 2, 1) := by decide +kernel
theorem dX8_pairs_18 : decode cX8_pairs 18 = .ok (.laload, 1) := by decide +kernel
theorem dX8_pairs_19 : decode cX8_pairs 19 = .ok (.invokestatic 56, 3) := by decide +kernel
theorem dX8_pairs_22 : decode cX8_pairs 22 = .ok (.iadd, 1) := by decide +kernel
theorem dX8_pairs_23 : decode cX8_pairs 23 = .ok (.istore_n 1, 1) := by decide +kernel
theorem dX8_pairs_24 : decode cX8_pairs 24 = .ok (.iinc 2 1, 3) := by decide +kernel
theorem dX8_pairs_27 : decode cX8_pairs 27 = .ok (.goto (-23), 3) := by decide +kernel
theorem dX8_pairs_30 : decode cX8_pairs 30 = .ok (.iload_n 1, 1) := by decide +kernel
theorem dX8_pairs_31 : decode cX8_pairs 31 = .ok (.ireturn, 1) := by decide +kernel
theorem dX8_settle_0 : decode cX8_settle 0 = .ok (.aload_n 0, 1) := by decide +kernel
theorem dX8_settle_1 : decode cX8_settle 1 = .ok (.invokevirtual 62, 3) := by decide +kernel
theorem dX8_settle_4 : decode cX8_settle 4 = .ok (.aload_n 0, 1) := by decide +kernel
theorem dX8_settle_5 : decode cX8_settle 5 = .ok (.invokevirtual 65, 3) := by decide +kernel
theorem dX8_settle_8 : decode cX8_settle 8 = .ok (.aload_n 0, 1) := by decide +kernel
theorem dX8_settle_9 : decode cX8_settle 9 = .ok (.invokevirtual 68, 3) := by decide +kernel
theorem dX8_settle_12 : decode cX8_settle 12 = .ok (.return_, 1) := by decide +kernel
theorem dX8_liftInOrder_0 : decode cX8_liftInOrder 0 = .ok (.aload_n 0, 1) := by decide +kernel
theorem dX8_liftInOrder_1 : decode cX8_liftInOrder 1 = .ok (.invokevirtual 71, 3) := by decide +kernel
theorem dX8_liftInOrder_4 : decode cX8_liftInOrder 4 = .ok (.lstore_n 1, 1) := by decide +kernel
theorem dX8_liftInOrder_5 : decode cX8_liftInOrder 5 = .ok (.aload_n 0, 1) := by decide +kernel
theorem dX8_liftInOrder_6 : decode cX8_liftInOrder 6 = .ok (.iconst 0, 1) := by decide +kernel
theorem dX8_liftInOrder_7 : decode cX8_liftInOrder 7 = .ok (.putfield 75, 3) := by decide +kernel
theorem dX8_liftInOrder_10 : decode cX8_liftInOrder 10 = .ok (.iconst 0, 1) := by decide +kernel
theorem dX8_liftInOrder_11 : decode cX8_liftInOrder 11 = .ok (.istore_n 3, 1) := by decide +kernel
theorem dX8_liftInOrder_12 : decode cX8_liftInOrder 12 = .ok (.iload_n 3, 1) := by decide +kernel
theorem dX8_liftInOrder_13 : decode cX8_liftInOrder 13 = .ok (.aload_n 0, 1) := by decide +kernel
theorem dX8_liftInOrder_14 : decode cX8_liftInOrder 14 = .ok (.getfield 40, 3) := by decide +kernel
theorem dX8_liftInOrder_17 : decode cX8_liftInOrder 17 = .ok (.if_icmp .ge 73, 3) := by decide +kernel
theorem dX8_liftInOrder_20 : decode cX8_liftInOrder 20 = .ok (.aload_n 0, 1) := by decide +kernel
theorem dX8_liftInOrder_21 : decode cX8_liftInOrder 21 = .ok (.lload_n 1, 1) := by decide +kernel
theorem dX8_liftInOrder_22 : decode cX8_liftInOrder 22 = .ok (.invokevirtual 78, 3) := by decide +kernel
theorem dX8_liftInOrder_25 : decode cX8_liftInOrder 25 = .ok (.istore 4, 2) := by decide +kernel
theorem dX8_liftInOrder_27 : decode cX8_liftInOrder 27 = .ok (.iload 4, 2) := by decide +kernel
theorem dX8_liftInOrder_29 : decode cX8_liftInOrder 29 = .ok (.iconst (-1), 1) := by decide +kernel
theorem dX8_liftInOrder_30 : decode cX8_liftInOrder 30 = .ok (.if_icmp .ne 4, 3) := by decide +kernel
theorem dX8_liftInOrder_33 : decode cX8_liftInOrder 33 = .ok (.return_, 1) := by decide +kernel
theorem dX8_liftInOrder_34 : decode cX8_liftInOrder 34 = .ok (.aload_n 0, 1) := by decide +kernel
theorem dX8_liftInOrder_35 : decode cX8_liftInOrder 35 = .ok (.getfield 31, 3) := by decide +kernel
theorem dX8_liftInOrder_38 : decode cX8_liftInOrder 38 = .ok (.iload 4, 2) := by decide +kernel
theorem dX8_liftInOrder_40 : decode cX8_liftInOrder 40 = .ok (.aload_n 0, 1) := by decide +kernel
theorem dX8_liftInOrder_41 : decode cX8_liftInOrder 41 = .ok (.aload_n 0, 1) := by decide +kernel
theorem dX8_liftInOrder_42 : decode cX8_liftInOrder 42 = .ok (.getfield 18, 3) := by decide +kernel
theorem dX8_liftInOrder_45 : decode cX8_liftInOrder 45 = .ok (.iload 4, 2) := by decide +kernel
theorem dX8_liftInOrder_47 : decode cX8_liftInOrder 47 = .ok (.laload, 1) := by decide +kernel
theorem dX8_liftInOrder_48 : decode cX8_liftInOrder 48 = .ok (.invokevirtual 81, 3) := by decide +kernel
theorem dX8_liftInOrder_51 : decode cX8_liftInOrder 51 = .ok (.iastore, 1) := by decide +kernel
theorem dX8_liftInOrder_52 : decode cX8_liftInOrder 52 = .ok (.aload_n 0, 1) := by decide +kernel
theorem dX8_liftInOrder_53 : decode cX8_liftInOrder 53 = .ok (.getfield 28, 3) := by decide +kernel
theorem dX8_liftInOrder_56 : decode cX8_liftInOrder 56 = .ok (.aload_n 0, 1) := by decide +kernel
theorem dX8_liftInOrder_57 : decode cX8_liftInOrder 57 = .ok (.getfield 75, 3) := by decide +kernel
theorem dX8_liftInOrder_60 : decode cX8_liftInOrder 60 = .ok (.iload 4, 2) := by decide +kernel
theorem dX8_liftInOrder_62 : decode cX8_liftInOrder 62 = .ok (.iastore, 1) := by decide +kernel
theorem dX8_liftInOrder_63 : decode cX8_liftInOrder 63 = .ok (.aload_n 0, 1) := by decide +kernel
theorem dX8_liftInOrder_64 : decode cX8_liftInOrder 64 = .ok (.dup, 1) := by decide +kernel
theorem dX8_liftInOrder_65 : decode cX8_liftInOrder 65 = .ok (.getfield 75, 3) := by decide +kernel
theorem dX8_liftInOrder_68 : decode cX8_liftInOrder 68 = .ok (.iconst 1, 1) := by decide +kernel
theorem dX8_liftInOrder_69 : decode cX8_liftInOrder 69 = .ok (.iadd, 1) := by decide +kernel
theorem dX8_liftInOrder_70 : decode cX8_liftInOrder 70 = .ok (.putfield 75, 3) := by decide +kernel
theorem dX8_liftInOrder_73 : decode cX8_liftInOrder 73 = .ok (.lload_n 1, 1) := by decide +kernel
theorem dX8_liftInOrder_74 : decode cX8_liftInOrder 74 = .ok (.lconst 1, 1) := by decide +kernel
theorem dX8_liftInOrder_75 : decode cX8_liftInOrder 75 = .ok (.iload 4, 2) := by decide +kernel
theorem dX8_liftInOrder_77 : decode cX8_liftInOrder 77 = .ok (.lshl, 1) := by decide +kernel
theorem dX8_liftInOrder_78 : decode cX8_liftInOrder 78 = .ok (.ldc2_w 84, 3) := by decide +kernel
theorem dX8_liftInOrder_81 : decode cX8_liftInOrder 81 = .ok (.lxor, 1) := by decide +kernel
theorem dX8_liftInOrder_82 : decode cX8_liftInOrder 82 = .ok (.land, 1) := by decide +kernel
theorem dX8_liftInOrder_83 : decode cX8_liftInOrder 83 = .ok (.lstore_n 1, 1) := by decide +kernel
theorem dX8_liftInOrder_84 : decode cX8_liftInOrder 84 = .ok (.iinc 3 1, 3) := by decide +kernel
theorem dX8_liftInOrder_87 : decode cX8_liftInOrder 87 = .ok (.goto (-75), 3) := by decide +kernel
theorem dX8_liftInOrder_90 : decode cX8_liftInOrder 90 = .ok (.return_, 1) := by decide +kernel
theorem dX8_leastFree_0 : decode cX8_leastFree 0 = .ok (.iconst 0, 1) := by decide +kernel
theorem dX8_leastFree_1 : decode cX8_leastFree 1 = .ok (.istore_n 3, 1) := by decide +kernel
theorem dX8_leastFree_2 : decode cX8_leastFree 2 = .ok (.iload_n 3, 1) := by decide +kernel
theorem dX8_leastFree_3 : decode cX8_leastFree 3 = .ok (.aload_n 0, 1) := by decide +kernel
theorem dX8_leastFree_4 : decode cX8_leastFree 4 = .ok (.getfield 40, 3) := by decide +kernel
theorem dX8_leastFree_7 : decode cX8_leastFree 7 = .ok (.if_icmp .ge 32, 3) := by decide +kernel
theorem dX8_leastFree_10 : decode cX8_leastFree 10 = .ok (.lload_n 1, 1) := by decide +kernel
theorem dX8_leastFree_11 : decode cX8_leastFree 11 = .ok (.iload_n 3, 1) := by decide +kernel
theorem dX8_leastFree_12 : decode cX8_leastFree 12 = .ok (.invokestatic 48, 3) := by decide +kernel
theorem dX8_leastFree_15 : decode cX8_leastFree 15 = .ok (.ifCond .eq 18, 3) := by decide +kernel
theorem dX8_leastFree_18 : decode cX8_leastFree 18 = .ok (.aload_n 0, 1) := by decide +kernel
theorem dX8_leastFree_19 : decode cX8_leastFree 19 = .ok (.getfield 18, 3) := by decide +kernel
theorem dX8_leastFree_22 : decode cX8_leastFree 22 = .ok (.iload_n 3, 1) := by decide +kernel
theorem dX8_leastFree_23 : decode cX8_leastFree 23 = .ok (.laload, 1) := by decide +kernel
theorem dX8_leastFree_24 : decode cX8_leastFree 24 = .ok (.lload_n 1, 1) := by decide +kernel
theorem dX8_leastFree_25 : decode cX8_leastFree 25 = .ok (.land, 1) := by decide +kernel
theorem dX8_leastFree_26 : decode cX8_leastFree 26 = .ok (.lconst 0, 1) := by decide +kernel
theorem dX8_leastFree_27 : decode cX8_leastFree 27 = .ok (.lcmp, 1) := by decide +kernel
theorem dX8_leastFree_28 : decode cX8_leastFree 28 = .ok (.ifCond .ne 5, 3) := by decide +kernel
theorem dX8_leastFree_31 : decode cX8_leastFree 31 = .ok (.iload_n 3, 1) := by decide +kernel
theorem dX8_leastFree_32 : decode cX8_leastFree 32 = .ok (.ireturn, 1) := by decide +kernel
theorem dX8_leastFree_33 : decode cX8_leastFree 33 = .ok (.iinc 3 1, 3) := by decide +kernel
theorem dX8_leastFree_36 : decode cX8_leastFree 36 = .ok (.goto (-34), 3) := by decide +kernel
theorem dX8_leastFree_39 : decode cX8_leastFree 39 = .ok (.iconst (-1), 1) := by decide +kernel
theorem dX8_leastFree_40 : decode cX8_leastFree 40 = .ok (.ireturn, 1) := by decide +kernel
theorem dX8_layerUnder_0 : decode cX8_layerUnder 0 = .ok (.iconst 0, 1) := by decide +kernel
theorem dX8_layerUnder_1 : decode cX8_layerUnder 1 = .ok (.istore_n 3, 1) := by decide +kernel
theorem dX8_layerUnder_2 : decode cX8_layerUnder 2 = .ok (.iconst 0, 1) := by decide +kernel
theorem dX8_layerUnder_3 : decode cX8_layerUnder 3 = .ok (.istore 4, 2) := by decide +kernel
theorem dX8_layerUnder_5 : decode cX8_layerUnder 5 = .ok (.iload 4, 2) := by decide +kernel
theorem dX8_layerUnder_7 : decode cX8_layerUnder 7 = .ok (.aload_n 0, 1) := by decide +kernel
theorem dX8_layerUnder_8 : decode cX8_layerUnder 8 = .ok (.getfield 40, 3) := by decide +kernel
theorem dX8_layerUnder_11 : decode cX8_layerUnder 11 = .ok (.if_icmp .ge 32, 3) := by decide +kernel
theorem dX8_layerUnder_14 : decode cX8_layerUnder 14 = .ok (.lload_n 1, 1) := by decide +kernel
theorem dX8_layerUnder_15 : decode cX8_layerUnder 15 = .ok (.iload 4, 2) := by decide +kernel
theorem dX8_layerUnder_17 : decode cX8_layerUnder 17 = .ok (.invokestatic 48, 3) := by decide +kernel
theorem dX8_layerUnder_20 : decode cX8_layerUnder 20 = .ok (.ifCond .eq 17, 3) := by decide +kernel
theorem dX8_layerUnder_23 : decode cX8_layerUnder 23 = .ok (.iload_n 3, 1) := by decide +kernel
theorem dX8_layerUnder_24 : decode cX8_layerUnder 24 = .ok (.aload_n 0, 1) := by decide +kernel
theorem dX8_layerUnder_25 : decode cX8_layerUnder 25 = .ok (.getfield 31, 3) := by decide +kernel
theorem dX8_layerUnder_28 : decode cX8_layerUnder 28 = .ok (.iload 4, 2) := by decide +kernel
theorem dX8_layerUnder_30 : decode cX8_layerUnder 30 = .ok (.iaload, 1) := by decide +kernel
theorem dX8_layerUnder_31 : decode cX8_layerUnder 31 = .ok (.iconst 1, 1) := by decide +kernel
theorem dX8_layerUnder_32 : decode cX8_layerUnder 32 = .ok (.iadd, 1) := by decide +kernel
theorem dX8_layerUnder_33 : decode cX8_layerUnder 33 = .ok (.invokestatic 86, 3) := by decide +kernel
theorem dX8_layerUnder_36 : decode cX8_layerUnder 36 = .ok (.istore_n 3, 1) := by decide +kernel
theorem dX8_layerUnder_37 : decode cX8_layerUnder 37 = .ok (.iinc 4 1, 3) := by decide +kernel
theorem dX8_layerUnder_40 : decode cX8_layerUnder 40 = .ok (.goto (-35), 3) := by decide +kernel
theorem dX8_layerUnder_43 : decode cX8_layerUnder 43 = .ok (.iload_n 3, 1) := by decide +kernel
theorem dX8_layerUnder_44 : decode cX8_layerUnder 44 = .ok (.ireturn, 1) := by decide +kernel
theorem dX8_findReach_0 : decode cX8_findReach 0 = .ok (.iconst 0, 1) := by decide +kernel
theorem dX8_findReach_1 : decode cX8_findReach 1 = .ok (.istore_n 1, 1) := by decide +kernel
theorem dX8_findReach_2 : decode cX8_findReach 2 = .ok (.iload_n 1, 1) := by decide +kernel
theorem dX8_findReach_3 : decode cX8_findReach 3 = .ok (.aload_n 0, 1) := by decide +kernel
theorem dX8_findReach_4 : decode cX8_findReach 4 = .ok (.getfield 40, 3) := by decide +kernel
theorem dX8_findReach_7 : decode cX8_findReach 7 = .ok (.if_icmp .ge 21, 3) := by decide +kernel
theorem dX8_findReach_10 : decode cX8_findReach 10 = .ok (.aload_n 0, 1) := by decide +kernel
theorem dX8_findReach_11 : decode cX8_findReach 11 = .ok (.getfield 25, 3) := by decide +kernel
theorem dX8_findReach_14 : decode cX8_findReach 14 = .ok (.iload_n 1, 1) := by decide +kernel
theorem dX8_findReach_15 : decode cX8_findReach 15 = .ok (.aload_n 0, 1) := by decide +kernel
theorem dX8_findReach_16 : decode cX8_findReach 16 = .ok (.getfield 18, 3) := by decide +kernel
theorem dX8_findReach_19 : decode cX8_findReach 19 = .ok (.iload_n 1, 1) := by decide +kernel
theorem dX8_findReach_20 : decode cX8_findReach 20 = .ok (.laload, 1) := by decide +kernel
theorem dX8_findReach_21 : decode cX8_findReach 21 = .ok (.lastore, 1) := by decide +kernel
theorem dX8_findReach_22 : decode cX8_findReach 22 = .ok (.iinc 1 1, 3) := by decide +kernel
theorem dX8_findReach_25 : decode cX8_findReach 25 = .ok (.goto (-23), 3) := by decide +kernel
theorem dX8_findReach_28 : decode cX8_findReach 28 = .ok (.iconst 0, 1) := by decide +kernel
theorem dX8_findReach_29 : decode cX8_findReach 29 = .ok (.istore_n 1, 1) := by decide +kernel
theorem dX8_findReach_30 : decode cX8_findReach 30 = .ok (.iload_n 1, 1) := by decide +kernel
theorem dX8_findReach_31 : decode cX8_findReach 31 = .ok (.aload_n 0, 1) := by decide +kernel
theorem dX8_findReach_32 : decode cX8_findReach 32 = .ok (.getfield 40, 3) := by decide +kernel
theorem dX8_findReach_35 : decode cX8_findReach 35 = .ok (.if_icmp .ge 53, 3) := by decide +kernel
theorem dX8_findReach_38 : decode cX8_findReach 38 = .ok (.iconst 0, 1) := by decide +kernel
theorem dX8_findReach_39 : decode cX8_findReach 39 = .ok (.istore_n 2, 1) := by decide +kernel
theorem dX8_findReach_40 : decode cX8_findReach 40 = .ok (.iload_n 2, 1) := by decide +kernel
theorem dX8_findReach_41 : decode cX8_findReach 41 = .ok (.aload_n 0, 1) := by decide +kernel
theorem dX8_findReach_42 : decode cX8_findReach 42 = .ok (.getfield 40, 3) := by decide +kernel
theorem dX8_findReach_45 : decode cX8_findReach 45 = .ok (.if_icmp .ge 37, 3) := by decide +kernel
theorem dX8_findReach_48 : decode cX8_findReach 48 = .ok (.aload_n 0, 1) := by decide +kernel
theorem dX8_findReach_49 : decode cX8_findReach 49 = .ok (.getfield 25, 3) := by decide +kernel
theorem dX8_findReach_52 : decode cX8_findReach 52 = .ok (.iload_n 2, 1) := by decide +kernel
theorem dX8_findReach_53 : decode cX8_findReach 53 = .ok (.laload, 1) := by decide +kernel
theorem dX8_findReach_54 : decode cX8_findReach 54 = .ok (.iload_n 1, 1) := by decide +kernel
theorem dX8_findReach_55 : decode cX8_findReach 55 = .ok (.invokestatic 48, 3) := by decide +kernel
theorem dX8_findReach_58 : decode cX8_findReach 58 = .ok (.ifCond .eq 18, 3) := by decide +kernel
theorem dX8_findReach_61 : decode cX8_findReach 61 = .ok (.aload_n 0, 1) := by decide +kernel
theorem dX8_findReach_62 : decode cX8_findReach 62 = .ok (.getfield 25, 3) := by decide +kernel
theorem dX8_findReach_65 : decode cX8_findReach 65 = .ok (.iload_n 2, 1) := by decide +kernel
theorem dX8_findReach_66 : decode cX8_findReach 66 = .ok (.dup2, 1) := by decide +kernel
theorem dX8_findReach_67 : decode cX8_findReach 67 = .ok (.laload, 1) := by decide +kernel
theorem dX8_findReach_68 : decode cX8_findReach 68 = .ok (.aload_n 0, 1) := by decide +kernel
theorem dX8_findReach_69 : decode cX8_findReach 69 = .ok (.getfield 25, 3) := by decide +kernel
theorem dX8_findReach_72 : decode cX8_findReach 72 = .ok (.iload_n 1, 1) := by decide +kernel
theorem dX8_findReach_73 : decode cX8_findReach 73 = .ok (.laload, 1) := by decide +kernel
theorem dX8_findReach_74 : decode cX8_findReach 74 = .ok (.lor, 1) := by decide +kernel
theorem dX8_findReach_75 : decode cX8_findReach 75 = .ok (.lastore, 1) := by decide +kernel
theorem dX8_findReach_76 : decode cX8_findReach 76 = .ok (.iinc 2 1, 3) := by decide +kernel
theorem dX8_findReach_79 : decode cX8_findReach 79 = .ok (.goto (-39), 3) := by decide +kernel
theorem dX8_findReach_82 : decode cX8_findReach 82 = .ok (.iinc 1 1, 3) := by decide +kernel
theorem dX8_findReach_85 : decode cX8_findReach 85 = .ok (.goto (-55), 3) := by decide +kernel
theorem dX8_findReach_88 : decode cX8_findReach 88 = .ok (.return_, 1) := by decide +kernel
theorem dX8_findKnots_0 : decode cX8_findKnots 0 = .ok (.aload_n 0, 1) := by decide +kernel
theorem dX8_findKnots_1 : decode cX8_findKnots 1 = .ok (.iconst 0, 1) := by decide +kernel
theorem dX8_findKnots_2 : decode cX8_findKnots 2 = .ok (.putfield 92, 3) := by decide +kernel
theorem dX8_findKnots_5 : decode cX8_findKnots 5 = .ok (.lconst 0, 1) := by decide +kernel
theorem dX8_findKnots_6 : decode cX8_findKnots 6 = .ok (.lstore_n 1, 1) := by decide +kernel
theorem dX8_findKnots_7 : decode cX8_findKnots 7 = .ok (.iconst 0, 1) := by decide +kernel
theorem dX8_findKnots_8 : decode cX8_findKnots 8 = .ok (.istore_n 3, 1) := by decide +kernel
theorem dX8_findKnots_9 : decode cX8_findKnots 9 = .ok (.iload_n 3, 1) := by decide +kernel
theorem dX8_findKnots_10 : decode cX8_findKnots 10 = .ok (.aload_n 0, 1) := by decide +kernel
theorem dX8_findKnots_11 : decode cX8_findKnots 11 = .ok (.getfield 40, 3) := by decide +kernel
theorem dX8_findKnots_14 : decode cX8_findKnots 14 = .ok (.if_icmp .ge 75, 3) := by decide +kernel
theorem dX8_findKnots_17 : decode cX8_findKnots 17 = .ok (.lload_n 1, 1) := by decide +kernel
theorem dX8_findKnots_18 : decode cX8_findKnots 18 = .ok (.iload_n 3, 1) := by decide +kernel
theorem dX8_findKnots_19 : decode cX8_findKnots 19 = .ok (.invokestatic 48, 3) := by decide +kernel
theorem dX8_findKnots_22 : decode cX8_findKnots 22 = .ok (.ifCond .ne 61, 3) := by decide +kernel
theorem dX8_findKnots_25 : decode cX8_findKnots 25 = .ok (.aload_n 0, 1) := by decide +kernel
theorem dX8_findKnots_26 : decode cX8_findKnots 26 = .ok (.getfield 25, 3) := by decide +kernel
theorem dX8_findKnots_29 : decode cX8_findKnots 29 = .ok (.iload_n 3, 1) := by decide +kernel
theorem dX8_findKnots_30 : decode cX8_findKnots 30 = .ok (.laload, 1) := by decide +kernel
theorem dX8_findKnots_31 : decode cX8_findKnots 31 = .ok (.iload_n 3, 1) := by decide +kernel
theorem dX8_findKnots_32 : decode cX8_findKnots 32 = .ok (.invokestatic 48, 3) := by decide +kernel
theorem dX8_findKnots_35 : decode cX8_findKnots 35 = .ok (.ifCond .eq 48, 3) := by decide +kernel
theorem dX8_findKnots_38 : decode cX8_findKnots 38 = .ok (.aload_n 0, 1) := by decide +kernel
theorem dX8_findKnots_39 : decode cX8_findKnots 39 = .ok (.getfield 92, 3) := by decide +kernel
theorem dX8_findKnots_42 : decode cX8_findKnots 42 = .ok (.aload_n 0, 1) := by decide +kernel
theorem dX8_findKnots_43 : decode cX8_findKnots 43 = .ok (.getfield 34, 3) := by decide +kernel
theorem dX8_findKnots_46 : decode cX8_findKnots 46 = .ok (.arraylength, 1) := by decide +kernel
theorem dX8_findKnots_47 : decode cX8_findKnots 47 = .ok (.if_icmp .ge 36, 3) := by decide +kernel
theorem dX8_findKnots_50 : decode cX8_findKnots 50 = .ok (.aload_n 0, 1) := by decide +kernel
theorem dX8_findKnots_51 : decode cX8_findKnots 51 = .ok (.iload_n 3, 1) := by decide +kernel
theorem dX8_findKnots_52 : decode cX8_findKnots 52 = .ok (.invokevirtual 95, 3) := by decide +kernel
theorem dX8_findKnots_55 : decode cX8_findKnots 55 = .ok (.lstore 4, 2) := by decide +kernel
theorem dX8_findKnots_57 : decode cX8_findKnots 57 = .ok (.aload_n 0, 1) := by decide +kernel
theorem dX8_findKnots_58 : decode cX8_findKnots 58 = .ok (.getfield 34, 3) := by decide +kernel
theorem dX8_findKnots_61 : decode cX8_findKnots 61 = .ok (.aload_n 0, 1) := by decide +kernel
theorem dX8_findKnots_62 : decode cX8_findKnots 62 = .ok (.getfield 92, 3) := by decide +kernel
theorem dX8_findKnots_65 : decode cX8_findKnots 65 = .ok (.lload 4, 2) := by decide +kernel
theorem dX8_findKnots_67 : decode cX8_findKnots 67 = .ok (.lastore, 1) := by decide +kernel
theorem dX8_findKnots_68 : decode cX8_findKnots 68 = .ok (.aload_n 0, 1) := by decide +kernel
theorem dX8_findKnots_69 : decode cX8_findKnots 69 = .ok (.dup, 1) := by decide +kernel
theorem dX8_findKnots_70 : decode cX8_findKnots 70 = .ok (.getfield 92, 3) := by decide +kernel
theorem dX8_findKnots_73 : decode cX8_findKnots 73 = .ok (.iconst 1, 1) := by decide +kernel
theorem dX8_findKnots_74 : decode cX8_findKnots 74 = .ok (.iadd, 1) := by decide +kernel
theorem dX8_findKnots_75 : decode cX8_findKnots 75 = .ok (.putfield 92, 3) := by decide +kernel
theorem dX8_findKnots_78 : decode cX8_findKnots 78 = .ok (.lload_n 1, 1) := by decide +kernel
theorem dX8_findKnots_79 : decode cX8_findKnots 79 = .ok (.lload 4, 2) := by decide +kernel
theorem dX8_findKnots_81 : decode cX8_findKnots 81 = .ok (.lor, 1) := by decide +kernel
theorem dX8_findKnots_82 : decode cX8_findKnots 82 = .ok (.lstore_n 1, 1) := by decide +kernel
theorem dX8_findKnots_83 : decode cX8_findKnots 83 = .ok (.iinc 3 1, 3) := by decide +kernel
theorem dX8_findKnots_86 : decode cX8_findKnots 86 = .ok (.goto (-77), 3) := by decide +kernel
theorem dX8_findKnots_89 : decode cX8_findKnots 89 = .ok (.return_, 1) := by decide +kernel
theorem dX8_heldTogetherWith_0 : decode cX8_heldTogetherWith 0 = .ok (.lconst 0, 1) := by decide +kernel
theorem dX8_heldTogetherWith_1 : decode cX8_heldTogetherWith 1 = .ok (.lstore_n 2, 1) := by decide +kernel
theorem dX8_heldTogetherWith_2 : decode cX8_heldTogetherWith 2 = .ok (.iconst 0, 1) := by decide +kernel
theorem dX8_heldTogetherWith_3 : decode cX8_heldTogetherWith 3 = .ok (.istore 4, 2) := by decide +kernel
theorem dX8_heldTogetherWith_5 : decode cX8_heldTogetherWith 5 = .ok (.iload 4, 2) := by decide +kernel
theorem dX8_heldTogetherWith_7 : decode cX8_heldTogetherWith 7 = .ok (.aload_n 0, 1) := by decide +kernel
theorem dX8_heldTogetherWith_8 : decode cX8_heldTogetherWith 8 = .ok (.getfield 40, 3) := by decide +kernel
theorem dX8_heldTogetherWith_11 : decode cX8_heldTogetherWith 11 = .ok (.if_icmp .ge 44, 3) := by decide +kernel
theorem dX8_heldTogetherWith_14 : decode cX8_heldTogetherWith 14 = .ok (.aload_n 0, 1) := by decide +kernel
theorem dX8_heldTogetherWith_15 : decode cX8_heldTogetherWith 15 = .ok (.getfield 25, 3) := by decide +kernel
theorem dX8_heldTogetherWith_18 : decode cX8_heldTogetherWith 18 = .ok (.iload_n 1, 1) := by decide +kernel
theorem dX8_heldTogetherWith_19 : decode cX8_heldTogetherWith 19 = .ok (.laload, 1) := by decide +kernel
theorem dX8_heldTogetherWith_20 : decode cX8_heldTogetherWith 20 = .ok (.iload 4, 2) := by decide +kernel
theorem dX8_heldTogetherWith_22 : decode cX8_heldTogetherWith 22 = .ok (.invokestatic 48, 3) := by decide +kernel
theorem dX8_heldTogetherWith_25 : decode cX8_heldTogetherWith 25 = .ok (.ifCond .eq 24, 3) := by decide +kernel
theorem dX8_heldTogetherWith_28 : decode cX8_heldTogetherWith 28 = .ok (.aload_n 0, 1) := by decide +kernel
theorem dX8_heldTogetherWith_29 : decode cX8_heldTogetherWith 29 = .ok (.getfield 25, 3) := by decide +kernel
theorem dX8_heldTogetherWith_32 : decode cX8_heldTogetherWith 32 = .ok (.iload 4, 2) := by decide +kernel
theorem dX8_heldTogetherWith_34 : decode cX8_heldTogetherWith 34 = .ok (.laload, 1) := by decide +kernel
theorem dX8_heldTogetherWith_35 : decode cX8_heldTogetherWith 35 = .ok (.iload_n 1, 1) := by decide +kernel
theorem dX8_heldTogetherWith_36 : decode cX8_heldTogetherWith 36 = .ok (.invokestatic 48, 3) := by decide +kernel
theorem dX8_heldTogetherWith_39 : decode cX8_heldTogetherWith 39 = .ok (.ifCond .eq 10, 3) := by decide +kernel
theorem dX8_heldTogetherWith_42 : decode cX8_heldTogetherWith 42 = .ok (.lload_n 2, 1) := by decide +kernel
theorem dX8_heldTogetherWith_43 : decode cX8_heldTogetherWith 43 = .ok (.lconst 1, 1) := by decide +kernel
theorem dX8_heldTogetherWith_44 : decode cX8_heldTogetherWith 44 = .ok (.iload 4, 2) := by decide +kernel
theorem dX8_heldTogetherWith_46 : decode cX8_heldTogetherWith 46 = .ok (.lshl, 1) := by decide +kernel
theorem dX8_heldTogetherWith_47 : decode cX8_heldTogetherWith 47 = .ok (.lor, 1) := by decide +kernel
theorem dX8_heldTogetherWith_48 : decode cX8_heldTogetherWith 48 = .ok (.lstore_n 2, 1) := by decide +kernel
theorem dX8_heldTogetherWith_49 : decode cX8_heldTogetherWith 49 = .ok (.iinc 4 1, 3) := by decide +kernel
theorem dX8_heldTogetherWith_52 : decode cX8_heldTogetherWith 52 = .ok (.goto (-47), 3) := by decide +kernel
theorem dX8_heldTogetherWith_55 : decode cX8_heldTogetherWith 55 = .ok (.lload_n 2, 1) := by decide +kernel
theorem dX8_heldTogetherWith_56 : decode cX8_heldTogetherWith 56 = .ok (.lreturn, 1) := by decide +kernel
theorem dX8_placeInRing_0 : decode cX8_placeInRing 0 = .ok (.iconst (-1), 1) := by decide +kernel
theorem dX8_placeInRing_1 : decode cX8_placeInRing 1 = .ok (.istore 4, 2) := by decide +kernel
theorem dX8_placeInRing_3 : decode cX8_placeInRing 3 = .ok (.iconst 0, 1) := by decide +kernel
theorem dX8_placeInRing_4 : decode cX8_placeInRing 4 = .ok (.istore 5, 2) := by decide +kernel
theorem dX8_placeInRing_6 : decode cX8_placeInRing 6 = .ok (.lload_n 1, 1) := by decide +kernel
theorem dX8_placeInRing_7 : decode cX8_placeInRing 7 = .ok (.invokestatic 56, 3) := by decide +kernel
theorem dX8_placeInRing_10 : decode cX8_placeInRing 10 = .ok (.istore 6, 2) := by decide +kernel
theorem dX8_placeInRing_12 : decode cX8_placeInRing 12 = .ok (.iconst 0, 1) := by decide +kernel
theorem dX8_placeInRing_13 : decode cX8_placeInRing 13 = .ok (.istore 7, 2) := by decide +kernel
theorem dX8_placeInRing_15 : decode cX8_placeInRing 15 = .ok (.iload 7, 2) := by decide +kernel
theorem dX8_placeInRing_17 : decode cX8_placeInRing 17 = .ok (.aload_n 0, 1) := by decide +kernel
theorem dX8_placeInRing_18 : decode cX8_placeInRing 18 = .ok (.getfield 40, 3) := by decide +kernel
theorem dX8_placeInRing_21 : decode cX8_placeInRing 21 = .ok (.if_icmp .ge 51, 3) := by decide +kernel
theorem dX8_placeInRing_24 : decode cX8_placeInRing 24 = .ok (.lload_n 1, 1) := by decide +kernel
theorem dX8_placeInRing_25 : decode cX8_placeInRing 25 = .ok (.iload 7, 2) := by decide +kernel
theorem dX8_placeInRing_27 : decode cX8_placeInRing 27 = .ok (.invokestatic 48, 3) := by decide +kernel
theorem dX8_placeInRing_30 : decode cX8_placeInRing 30 = .ok (.ifCond .eq 14, 3) := by decide +kernel
theorem dX8_placeInRing_33 : decode cX8_placeInRing 33 = .ok (.aload_n 0, 1) := by decide +kernel
theorem dX8_placeInRing_34 : decode cX8_placeInRing 34 = .ok (.iload 7, 2) := by decide +kernel
theorem dX8_placeInRing_36 : decode cX8_placeInRing 36 = .ok (.iload 6, 2) := by decide +kernel
theorem dX8_placeInRing_38 : decode cX8_placeInRing 38 = .ok (.invokevirtual 99, 3) := by decide +kernel
theorem dX8_placeInRing_41 : decode cX8_placeInRing 41 = .ok (.goto 4, 3) := by decide +kernel
theorem dX8_placeInRing_44 : decode cX8_placeInRing 44 = .ok (.iconst 0, 1) := by decide +kernel
theorem dX8_placeInRing_45 : decode cX8_placeInRing 45 = .ok (.istore 8, 2) := by decide +kernel
theorem dX8_placeInRing_47 : decode cX8_placeInRing 47 = .ok (.iload 8, 2) := by decide +kernel
theorem dX8_placeInRing_49 : decode cX8_placeInRing 49 = .ok (.ifCond .le 17, 3) := by decide +kernel
theorem dX8_placeInRing_52 : decode cX8_placeInRing 52 = .ok (.iload 7, 2) := by decide +kernel
theorem dX8_placeInRing_54 : decode cX8_placeInRing 54 = .ok (.istore 4, 2) := by decide +kernel
theorem dX8_placeInRing_56 : decode cX8_placeInRing 56 = .ok (.iload 8, 2) := by decide +kernel
theorem dX8_placeInRing_58 : decode cX8_placeInRing 58 = .ok (.istore 5, 2) := by decide +kernel
theorem dX8_placeInRing_60 : decode cX8_placeInRing 60 = .ok (.iload 8, 2) := by decide +kernel
theorem dX8_placeInRing_62 : decode cX8_placeInRing 62 = .ok (.iconst 1, 1) := by decide +kernel
theorem dX8_placeInRing_63 : decode cX8_placeInRing 63 = .ok (.isub, 1) := by decide +kernel
theorem dX8_placeInRing_64 : decode cX8_placeInRing 64 = .ok (.istore 6, 2) := by decide +kernel
theorem dX8_placeInRing_66 : decode cX8_placeInRing 66 = .ok (.iinc 7 1, 3) := by decide +kernel
theorem dX8_placeInRing_69 : decode cX8_placeInRing 69 = .ok (.goto (-54), 3) := by decide +kernel
theorem dX8_placeInRing_72 : decode cX8_placeInRing 72 = .ok (.iload_n 3, 1) := by decide +kernel
theorem dX8_placeInRing_73 : decode cX8_placeInRing 73 = .ok (.ifCond .lt 9, 3) := by decide +kernel
theorem dX8_placeInRing_76 : decode cX8_placeInRing 76 = .ok (.iload_n 3, 1) := by decide +kernel
theorem dX8_placeInRing_77 : decode cX8_placeInRing 77 = .ok (.iload 5, 2) := by decide +kernel
theorem dX8_placeInRing_79 : decode cX8_placeInRing 79 = .ok (.if_icmp .lt 5, 3) := by decide +kernel
theorem dX8_placeInRing_82 : decode cX8_placeInRing 82 = .ok (.iconst (-1), 1) := by decide +kernel
theorem dX8_placeInRing_83 : decode cX8_placeInRing 83 = .ok (.ireturn, 1) := by decide +kernel
theorem dX8_placeInRing_84 : decode cX8_placeInRing 84 = .ok (.aload_n 0, 1) := by decide +kernel
theorem dX8_placeInRing_85 : decode cX8_placeInRing 85 = .ok (.iload 4, 2) := by decide +kernel
theorem dX8_placeInRing_87 : decode cX8_placeInRing 87 = .ok (.iload 5, 2) := by decide +kernel
theorem dX8_placeInRing_89 : decode cX8_placeInRing 89 = .ok (.invokevirtual 99, 3) := by decide +kernel
theorem dX8_placeInRing_92 : decode cX8_placeInRing 92 = .ok (.pop, 1) := by decide +kernel
theorem dX8_placeInRing_93 : decode cX8_placeInRing 93 = .ok (.iload 4, 2) := by decide +kernel
theorem dX8_placeInRing_95 : decode cX8_placeInRing 95 = .ok (.istore 7, 2) := by decide +kernel
theorem dX8_placeInRing_97 : decode cX8_placeInRing 97 = .ok (.iconst 1, 1) := by decide +kernel
theorem dX8_placeInRing_98 : decode cX8_placeInRing 98 = .ok (.istore 8, 2) := by decide +kernel
theorem dX8_placeInRing_100 : decode cX8_placeInRing 100 = .ok (.iload 8, 2) := by decide +kernel
theorem dX8_placeInRing_102 : decode cX8_placeInRing 102 = .ok (.iload_n 3, 1) := by decide +kernel
theorem dX8_placeInRing_103 : decode cX8_placeInRing 103 = .ok (.if_icmp .gt 41, 3) := by decide +kernel
theorem dX8_placeInRing_106 : decode cX8_placeInRing 106 = .ok (.aload_n 0, 1) := by decide +kernel
theorem dX8_placeInRing_107 : decode cX8_placeInRing 107 = .ok (.getfield 18, 3) := by decide +kernel
theorem dX8_placeInRing_110 : decode cX8_placeInRing 110 = .ok (.iload 7, 2) := by decide +kernel
theorem dX8_placeInRing_112 : decode cX8_placeInRing 112 = .ok (.laload, 1) := by decide +kernel
theorem dX8_placeInRing_113 : decode cX8_placeInRing 113 = .ok (.aload_n 0, 1) := by decide +kernel
theorem dX8_placeInRing_114 : decode cX8_placeInRing 114 = .ok (.getfield 37, 3) := by decide +kernel
theorem dX8_placeInRing_117 : decode cX8_placeInRing 117 = .ok (.iload 5, 2) := by decide +kernel
theorem dX8_placeInRing_119 : decode cX8_placeInRing 119 = .ok (.iload 8, 2) := by decide +kernel
theorem dX8_placeInRing_121 : decode cX8_placeInRing 121 = .ok (.isub, 1) := by decide +kernel
theorem dX8_placeInRing_122 : decode cX8_placeInRing 122 = .ok (.laload, 1) := by decide +kernel
theorem dX8_placeInRing_123 : decode cX8_placeInRing 123 = .ok (.land, 1) := by decide +kernel
theorem dX8_placeInRing_124 : decode cX8_placeInRing 124 = .ok (.iconst 0, 1) := by decide +kernel
theorem dX8_placeInRing_125 : decode cX8_placeInRing 125 = .ok (.invokestatic 102, 3) := by decide +kernel
theorem dX8_placeInRing_128 : decode cX8_placeInRing 128 = .ok (.istore 7, 2) := by decide +kernel
theorem dX8_placeInRing_130 : decode cX8_placeInRing 130 = .ok (.iload 7, 2) := by decide +kernel
theorem dX8_placeInRing_132 : decode cX8_placeInRing 132 = .ok (.iconst (-1), 1) := by decide +kernel
theorem dX8_placeInRing_133 : decode cX8_placeInRing 133 = .ok (.if_icmp .ne 5, 3) := by decide +kernel
theorem dX8_placeInRing_136 : decode cX8_placeInRing 136 = .ok (.iconst (-1), 1) := by decide +kernel
theorem dX8_placeInRing_137 : decode cX8_placeInRing 137 = .ok (.ireturn, 1) := by decide +kernel
theorem dX8_placeInRing_138 : decode cX8_placeInRing 138 = .ok (.iinc 8 1, 3) := by decide +kernel
theorem dX8_placeInRing_141 : decode cX8_placeInRing 141 = .ok (.goto (-41), 3) := by decide +kernel
theorem dX8_placeInRing_144 : decode cX8_placeInRing 144 = .ok (.iload 7, 2) := by decide +kernel
theorem dX8_placeInRing_146 : decode cX8_placeInRing 146 = .ok (.ireturn, 1) := by decide +kernel
theorem dX8_ringThrough_0 : decode cX8_ringThrough 0 = .ok (.aload_n 0, 1) := by decide +kernel
theorem dX8_ringThrough_1 : decode cX8_ringThrough 1 = .ok (.getfield 37, 3) := by decide +kernel
theorem dX8_ringThrough_4 : decode cX8_ringThrough 4 = .ok (.iconst 0, 1) := by decide +kernel
theorem dX8_ringThrough_5 : decode cX8_ringThrough 5 = .ok (.lconst 1, 1) := by decide +kernel
theorem dX8_ringThrough_6 : decode cX8_ringThrough 6 = .ok (.iload_n 1, 1) := by decide +kernel
theorem dX8_ringThrough_7 : decode cX8_ringThrough 7 = .ok (.lshl, 1) := by decide +kernel
theorem dX8_ringThrough_8 : decode cX8_ringThrough 8 = .ok (.lastore, 1) := by decide +kernel
theorem dX8_ringThrough_9 : decode cX8_ringThrough 9 = .ok (.iconst 1, 1) := by decide +kernel
theorem dX8_ringThrough_10 : decode cX8_ringThrough 10 = .ok (.istore_n 3, 1) := by decide +kernel
theorem dX8_ringThrough_11 : decode cX8_ringThrough 11 = .ok (.iload_n 3, 1) := by decide +kernel
theorem dX8_ringThrough_12 : decode cX8_ringThrough 12 = .ok (.iload_n 2, 1) := by decide +kernel
theorem dX8_ringThrough_13 : decode cX8_ringThrough 13 = .ok (.if_icmp .gt 51, 3) := by decide +kernel
theorem dX8_ringThrough_16 : decode cX8_ringThrough 16 = .ok (.iload_n 3, 1) := by decide +kernel
theorem dX8_ringThrough_17 : decode cX8_ringThrough 17 = .ok (.aload_n 0, 1) := by decide +kernel
theorem dX8_ringThrough_18 : decode cX8_ringThrough 18 = .ok (.getfield 37, 3) := by decide +kernel
theorem dX8_ringThrough_21 : decode cX8_ringThrough 21 = .ok (.arraylength, 1) := by decide +kernel
theorem dX8_ringThrough_22 : decode cX8_ringThrough 22 = .ok (.if_icmp .ge 42, 3) := by decide +kernel
theorem dX8_ringThrough_25 : decode cX8_ringThrough 25 = .ok (.aload_n 0, 1) := by decide +kernel
theorem dX8_ringThrough_26 : decode cX8_ringThrough 26 = .ok (.getfield 37, 3) := by decide +kernel
theorem dX8_ringThrough_29 : decode cX8_ringThrough 29 = .ok (.iload_n 3, 1) := by decide +kernel
theorem dX8_ringThrough_30 : decode cX8_ringThrough 30 = .ok (.aload_n 0, 1) := by decide +kernel
theorem dX8_ringThrough_31 : decode cX8_ringThrough 31 = .ok (.aload_n 0, 1) := by decide +kernel
theorem dX8_ringThrough_32 : decode cX8_ringThrough 32 = .ok (.getfield 37, 3) := by decide +kernel
theorem dX8_ringThrough_35 : decode cX8_ringThrough 35 = .ok (.iload_n 3, 1) := by decide +kernel
theorem dX8_ringThrough_36 : decode cX8_ringThrough 36 = .ok (.iconst 1, 1) := by decide +kernel
theorem dX8_ringThrough_37 : decode cX8_ringThrough 37 = .ok (.isub, 1) := by decide +kernel
theorem dX8_ringThrough_38 : decode cX8_ringThrough 38 = .ok (.laload, 1) := by decide +kernel
theorem dX8_ringThrough_39 : decode cX8_ringThrough 39 = .ok (.invokevirtual 106, 3) := by decide +kernel
theorem dX8_ringThrough_42 : decode cX8_ringThrough 42 = .ok (.lastore, 1) := by decide +kernel
theorem dX8_ringThrough_43 : decode cX8_ringThrough 43 = .ok (.aload_n 0, 1) := by decide +kernel
theorem dX8_ringThrough_44 : decode cX8_ringThrough 44 = .ok (.getfield 37, 3) := by decide +kernel
theorem dX8_ringThrough_47 : decode cX8_ringThrough 47 = .ok (.iload_n 3, 1) := by decide +kernel
theorem dX8_ringThrough_48 : decode cX8_ringThrough 48 = .ok (.laload, 1) := by decide +kernel
theorem dX8_ringThrough_49 : decode cX8_ringThrough 49 = .ok (.iload_n 1, 1) := by decide +kernel
theorem dX8_ringThrough_50 : decode cX8_ringThrough 50 = .ok (.invokestatic 48, 3) := by decide +kernel
theorem dX8_ringThrough_53 : decode cX8_ringThrough 53 = .ok (.ifCond .eq 5, 3) := by decide +kernel
theorem dX8_ringThrough_56 : decode cX8_ringThrough 56 = .ok (.iload_n 3, 1) := by decide +kernel
theorem dX8_ringThrough_57 : decode cX8_ringThrough 57 = .ok (.ireturn, 1) := by decide +kernel
theorem dX8_ringThrough_58 : decode cX8_ringThrough 58 = .ok (.iinc 3 1, 3) := by decide +kernel
theorem dX8_ringThrough_61 : decode cX8_ringThrough 61 = .ok (.goto (-50), 3) := by decide +kernel
theorem dX8_ringThrough_64 : decode cX8_ringThrough 64 = .ok (.iconst 0, 1) := by decide +kernel
theorem dX8_ringThrough_65 : decode cX8_ringThrough 65 = .ok (.ireturn, 1) := by decide +kernel
theorem dX8_barredByAny_0 : decode cX8_barredByAny 0 = .ok (.lconst 0, 1) := by decide +kernel
theorem dX8_barredByAny_1 : decode cX8_barredByAny 1 = .ok (.lstore_n 3, 1) := by decide +kernel
theorem dX8_barredByAny_2 : decode cX8_barredByAny 2 = .ok (.iconst 0, 1) := by decide +kernel
theorem dX8_barredByAny_3 : decode cX8_barredByAny 3 = .ok (.istore 5, 2) := by decide +kernel
theorem dX8_barredByAny_5 : decode cX8_barredByAny 5 = .ok (.iload 5, 2) := by decide +kernel
theorem dX8_barredByAny_7 : decode cX8_barredByAny 7 = .ok (.aload_n 0, 1) := by decide +kernel
theorem dX8_barredByAny_8 : decode cX8_barredByAny 8 = .ok (.getfield 40, 3) := by decide +kernel
theorem dX8_barredByAny_11 : decode cX8_barredByAny 11 = .ok (.if_icmp .ge 28, 3) := by decide +kernel
theorem dX8_barredByAny_14 : decode cX8_barredByAny 14 = .ok (.lload_n 1, 1) := by decide +kernel
theorem dX8_barredByAny_15 : decode cX8_barredByAny 15 = .ok (.iload 5, 2) := by decide +kernel
theorem dX8_barredByAny_17 : decode cX8_barredByAny 17 = .ok (.invokestatic 48, 3) := by decide +kernel
theorem dX8_barredByAny_20 : decode cX8_barredByAny 20 = .ok (.ifCond .eq 13, 3) := by decide +kernel
theorem dX8_barredByAny_23 : decode cX8_barredByAny 23 = .ok (.lload_n 3, 1) := by decide +kernel
theorem dX8_barredByAny_24 : decode cX8_barredByAny 24 = .ok (.aload_n 0, 1) := by decide +kernel
theorem dX8_barredByAny_25 : decode cX8_barredByAny 25 = .ok (.getfield 22, 3) := by decide +kernel
theorem dX8_barredByAny_28 : decode cX8_barredByAny 28 = .ok (.iload 5, 2) := by decide +kernel
theorem dX8_barredByAny_30 : decode cX8_barredByAny 30 = .ok (.laload, 1) := by decide +kernel
theorem dX8_barredByAny_31 : decode cX8_barredByAny 31 = .ok (.lor, 1) := by decide +kernel
theorem dX8_barredByAny_32 : decode cX8_barredByAny 32 = .ok (.lstore_n 3, 1) := by decide +kernel
theorem dX8_barredByAny_33 : decode cX8_barredByAny 33 = .ok (.iinc 5 1, 3) := by decide +kernel
theorem dX8_barredByAny_36 : decode cX8_barredByAny 36 = .ok (.goto (-31), 3) := by decide +kernel
theorem dX8_barredByAny_39 : decode cX8_barredByAny 39 = .ok (.lload_n 3, 1) := by decide +kernel
theorem dX8_barredByAny_40 : decode cX8_barredByAny 40 = .ok (.lreturn, 1) := by decide +kernel
