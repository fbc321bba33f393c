theorem dX0_init_0 : decode cX0_init 0 = .ok (.aload_n 0, 1) := by decide +kernel
theorem dX0_init_1 : decode cX0_init 1 = .ok (.invokespecial 1, 3) := by decide +kernel
theorem dX0_init_4 : decode cX0_init 4 = .ok (.aload_n 0, 1) := by decide +kernel
theorem dX0_init_5 : decode cX0_init 5 = .ok (.bipush 8, 2) := by decide +kernel
theorem dX0_init_7 : decode cX0_init 7 = .ok (.newarray .int, 2) := by decide +kernel
theorem dX0_init_9 : decode cX0_init 9 = .ok (.putfield 9, 3) := by decide +kernel
theorem dX0_init_12 : decode cX0_init 12 = .ok (.aload_n 0, 1) := by decide +kernel
theorem dX0_init_13 : decode cX0_init 13 = .ok (.bipush 8, 2) := by decide +kernel
theorem dX0_init_15 : decode cX0_init 15 = .ok (.newarray .int, 2) := by decide +kernel
theorem dX0_init_17 : decode cX0_init 17 = .ok (.putfield 13, 3) := by decide +kernel
theorem dX0_init_20 : decode cX0_init 20 = .ok (.aload_n 0, 1) := by decide +kernel
theorem dX0_init_21 : decode cX0_init 21 = .ok (.bipush 8, 2) := by decide +kernel
theorem dX0_init_23 : decode cX0_init 23 = .ok (.newarray .int, 2) := by decide +kernel
theorem dX0_init_25 : decode cX0_init 25 = .ok (.putfield 16, 3) := by decide +kernel
theorem dX0_init_28 : decode cX0_init 28 = .ok (.aload_n 0, 1) := by decide +kernel
theorem dX0_init_29 : decode cX0_init 29 = .ok (.bipush 8, 2) := by decide +kernel
theorem dX0_init_31 : decode cX0_init 31 = .ok (.newarray .int, 2) := by decide +kernel
theorem dX0_init_33 : decode cX0_init 33 = .ok (.putfield 19, 3) := by decide +kernel
theorem dX0_init_36 : decode cX0_init 36 = .ok (.aload_n 0, 1) := by decide +kernel
theorem dX0_init_37 : decode cX0_init 37 = .ok (.bipush 8, 2) := by decide +kernel
theorem dX0_init_39 : decode cX0_init 39 = .ok (.newarray .int, 2) := by decide +kernel
theorem dX0_init_41 : decode cX0_init 41 = .ok (.putfield 22, 3) := by decide +kernel
theorem dX0_init_44 : decode cX0_init 44 = .ok (.return_, 1) := by decide +kernel
theorem dX0_note_0 : decode cX0_note 0 = .ok (.aload_n 0, 1) := by decide +kernel
theorem dX0_note_1 : decode cX0_note 1 = .ok (.getfield 9, 3) := by decide +kernel
theorem dX0_note_4 : decode cX0_note 4 = .ok (.aload_n 0, 1) := by decide +kernel
theorem dX0_note_5 : decode cX0_note 5 = .ok (.getfield 25, 3) := by decide +kernel
theorem dX0_note_8 : decode cX0_note 8 = .ok (.iload_n 1, 1) := by decide +kernel
theorem dX0_note_9 : decode cX0_note 9 = .ok (.iastore, 1) := by decide +kernel
theorem dX0_note_10 : decode cX0_note 10 = .ok (.aload_n 0, 1) := by decide +kernel
theorem dX0_note_11 : decode cX0_note 11 = .ok (.getfield 13, 3) := by decide +kernel
theorem dX0_note_14 : decode cX0_note 14 = .ok (.aload_n 0, 1) := by decide +kernel
theorem dX0_note_15 : decode cX0_note 15 = .ok (.getfield 25, 3) := by decide +kernel
theorem dX0_note_18 : decode cX0_note 18 = .ok (.iload_n 2, 1) := by decide +kernel
theorem dX0_note_19 : decode cX0_note 19 = .ok (.iastore, 1) := by decide +kernel
theorem dX0_note_20 : decode cX0_note 20 = .ok (.aload_n 0, 1) := by decide +kernel
theorem dX0_note_21 : decode cX0_note 21 = .ok (.getfield 16, 3) := by decide +kernel
theorem dX0_note_24 : decode cX0_note 24 = .ok (.aload_n 0, 1) := by decide +kernel
theorem dX0_note_25 : decode cX0_note 25 = .ok (.getfield 25, 3) := by decide +kernel
theorem dX0_note_28 : decode cX0_note 28 = .ok (.iload_n 3, 1) := by decide +kernel
theorem dX0_note_29 : decode cX0_note 29 = .ok (.iastore, 1) := by decide +kernel
theorem dX0_note_30 : decode cX0_note 30 = .ok (.aload_n 0, 1) := by decide +kernel
theorem dX0_note_31 : decode cX0_note 31 = .ok (.getfield 19, 3) := by decide +kernel
theorem dX0_note_34 : decode cX0_note 34 = .ok (.aload_n 0, 1) := by decide +kernel
theorem dX0_note_35 : decode cX0_note 35 = .ok (.getfield 25, 3) := by decide +kernel
theorem dX0_note_38 : decode cX0_note 38 = .ok (.iload 4, 2) := by decide +kernel
theorem dX0_note_40 : decode cX0_note 40 = .ok (.iastore, 1) := by decide +kernel
theorem dX0_note_41 : decode cX0_note 41 = .ok (.aload_n 0, 1) := by decide +kernel
theorem dX0_note_42 : decode cX0_note 42 = .ok (.getfield 22, 3) := by decide +kernel
theorem dX0_note_45 : decode cX0_note 45 = .ok (.aload_n 0, 1) := by decide +kernel
theorem dX0_note_46 : decode cX0_note 46 = .ok (.getfield 25, 3) := by decide +kernel
theorem dX0_note_49 : decode cX0_note 49 = .ok (.iload 5, 2) := by decide +kernel
theorem dX0_note_51 : decode cX0_note 51 = .ok (.iastore, 1) := by decide +kernel
theorem dX0_note_52 : decode cX0_note 52 = .ok (.aload_n 0, 1) := by decide +kernel
theorem dX0_note_53 : decode cX0_note 53 = .ok (.aload_n 0, 1) := by decide +kernel
theorem dX0_note_54 : decode cX0_note 54 = .ok (.getfield 25, 3) := by decide +kernel
theorem dX0_note_57 : decode cX0_note 57 = .ok (.iconst 1, 1) := by decide +kernel
theorem dX0_note_58 : decode cX0_note 58 = .ok (.iadd, 1) := by decide +kernel
theorem dX0_note_59 : decode cX0_note 59 = .ok (.bipush 8, 2) := by decide +kernel
theorem dX0_note_61 : decode cX0_note 61 = .ok (.irem, 1) := by decide +kernel
theorem dX0_note_62 : decode cX0_note 62 = .ok (.putfield 25, 3) := by decide +kernel
theorem dX0_note_65 : decode cX0_note 65 = .ok (.aload_n 0, 1) := by decide +kernel
theorem dX0_note_66 : decode cX0_note 66 = .ok (.aload_n 0, 1) := by decide +kernel
theorem dX0_note_67 : decode cX0_note 67 = .ok (.getfield 29, 3) := by decide +kernel
theorem dX0_note_70 : decode cX0_note 70 = .ok (.iconst 1, 1) := by decide +kernel
theorem dX0_note_71 : decode cX0_note 71 = .ok (.iadd, 1) := by decide +kernel
theorem dX0_note_72 : decode cX0_note 72 = .ok (.bipush 8, 2) := by decide +kernel
theorem dX0_note_74 : decode cX0_note 74 = .ok (.invokestatic 32, 3) := by decide +kernel
theorem dX0_note_77 : decode cX0_note 77 = .ok (.putfield 29, 3) := by decide +kernel
theorem dX0_note_80 : decode cX0_note 80 = .ok (.return_, 1) := by decide +kernel
theorem dX0_dropLatest_0 : decode cX0_dropLatest 0 = .ok (.aload_n 0, 1) := by decide +kernel
theorem dX0_dropLatest_1 : decode cX0_dropLatest 1 = .ok (.aload_n 0, 1) := by decide +kernel
theorem dX0_dropLatest_2 : decode cX0_dropLatest 2 = .ok (.getfield 25, 3) := by decide +kernel
theorem dX0_dropLatest_5 : decode cX0_dropLatest 5 = .ok (.bipush 8, 2) := by decide +kernel
theorem dX0_dropLatest_7 : decode cX0_dropLatest 7 = .ok (.iadd, 1) := by decide +kernel
theorem dX0_dropLatest_8 : decode cX0_dropLatest 8 = .ok (.iconst 1, 1) := by decide +kernel
theorem dX0_dropLatest_9 : decode cX0_dropLatest 9 = .ok (.isub, 1) := by decide +kernel
theorem dX0_dropLatest_10 : decode cX0_dropLatest 10 = .ok (.bipush 8, 2) := by decide +kernel
theorem dX0_dropLatest_12 : decode cX0_dropLatest 12 = .ok (.irem, 1) := by decide +kernel
theorem dX0_dropLatest_13 : decode cX0_dropLatest 13 = .ok (.putfield 25, 3) := by decide +kernel
theorem dX0_dropLatest_16 : decode cX0_dropLatest 16 = .ok (.aload_n 0, 1) := by decide +kernel
theorem dX0_dropLatest_17 : decode cX0_dropLatest 17 = .ok (.dup, 1) := by decide +kernel
theorem dX0_dropLatest_18 : decode cX0_dropLatest 18 = .ok (.getfield 29, 3) := by decide +kernel
theorem dX0_dropLatest_21 : decode cX0_dropLatest 21 = .ok (.iconst 1, 1) := by decide +kernel
theorem dX0_dropLatest_22 : decode cX0_dropLatest 22 = .ok (.isub, 1) := by decide +kernel
theorem dX0_dropLatest_23 : decode cX0_dropLatest 23 = .ok (.putfield 29, 3) := by decide +kernel
theorem dX0_dropLatest_26 : decode cX0_dropLatest 26 = .ok (.aload_n 0, 1) := by decide +kernel
theorem dX0_dropLatest_27 : decode cX0_dropLatest 27 = .ok (.getfield 25, 3) := by decide +kernel
theorem dX0_dropLatest_30 : decode cX0_dropLatest 30 = .ok (.ireturn, 1) := by decide +kernel
theorem dX1_init_0 : decode cX1_init 0 = .ok (.aload_n 0, 1) := by decide +kernel
theorem dX1_init_1 : decode cX1_init 1 = .ok (.invokespecial 3, 3) := by decide +kernel
theorem dX1_init_4 : decode cX1_init 4 = .ok (.aload_n 0, 1) := by decide +kernel
theorem dX1_init_5 : decode cX1_init 5 = .ok (.sipush 600, 3) := by decide +kernel
theorem dX1_init_8 : decode cX1_init 8 = .ok (.newarray .long, 2) := by decide +kernel
theorem dX1_init_10 : decode cX1_init 10 = .ok (.putfield 9, 3) := by decide +kernel
theorem dX1_init_13 : decode cX1_init 13 = .ok (.aload_n 0, 1) := by decide +kernel
theorem dX1_init_14 : decode cX1_init 14 = .ok (.bipush 20, 2) := by decide +kernel
theorem dX1_init_16 : decode cX1_init 16 = .ok (.newarray .int, 2) := by decide +kernel
theorem dX1_init_18 : decode cX1_init 18 = .ok (.putfield 15, 3) := by decide +kernel
theorem dX1_init_21 : decode cX1_init 21 = .ok (.aload_n 0, 1) := by decide +kernel
theorem dX1_init_22 : decode cX1_init 22 = .ok (.iload_n 1, 1) := by decide +kernel
theorem dX1_init_23 : decode cX1_init 23 = .ok (.putfield 19, 3) := by decide +kernel
theorem dX1_init_26 : decode cX1_init 26 = .ok (.iconst 0, 1) := by decide +kernel
theorem dX1_init_27 : decode cX1_init 27 = .ok (.istore_n 2, 1) := by decide +kernel
theorem dX1_init_28 : decode cX1_init 28 = .ok (.iload_n 2, 1) := by decide +kernel
theorem dX1_init_29 : decode cX1_init 29 = .ok (.bipush 20, 2) := by decide +kernel
theorem dX1_init_31 : decode cX1_init 31 = .ok (.if_icmp .ge 16, 3) := by decide +kernel
theorem dX1_init_34 : decode cX1_init 34 = .ok (.aload_n 0, 1) := by decide +kernel
theorem dX1_init_35 : decode cX1_init 35 = .ok (.getfield 15, 3) := by decide +kernel
theorem dX1_init_38 : decode cX1_init 38 = .ok (.iload_n 2, 1) := by decide +kernel
theorem dX1_init_39 : decode cX1_init 39 = .ok (.iconst (-1), 1) := by decide +kernel
theorem dX1_init_40 : decode cX1_init 40 = .ok (.iastore, 1) := by decide +kernel
theorem dX1_init_41 : decode cX1_init 41 = .ok (.iinc 2 1, 3) := by decide +kernel
theorem dX1_init_44 : decode cX1_init 44 = .ok (.goto (-16), 3) := by decide +kernel
theorem dX1_init_47 : decode cX1_init 47 = .ok (.return_, 1) := by decide +kernel
theorem dX1_lengthOf_0 : decode cX1_lengthOf 0 = .ok (.iload_n 1, 1) := by decide +kernel
theorem dX1_lengthOf_1 : decode cX1_lengthOf 1 = .ok (.ifCond .lt 9, 3) := by decide +kernel
theorem dX1_lengthOf_4 : decode cX1_lengthOf 4 = .ok (.iload_n 1, 1) := by decide +kernel
theorem dX1_lengthOf_5 : decode cX1_lengthOf 5 = .ok (.bipush 20, 2) := by decide +kernel
theorem dX1_lengthOf_7 : decode cX1_lengthOf 7 = .ok (.if_icmp .lt 7, 3) := by decide +kernel
theorem dX1_lengthOf_10 : decode cX1_lengthOf 10 = .ok (.iconst (-1), 1) := by decide +kernel
theorem dX1_lengthOf_11 : decode cX1_lengthOf 11 = .ok (.goto 9, 3) := by decide +kernel
theorem dX1_lengthOf_14 : decode cX1_lengthOf 14 = .ok (.aload_n 0, 1) := by decide +kernel
theorem dX1_lengthOf_15 : decode cX1_lengthOf 15 = .ok (.getfield 15, 3) := by decide +kernel
theorem dX1_lengthOf_18 : decode cX1_lengthOf 18 = .ok (.iload_n 1, 1) := by decide +kernel
theorem dX1_lengthOf_19 : decode cX1_lengthOf 19 = .ok (.iaload, 1) := by decide +kernel
theorem dX1_lengthOf_20 : decode cX1_lengthOf 20 = .ok (.ireturn, 1) := by decide +kernel
theorem dX1_renew_0 : decode cX1_renew 0 = .ok (.iload_n 1, 1) := by decide +kernel
theorem dX1_renew_1 : decode cX1_renew 1 = .ok (.ifCond .lt 9, 3) := by decide +kernel
theorem dX1_renew_4 : decode cX1_renew 4 = .ok (.iload_n 1, 1) := by decide +kernel
theorem dX1_renew_5 : decode cX1_renew 5 = .ok (.bipush 20, 2) := by decide +kernel
theorem dX1_renew_7 : decode cX1_renew 7 = .ok (.if_icmp .lt 4, 3) := by decide +kernel
theorem dX1_renew_10 : decode cX1_renew 10 = .ok (.return_, 1) := by decide +kernel
theorem dX1_renew_11 : decode cX1_renew 11 = .ok (.aload_n 0, 1) := by decide +kernel
theorem dX1_renew_12 : decode cX1_renew 12 = .ok (.getfield 15, 3) := by decide +kernel
theorem dX1_renew_15 : decode cX1_renew 15 = .ok (.iload_n 1, 1) := by decide +kernel
theorem dX1_renew_16 : decode cX1_renew 16 = .ok (.iload_n 2, 1) := by decide +kernel
theorem dX1_renew_17 : decode cX1_renew 17 = .ok (.iastore, 1) := by decide +kernel
theorem dX1_renew_18 : decode cX1_renew 18 = .ok (.iconst 0, 1) := by decide +kernel
theorem dX1_renew_19 : decode cX1_renew 19 = .ok (.istore_n 3, 1) := by decide +kernel
theorem dX1_renew_20 : decode cX1_renew 20 = .ok (.iload_n 3, 1) := by decide +kernel
theorem dX1_renew_21 : decode cX1_renew 21 = .ok (.bipush 30, 2) := by decide +kernel
theorem dX1_renew_23 : decode cX1_renew 23 = .ok (.if_icmp .ge 21, 3) := by decide +kernel
theorem dX1_renew_26 : decode cX1_renew 26 = .ok (.aload_n 0, 1) := by decide +kernel
theorem dX1_renew_27 : decode cX1_renew 27 = .ok (.getfield 9, 3) := by decide +kernel
theorem dX1_renew_30 : decode cX1_renew 30 = .ok (.iload_n 1, 1) := by decide +kernel
theorem dX1_renew_31 : decode cX1_renew 31 = .ok (.bipush 30, 2) := by decide +kernel
theorem dX1_renew_33 : decode cX1_renew 33 = .ok (.imul, 1) := by decide +kernel
theorem dX1_renew_34 : decode cX1_renew 34 = .ok (.iload_n 3, 1) := by decide +kernel
theorem dX1_renew_35 : decode cX1_renew 35 = .ok (.iadd, 1) := by decide +kernel
theorem dX1_renew_36 : decode cX1_renew 36 = .ok (.lconst 0, 1) := by decide +kernel
theorem dX1_renew_37 : decode cX1_renew 37 = .ok (.lastore, 1) := by decide +kernel
theorem dX1_renew_38 : decode cX1_renew 38 = .ok (.iinc 3 1, 3) := by decide +kernel
theorem dX1_renew_41 : decode cX1_renew 41 = .ok (.goto (-21), 3) := by decide +kernel
theorem dX1_renew_44 : decode cX1_renew 44 = .ok (.return_, 1) := by decide +kernel
theorem dX1_write_0 : decode cX1_write 0 = .ok (.iload_n 2, 1) := by decide +kernel
theorem dX1_write_1 : decode cX1_write 1 = .ok (.ifCond .lt 12, 3) := by decide +kernel
theorem dX1_write_4 : decode cX1_write 4 = .ok (.iload_n 2, 1) := by decide +kernel
theorem dX1_write_5 : decode cX1_write 5 = .ok (.aload_n 0, 1) := by decide +kernel
theorem dX1_write_6 : decode cX1_write 6 = .ok (.iload_n 1, 1) := by decide +kernel
theorem dX1_write_7 : decode cX1_write 7 = .ok (.invokevirtual 23, 3) := by decide +kernel
theorem dX1_write_10 : decode cX1_write 10 = .ok (.if_icmp .lt 4, 3) := by decide +kernel
theorem dX1_write_13 : decode cX1_write 13 = .ok (.return_, 1) := by decide +kernel
theorem dX1_write_14 : decode cX1_write 14 = .ok (.aload_n 0, 1) := by decide +kernel
theorem dX1_write_15 : decode cX1_write 15 = .ok (.getfield 19, 3) := by decide +kernel
theorem dX1_write_18 : decode cX1_write 18 = .ok (.ifCond .ne 21, 3) := by decide +kernel
theorem dX1_write_21 : decode cX1_write 21 = .ok (.aload_n 0, 1) := by decide +kernel
theorem dX1_write_22 : decode cX1_write 22 = .ok (.getfield 9, 3) := by decide +kernel
theorem dX1_write_25 : decode cX1_write 25 = .ok (.iload_n 1, 1) := by decide +kernel
theorem dX1_write_26 : decode cX1_write 26 = .ok (.bipush 30, 2) := by decide +kernel
theorem dX1_write_28 : decode cX1_write 28 = .ok (.imul, 1) := by decide +kernel
theorem dX1_write_29 : decode cX1_write 29 = .ok (.iload_n 2, 1) := by decide +kernel
theorem dX1_write_30 : decode cX1_write 30 = .ok (.iadd, 1) := by decide +kernel
theorem dX1_write_31 : decode cX1_write 31 = .ok (.lload_n 3, 1) := by decide +kernel
theorem dX1_write_32 : decode cX1_write 32 = .ok (.l2i, 1) := by decide +kernel
theorem dX1_write_33 : decode cX1_write 33 = .ok (.i2s, 1) := by decide +kernel
theorem dX1_write_34 : decode cX1_write 34 = .ok (.i2l, 1) := by decide +kernel
theorem dX1_write_35 : decode cX1_write 35 = .ok (.lastore, 1) := by decide +kernel
theorem dX1_write_36 : decode cX1_write 36 = .ok (.goto 40, 3) := by decide +kernel
theorem dX1_write_39 : decode cX1_write 39 = .ok (.aload_n 0, 1) := by decide +kernel
theorem dX1_write_40 : decode cX1_write 40 = .ok (.getfield 19, 3) := by decide +kernel
theorem dX1_write_43 : decode cX1_write 43 = .ok (.iconst 1, 1) := by decide +kernel
theorem dX1_write_44 : decode cX1_write 44 = .ok (.if_icmp .ne 20, 3) := by decide +kernel
theorem dX1_write_47 : decode cX1_write 47 = .ok (.aload_n 0, 1) := by decide +kernel
theorem dX1_write_48 : decode cX1_write 48 = .ok (.getfield 9, 3) := by decide +kernel
theorem dX1_write_51 : decode cX1_write 51 = .ok (.iload_n 1, 1) := by decide +kernel
theorem dX1_write_52 : decode cX1_write 52 = .ok (.bipush 30, 2) := by decide +kernel
theorem dX1_write_54 : decode cX1_write 54 = .ok (.imul, 1) := by decide +kernel
theorem dX1_write_55 : decode cX1_write 55 = .ok (.iload_n 2, 1) := by decide +kernel
theorem dX1_write_56 : decode cX1_write 56 = .ok (.iadd, 1) := by decide +kernel
theorem dX1_write_57 : decode cX1_write 57 = .ok (.lload_n 3, 1) := by decide +kernel
theorem dX1_write_58 : decode cX1_write 58 = .ok (.l2i, 1) := by decide +kernel
theorem dX1_write_59 : decode cX1_write 59 = .ok (.i2l, 1) := by decide +kernel
theorem dX1_write_60 : decode cX1_write 60 = .ok (.lastore, 1) := by decide +kernel
theorem dX1_write_61 : decode cX1_write 61 = .ok (.goto 15, 3) := by decide +kernel
theorem dX1_write_64 : decode cX1_write 64 = .ok (.aload_n 0, 1) := by decide +kernel
theorem dX1_write_65 : decode cX1_write 65 = .ok (.getfield 9, 3) := by decide +kernel
theorem dX1_write_68 : decode cX1_write 68 = .ok (.iload_n 1, 1) := by decide +kernel
theorem dX1_write_69 : decode cX1_write 69 = .ok (.bipush 30, 2) := by decide +kernel
theorem dX1_write_71 : decode cX1_write 71 = .ok (.imul, 1) := by decide +kernel
theorem dX1_write_72 : decode cX1_write 72 = .ok (.iload_n 2, 1) := by decide +kernel
theorem dX1_write_73 : decode cX1_write 73 = .ok (.iadd, 1) := by decide +kernel
theorem dX1_write_74 : decode cX1_write 74 = .ok (.lload_n 3, 1) := by decide +kernel
theorem dX1_write_75 : decode cX1_write 75 = .ok (.lastore, 1) := by decide +kernel
theorem dX1_write_76 : decode cX1_write 76 = .ok (.return_, 1) := by decide +kernel
theorem dX1_read_0 : decode cX1_read 0 = .ok (.iload_n 2, 1) := by decide +kernel
theorem dX1_read_1 : decode cX1_read 1 = .ok (.ifCond .lt 12, 3) := by decide +kernel
theorem dX1_read_4 : decode cX1_read 4 = .ok (.iload_n 2, 1) := by decide +kernel
theorem dX1_read_5 : decode cX1_read 5 = .ok (.aload_n 0, 1) := by decide +kernel
theorem dX1_read_6 : decode cX1_read 6 = .ok (.iload_n 1, 1) := by decide +kernel
theorem dX1_read_7 : decode cX1_read 7 = .ok (.invokevirtual 23, 3) := by decide +kernel
theorem dX1_read_10 : decode cX1_read 10 = .ok (.if_icmp .lt 7, 3) := by decide +kernel
theorem dX1_read_13 : decode cX1_read 13 = .ok (.lconst 0, 1) := by decide +kernel
theorem dX1_read_14 : decode cX1_read 14 = .ok (.goto 14, 3) := by decide +kernel
theorem dX1_read_17 : decode cX1_read 17 = .ok (.aload_n 0, 1) := by decide +kernel
theorem dX1_read_18 : decode cX1_read 18 = .ok (.getfield 9, 3) := by decide +kernel
theorem dX1_read_21 : decode cX1_read 21 = .ok (.iload_n 1, 1) := by decide +kernel
theorem dX1_read_22 : decode cX1_read 22 = .ok (.bipush 30, 2) := by decide +kernel
theorem dX1_read_24 : decode cX1_read 24 = .ok (.imul, 1) := by decide +kernel
theorem dX1_read_25 : decode cX1_read 25 = .ok (.iload_n 2, 1) := by decide +kernel
theorem dX1_read_26 : decode cX1_read 26 = .ok (.iadd, 1) := by decide +kernel
theorem dX1_read_27 : decode cX1_read 27 = .ok (.laload, 1) := by decide +kernel
theorem dX1_read_28 : decode cX1_read 28 = .ok (.lreturn, 1) := by decide +kernel
theorem dX1_remove_0 : decode cX1_remove 0 = .ok (.aload_n 0, 1) := by decide +kernel
theorem dX1_remove_1 : decode cX1_remove 1 = .ok (.iload_n 1, 1) := by decide +kernel
theorem dX1_remove_2 : decode cX1_remove 2 = .ok (.invokevirtual 23, 3) := by decide +kernel
theorem dX1_remove_5 : decode cX1_remove 5 = .ok (.istore_n 2, 1) := by decide +kernel
theorem dX1_remove_6 : decode cX1_remove 6 = .ok (.iload_n 2, 1) := by decide +kernel
theorem dX1_remove_7 : decode cX1_remove 7 = .ok (.iconst (-1), 1) := by decide +kernel
theorem dX1_remove_8 : decode cX1_remove 8 = .ok (.if_icmp .eq 10, 3) := by decide +kernel
theorem dX1_remove_11 : decode cX1_remove 11 = .ok (.aload_n 0, 1) := by decide +kernel
theorem dX1_remove_12 : decode cX1_remove 12 = .ok (.getfield 15, 3) := by decide +kernel
theorem dX1_remove_15 : decode cX1_remove 15 = .ok (.iload_n 1, 1) := by decide +kernel
theorem dX1_remove_16 : decode cX1_remove 16 = .ok (.iconst (-1), 1) := by decide +kernel
theorem dX1_remove_17 : decode cX1_remove 17 = .ok (.iastore, 1) := by decide +kernel
theorem dX1_remove_18 : decode cX1_remove 18 = .ok (.iload_n 2, 1) := by decide +kernel
theorem dX1_remove_19 : decode cX1_remove 19 = .ok (.ireturn, 1) := by decide +kernel
theorem dX2_init_0 : decode cX2_init 0 = .ok (.aload_n 0, 1) := by decide +kernel
theorem dX2_init_1 : decode cX2_init 1 = .ok (.invokespecial 1, 3) := by decide +kernel
theorem dX2_init_4 : decode cX2_init 4 = .ok (.return_, 1) := by decide +kernel
theorem dX2_set_0 : decode cX2_set 0 = .ok (.aload_n 0, 1) := by decide +kernel
theorem dX2_set_1 : decode cX2_set 1 = .ok (.iload_n 1, 1) := by decide +kernel
theorem dX2_set_2 : decode cX2_set 2 = .ok (.putfield 7, 3) := by decide +kernel
theorem dX2_set_5 : decode cX2_set 5 = .ok (.aload_n 0, 1) := by decide +kernel
theorem dX2_set_6 : decode cX2_set 6 = .ok (.iload_n 2, 1) := by decide +kernel
theorem dX2_set_7 : decode cX2_set 7 = .ok (.putfield 13, 3) := by decide +kernel
theorem dX2_set_10 : decode cX2_set 10 = .ok (.aload_n 0, 1) := by decide +kernel
theorem dX2_set_11 : decode cX2_set 11 = .ok (.iload_n 3, 1) := by decide +kernel
theorem dX2_set_12 : decode cX2_set 12 = .ok (.putfield 16, 3) := by decide +kernel
theorem dX2_set_15 : decode cX2_set 15 = .ok (.aload_n 0, 1) := by decide +kernel
theorem dX2_set_16 : decode cX2_set 16 = .ok (.aload 4, 2) := by decide +kernel
theorem dX2_set_18 : decode cX2_set 18 = .ok (.getfield 19, 3) := by decide +kernel
theorem dX2_set_21 : decode cX2_set 21 = .ok (.putfield 25, 3) := by decide +kernel
theorem dX2_set_24 : decode cX2_set 24 = .ok (.aload_n 0, 1) := by decide +kernel
theorem dX2_set_25 : decode cX2_set 25 = .ok (.aload 4, 2) := by decide +kernel
theorem dX2_set_27 : decode cX2_set 27 = .ok (.getfield 26, 3) := by decide +kernel
theorem dX2_set_30 : decode cX2_set 30 = .ok (.putfield 29, 3) := by decide +kernel
theorem dX2_set_33 : decode cX2_set 33 = .ok (.aload_n 0, 1) := by decide +kernel
theorem dX2_set_34 : decode cX2_set 34 = .ok (.aload 4, 2) := by decide +kernel
theorem dX2_set_36 : decode cX2_set 36 = .ok (.getfield 30, 3) := by decide +kernel
theorem dX2_set_39 : decode cX2_set 39 = .ok (.putfield 33, 3) := by decide +kernel
theorem dX2_set_42 : decode cX2_set 42 = .ok (.aload_n 0, 1) := by decide +kernel
theorem dX2_set_43 : decode cX2_set 43 = .ok (.aload 4, 2) := by decide +kernel
theorem dX2_set_45 : decode cX2_set 45 = .ok (.getfield 34, 3) := by decide +kernel
theorem dX2_set_48 : decode cX2_set 48 = .ok (.putfield 37, 3) := by decide +kernel
theorem dX2_set_51 : decode cX2_set 51 = .ok (.return_, 1) := by decide +kernel
theorem dX2_precedes_0 : decode cX2_precedes 0 = .ok (.aload_n 0, 1) := by decide +kernel
theorem dX2_precedes_1 : decode cX2_precedes 1 = .ok (.getfield 7, 3) := by decide +kernel
theorem dX2_precedes_4 : decode cX2_precedes 4 = .ok (.aload_n 1, 1) := by decide +kernel
theorem dX2_precedes_5 : decode cX2_precedes 5 = .ok (.getfield 7, 3) := by decide +kernel
theorem dX2_precedes_8 : decode cX2_precedes 8 = .ok (.if_icmp .eq 20, 3) := by decide +kernel
theorem dX2_precedes_11 : decode cX2_precedes 11 = .ok (.aload_n 0, 1) := by decide +kernel
theorem dX2_precedes_12 : decode cX2_precedes 12 = .ok (.getfield 7, 3) := by decide +kernel
theorem dX2_precedes_15 : decode cX2_precedes 15 = .ok (.aload_n 1, 1) := by decide +kernel
theorem dX2_precedes_16 : decode cX2_precedes 16 = .ok (.getfield 7, 3) := by decide +kernel
theorem dX2_precedes_19 : decode cX2_precedes 19 = .ok (.if_icmp .ge 7, 3) := by decide +kernel
theorem dX2_precedes_22 : decode cX2_precedes 22 = .ok (.iconst 1, 1) := by decide +kernel
theorem dX2_precedes_23 : decode cX2_precedes 23 = .ok (.goto 4, 3) := by decide +kernel
theorem dX2_precedes_26 : decode cX2_precedes 26 = .ok (.iconst 0, 1) := by decide +kernel
theorem dX2_precedes_27 : decode cX2_precedes 27 = .ok (.ireturn, 1) := by decide +kernel
theorem dX2_precedes_28 : decode cX2_precedes 28 = .ok (.aload_n 0, 1) := by decide +kernel
theorem dX2_precedes_29 : decode cX2_precedes 29 = .ok (.getfield 25, 3) := by decide +kernel
theorem dX2_precedes_32 : decode cX2_precedes 32 = .ok (.aload_n 1, 1) := by decide +kernel
theorem dX2_precedes_33 : decode cX2_precedes 33 = .ok (.getfield 29, 3) := by decide +kernel
theorem dX2_precedes_36 : decode cX2_precedes 36 = .ok (.lmul, 1) := by decide +kernel
theorem dX2_precedes_37 : decode cX2_precedes 37 = .ok (.lstore_n 2, 1) := by decide +kernel
theorem dX2_precedes_38 : decode cX2_precedes 38 = .ok (.aload_n 1, 1) := by decide +kernel
theorem dX2_precedes_39 : decode cX2_precedes 39 = .ok (.getfield 25, 3) := by decide +kernel
theorem dX2_precedes_42 : decode cX2_precedes 42 = .ok (.aload_n 0, 1) := by decide +kernel
theorem dX2_precedes_43 : decode cX2_precedes 43 = .ok (.getfield 29, 3) := by decide +kernel
theorem dX2_precedes_46 : decode cX2_precedes 46 = .ok (.lmul, 1) := by decide +kernel
theorem dX2_precedes_47 : decode cX2_precedes 47 = .ok (.lstore 4, 2) := by decide +kernel
theorem dX2_precedes_49 : decode cX2_precedes 49 = .ok (.lload_n 2, 1) := by decide +kernel
theorem dX2_precedes_50 : decode cX2_precedes 50 = .ok (.lload 4, 2) := by decide +kernel
theorem dX2_precedes_52 : decode cX2_precedes 52 = .ok (.lcmp, 1) := by decide +kernel
theorem dX2_precedes_53 : decode cX2_precedes 53 = .ok (.ifCond .eq 16, 3) := by decide +kernel
theorem dX2_precedes_56 : decode cX2_precedes 56 = .ok (.lload_n 2, 1) := by decide +kernel
theorem dX2_precedes_57 : decode cX2_precedes 57 = .ok (.lload 4, 2) := by decide +kernel
theorem dX2_precedes_59 : decode cX2_precedes 59 = .ok (.lcmp, 1) := by decide +kernel
theorem dX2_precedes_60 : decode cX2_precedes 60 = .ok (.ifCond .ge 7, 3) := by decide +kernel
theorem dX2_precedes_63 : decode cX2_precedes 63 = .ok (.iconst 1, 1) := by decide +kernel
theorem dX2_precedes_64 : decode cX2_precedes 64 = .ok (.goto 4, 3) := by decide +kernel
theorem dX2_precedes_67 : decode cX2_precedes 67 = .ok (.iconst 0, 1) := by decide +kernel
theorem dX2_precedes_68 : decode cX2_precedes 68 = .ok (.ireturn, 1) := by decide +kernel
theorem dX2_precedes_69 : decode cX2_precedes 69 = .ok (.aload_n 0, 1) := by decide +kernel
theorem dX2_precedes_70 : decode cX2_precedes 70 = .ok (.getfield 13, 3) := by decide +kernel
theorem dX2_precedes_73 : decode cX2_precedes 73 = .ok (.aload_n 1, 1) := by decide +kernel
theorem dX2_precedes_74 : decode cX2_precedes 74 = .ok (.getfield 13, 3) := by decide +kernel
theorem dX2_precedes_77 : decode cX2_precedes 77 = .ok (.if_icmp .eq 22, 3) := by decide +kernel
theorem dX2_precedes_80 : decode cX2_precedes 80 = .ok (.aload_n 0, 1) := by decide +kernel
theorem dX2_precedes_81 : decode cX2_precedes 81 = .ok (.getfield 13, 3) := by decide +kernel
theorem dX2_precedes_84 : decode cX2_precedes 84 = .ok (.aload_n 1, 1) := by decide +kernel
theorem dX2_precedes_85 : decode cX2_precedes 85 = .ok (.getfield 13, 3) := by decide +kernel
theorem dX2_precedes_88 : decode cX2_precedes 88 = .ok (.if_icmp .ge 7, 3) := by decide +kernel
theorem dX2_precedes_91 : decode cX2_precedes 91 = .ok (.iconst 1, 1) := by decide +kernel
theorem dX2_precedes_92 : decode cX2_precedes 92 = .ok (.goto 23, 3) := by decide +kernel
theorem dX2_precedes_95 : decode cX2_precedes 95 = .ok (.iconst 0, 1) := by decide +kernel
theorem dX2_precedes_96 : decode cX2_precedes 96 = .ok (.goto 19, 3) := by decide +kernel
theorem dX2_precedes_99 : decode cX2_precedes 99 = .ok (.aload_n 0, 1) := by decide +kernel
theorem dX2_precedes_100 : decode cX2_precedes 100 = .ok (.getfield 16, 3) := by decide +kernel
theorem dX2_precedes_103 : decode cX2_precedes 103 = .ok (.aload_n 1, 1) := by decide +kernel
theorem dX2_precedes_104 : decode cX2_precedes 104 = .ok (.getfield 16, 3) := by decide +kernel
theorem dX2_precedes_107 : decode cX2_precedes 107 = .ok (.if_icmp .ge 7, 3) := by decide +kernel
theorem dX2_precedes_110 : decode cX2_precedes 110 = .ok (.iconst 1, 1) := by decide +kernel
theorem dX2_precedes_111 : decode cX2_precedes 111 = .ok (.goto 4, 3) := by decide +kernel
theorem dX2_precedes_114 : decode cX2_precedes 114 = .ok (.iconst 0, 1) := by decide +kernel
theorem dX2_precedes_115 : decode cX2_precedes 115 = .ok (.ireturn, 1) := by decide +kernel
theorem dX3_init_0 : decode cX3_init 0 = .ok (.aload_n 0, 1) := by decide +kernel
theorem dX3_init_1 : decode cX3_init 1 = .ok (.invokespecial 3, 3) := by decide +kernel
theorem dX3_init_4 : decode cX3_init 4 = .ok (.aload_n 0, 1) := by decide +kernel
theorem dX3_init_5 : decode cX3_init 5 = .ok (.sipush 156, 3) := by decide +kernel
theorem dX3_init_8 : decode cX3_init 8 = .ok (.anewarray 9, 3) := by decide +kernel
theorem dX3_init_11 : decode cX3_init 11 = .ok (.putfield 11, 3) := by decide +kernel
theorem dX3_init_14 : decode cX3_init 14 = .ok (.aload_n 0, 1) := by decide +kernel
theorem dX3_init_15 : decode cX3_init 15 = .ok (.iconst (-1), 1) := by decide +kernel
theorem dX3_init_16 : decode cX3_init 16 = .ok (.putfield 17, 3) := by decide +kernel
theorem dX3_init_19 : decode cX3_init 19 = .ok (.return_, 1) := by decide +kernel
theorem dX3_at_0 : decode cX3_at 0 = .ok (.iload_n 1, 1) := by decide +kernel
theorem dX3_at_1 : decode cX3_at 1 = .ok (.ifCond .lt 11, 3) := by decide +kernel
theorem dX3_at_4 : decode cX3_at 4 = .ok (.iload_n 1, 1) := by decide +kernel
theorem dX3_at_5 : decode cX3_at 5 = .ok (.aload_n 0, 1) := by decide +kernel
theorem dX3_at_6 : decode cX3_at 6 = .ok (.getfield 21, 3) := by decide +kernel
theorem dX3_at_9 : decode cX3_at 9 = .ok (.if_icmp .lt 7, 3) := by decide +kernel
theorem dX3_at_12 : decode cX3_at 12 = .ok (.aconst_null, 1) := by decide +kernel
theorem dX3_at_13 : decode cX3_at 13 = .ok (.goto 9, 3) := by decide +kernel
theorem dX3_at_16 : decode cX3_at 16 = .ok (.aload_n 0, 1) := by decide +kernel
theorem dX3_at_17 : decode cX3_at 17 = .ok (.getfield 11, 3) := by decide +kernel
theorem dX3_at_20 : decode cX3_at 20 = .ok (.iload_n 1, 1) := by decide +kernel
theorem dX3_at_21 : decode cX3_at 21 = .ok (.aaload, 1) := by decide +kernel
theorem dX3_at_22 : decode cX3_at 22 = .ok (.areturn, 1) := by decide +kernel
theorem dX3_insert_0 : decode cX3_insert 0 = .ok (.aload_n 0, 1) := by decide +kernel
theorem dX3_insert_1 : decode cX3_insert 1 = .ok (.getfield 21, 3) := by decide +kernel
theorem dX3_insert_4 : decode cX3_insert 4 = .ok (.aload_n 0, 1) := by decide +kernel
theorem dX3_insert_5 : decode cX3_insert 5 = .ok (.getfield 11, 3) := by decide +kernel
theorem dX3_insert_8 : decode cX3_insert 8 = .ok (.arraylength, 1) := by decide +kernel
theorem dX3_insert_9 : decode cX3_insert 9 = .ok (.if_icmp .lt 4, 3) := by decide +kernel
theorem dX3_insert_12 : decode cX3_insert 12 = .ok (.return_, 1) := by decide +kernel
theorem dX3_insert_13 : decode cX3_insert 13 = .ok (.aload_n 0, 1) := by decide +kernel
theorem dX3_insert_14 : decode cX3_insert 14 = .ok (.getfield 11, 3) := by decide +kernel
theorem dX3_insert_17 : decode cX3_insert 17 = .ok (.aload_n 0, 1) := by decide +kernel
theorem dX3_insert_18 : decode cX3_insert 18 = .ok (.getfield 21, 3) := by decide +kernel
theorem dX3_insert_21 : decode cX3_insert 21 = .ok (.aaload, 1) := by decide +kernel
theorem dX3_insert_22 : decode cX3_insert 22 = .ok (.ifnonnull 19, 3) := by decide +kernel
theorem dX3_insert_25 : decode cX3_insert 25 = .ok (.aload_n 0, 1) := by decide +kernel
theorem dX3_insert_26 : decode cX3_insert 26 = .ok (.getfield 11, 3) := by decide +kernel
theorem dX3_insert_29 : decode cX3_insert 29 = .ok (.aload_n 0, 1) := by decide +kernel
theorem dX3_insert_30 : decode cX3_insert 30 = .ok (.getfield 21, 3) := by decide +kernel
theorem dX3_insert_33 : decode cX3_insert 33 = .ok (.new 9, 3) := by decide +kernel
theorem dX3_insert_36 : decode cX3_insert 36 = .ok (.dup, 1) := by decide +kernel
theorem dX3_insert_37 : decode cX3_insert 37 = .ok (.invokespecial 24, 3) := by decide +kernel
theorem dX3_insert_40 : decode cX3_insert 40 = .ok (.aastore, 1) := by decide +kernel
theorem dX3_insert_41 : decode cX3_insert 41 = .ok (.aload_n 0, 1) := by decide +kernel
theorem dX3_insert_42 : decode cX3_insert 42 = .ok (.getfield 11, 3) := by decide +kernel
theorem dX3_insert_45 : decode cX3_insert 45 = .ok (.aload_n 0, 1) := by decide +kernel
theorem dX3_insert_46 : decode cX3_insert 46 = .ok (.getfield 21, 3) := by decide +kernel
theorem dX3_insert_49 : decode cX3_insert 49 = .ok (.aaload, 1) := by decide +kernel
theorem dX3_insert_50 : decode cX3_insert 50 = .ok (.astore 5, 2) := by decide +kernel
theorem dX3_insert_52 : decode cX3_insert 52 = .ok (.aload 5, 2) := by decide +kernel
theorem dX3_insert_54 : decode cX3_insert 54 = .ok (.iload_n 1, 1) := by decide +kernel
theorem dX3_insert_55 : decode cX3_insert 55 = .ok (.iload_n 2, 1) := by decide +kernel
theorem dX3_insert_56 : decode cX3_insert 56 = .ok (.iload_n 3, 1) := by decide +kernel
theorem dX3_insert_57 : decode cX3_insert 57 = .ok (.aload 4, 2) := by decide +kernel
theorem dX3_insert_59 : decode cX3_insert 59 = .ok (.invokevirtual 25, 3) := by decide +kernel
theorem dX3_insert_62 : decode cX3_insert 62 = .ok (.aload_n 0, 1) := by decide +kernel
theorem dX3_insert_63 : decode cX3_insert 63 = .ok (.getfield 21, 3) := by decide +kernel
theorem dX3_insert_66 : decode cX3_insert 66 = .ok (.istore 6, 2) := by decide +kernel
theorem dX3_insert_68 : decode cX3_insert 68 = .ok (.iload 6, 2) := by decide +kernel
theorem dX3_insert_70 : decode cX3_insert 70 = .ok (.ifCond .le 42, 3) := by decide +kernel
theorem dX3_insert_73 : decode cX3_insert 73 = .ok (.aload 5, 2) := by decide +kernel
theorem dX3_insert_75 : decode cX3_insert 75 = .ok (.aload_n 0, 1) := by decide +kernel
theorem dX3_insert_76 : decode cX3_insert 76 = .ok (.getfield 11, 3) := by decide +kernel
theorem dX3_insert_79 : decode cX3_insert 79 = .ok (.iload 6, 2) := by decide +kernel
theorem dX3_insert_81 : decode cX3_insert 81 = .ok (.iconst 1, 1) := by decide +kernel
theorem dX3_insert_82 : decode cX3_insert 82 = .ok (.isub, 1) := by decide +kernel
theorem dX3_insert_83 : decode cX3_insert 83 = .ok (.aaload, 1) := by decide +kernel
theorem dX3_insert_84 : decode cX3_insert 84 = .ok (.invokevirtual 29, 3) := by decide +kernel
theorem dX3_insert_87 : decode cX3_insert 87 = .ok (.ifCond .eq 25, 3) := by decide +kernel
theorem dX3_insert_90 : decode cX3_insert 90 = .ok (.aload_n 0, 1) := by decide +kernel
theorem dX3_insert_91 : decode cX3_insert 91 = .ok (.getfield 11, 3) := by decide +kernel
theorem dX3_insert_94 : decode cX3_insert 94 = .ok (.iload 6, 2) := by decide +kernel
theorem dX3_insert_96 : decode cX3_insert 96 = .ok (.aload_n 0, 1) := by decide +kernel
theorem dX3_insert_97 : decode cX3_insert 97 = .ok (.getfield 11, 3) := by decide +kernel
theorem dX3_insert_100 : decode cX3_insert 100 = .ok (.iload 6, 2) := by decide +kernel
theorem dX3_insert_102 : decode cX3_insert 102 = .ok (.iconst 1, 1) := by decide +kernel
theorem dX3_insert_103 : decode cX3_insert 103 = .ok (.isub, 1) := by decide +kernel
theorem dX3_insert_104 : decode cX3_insert 104 = .ok (.aaload, 1) := by decide +kernel
theorem dX3_insert_105 : decode cX3_insert 105 = .ok (.aastore, 1) := by decide +kernel
theorem dX3_insert_106 : decode cX3_insert 106 = .ok (.iinc 6 (-1), 3) := by decide +kernel
theorem dX3_insert_109 : decode cX3_insert 109 = .ok (.goto (-41), 3) := by decide +kernel
theorem dX3_insert_112 : decode cX3_insert 112 = .ok (.aload_n 0, 1) := by decide +kernel
theorem dX3_insert_113 : decode cX3_insert 113 = .ok (.getfield 11, 3) := by decide +kernel
theorem dX3_insert_116 : decode cX3_insert 116 = .ok (.iload 6, 2) := by decide +kernel
theorem dX3_insert_118 : decode cX3_insert 118 = .ok (.aload 5, 2) := by decide +kernel
theorem dX3_insert_120 : decode cX3_insert 120 = .ok (.aastore, 1) := by decide +kernel
theorem dX3_insert_121 : decode cX3_insert 121 = .ok (.aload_n 0, 1) := by decide +kernel
theorem dX3_insert_122 : decode cX3_insert 122 = .ok (.dup, 1) := by decide +kernel
theorem dX3_insert_123 : decode cX3_insert 123 = .ok (.getfield 21, 3) := by decide +kernel
theorem dX3_insert_126 : decode cX3_insert 126 = .ok (.iconst 1, 1) := by decide +kernel
theorem dX3_insert_127 : decode cX3_insert 127 = .ok (.iadd, 1) := by decide +kernel
theorem dX3_insert_128 : decode cX3_insert 128 = .ok (.putfield 21, 3) := by decide +kernel
theorem dX3_insert_131 : decode cX3_insert 131 = .ok (.return_, 1) := by decide +kernel
theorem dX4_init_0 : decode cX4_init 0 = .ok (.aload_n 0, 1) := by decide +kernel
theorem dX4_init_1 : decode cX4_init 1 = .ok (.invokespecial 1, 3) := by decide +kernel
theorem dX4_init_4 : decode cX4_init 4 = .ok (.aload_n 0, 1) := by decide +kernel
theorem dX4_init_5 : decode cX4_init 5 = .ok (.bipush 40, 2) := by decide +kernel
theorem dX4_init_7 : decode cX4_init 7 = .ok (.newarray .byte, 2) := by decide +kernel
theorem dX4_init_9 : decode cX4_init 9 = .ok (.putfield 9, 3) := by decide +kernel
theorem dX4_init_12 : decode cX4_init 12 = .ok (.return_, 1) := by decide +kernel
theorem dX4_showFraction_0 : decode cX4_showFraction 0 = .ok (.lload_n 1, 1) := by decide +kernel
theorem dX4_showFraction_1 : decode cX4_showFraction 1 = .ok (.invokestatic 13, 3) := by decide +kernel
theorem dX4_showFraction_4 : decode cX4_showFraction 4 = .ok (.lstore 5, 2) := by decide +kernel
theorem dX4_showFraction_6 : decode cX4_showFraction 6 = .ok (.lload 5, 2) := by decide +kernel
theorem dX4_showFraction_8 : decode cX4_showFraction 8 = .ok (.lload_n 3, 1) := by decide +kernel
theorem dX4_showFraction_9 : decode cX4_showFraction 9 = .ok (.invokestatic 19, 3) := by decide +kernel
theorem dX4_showFraction_12 : decode cX4_showFraction 12 = .ok (.lstore 7, 2) := by decide +kernel
theorem dX4_showFraction_14 : decode cX4_showFraction 14 = .ok (.lload 7, 2) := by decide +kernel
theorem dX4_showFraction_16 : decode cX4_showFraction 16 = .ok (.lconst 1, 1) := by decide +kernel
theorem dX4_showFraction_17 : decode cX4_showFraction 17 = .ok (.lcmp, 1) := by decide +kernel
theorem dX4_showFraction_18 : decode cX4_showFraction 18 = .ok (.ifCond .ge 4, 3) := by decide +kernel
theorem dX4_showFraction_21 : decode cX4_showFraction 21 = .ok (.return_, 1) := by decide +kernel
theorem dX4_showFraction_22 : decode cX4_showFraction 22 = .ok (.aload_n 0, 1) := by decide +kernel
theorem dX4_showFraction_23 : decode cX4_showFraction 23 = .ok (.iconst 0, 1) := by decide +kernel
theorem dX4_showFraction_24 : decode cX4_showFraction 24 = .ok (.putfield 23, 3) := by decide +kernel
theorem dX4_showFraction_27 : decode cX4_showFraction 27 = .ok (.lload_n 1, 1) := by decide +kernel
theorem dX4_showFraction_28 : decode cX4_showFraction 28 = .ok (.lconst 0, 1) := by decide +kernel
theorem dX4_showFraction_29 : decode cX4_showFraction 29 = .ok (.lcmp, 1) := by decide +kernel
theorem dX4_showFraction_30 : decode cX4_showFraction 30 = .ok (.ifCond .ge 9, 3) := by decide +kernel
theorem dX4_showFraction_33 : decode cX4_showFraction 33 = .ok (.aload_n 0, 1) := by decide +kernel
theorem dX4_showFraction_34 : decode cX4_showFraction 34 = .ok (.bipush 45, 2) := by decide +kernel
theorem dX4_showFraction_36 : decode cX4_showFraction 36 = .ok (.invokevirtual 27, 3) := by decide +kernel
theorem dX4_showFraction_39 : decode cX4_showFraction 39 = .ok (.aload_n 0, 1) := by decide +kernel
theorem dX4_showFraction_40 : decode cX4_showFraction 40 = .ok (.lload 5, 2) := by decide +kernel
theorem dX4_showFraction_42 : decode cX4_showFraction 42 = .ok (.lload 7, 2) := by decide +kernel
theorem dX4_showFraction_44 : decode cX4_showFraction 44 = .ok (.ldiv, 1) := by decide +kernel
theorem dX4_showFraction_45 : decode cX4_showFraction 45 = .ok (.invokevirtual 31, 3) := by decide +kernel
theorem dX4_showFraction_48 : decode cX4_showFraction 48 = .ok (.lload_n 3, 1) := by decide +kernel
theorem dX4_showFraction_49 : decode cX4_showFraction 49 = .ok (.lload 7, 2) := by decide +kernel
theorem dX4_showFraction_51 : decode cX4_showFraction 51 = .ok (.ldiv, 1) := by decide +kernel
theorem dX4_showFraction_52 : decode cX4_showFraction 52 = .ok (.lconst 1, 1) := by decide +kernel
theorem dX4_showFraction_53 : decode cX4_showFraction 53 = .ok (.lcmp, 1) := by decide +kernel
theorem dX4_showFraction_54 : decode cX4_showFraction 54 = .ok (.ifCond .eq 17, 3) := by decide +kernel
theorem dX4_showFraction_57 : decode cX4_showFraction 57 = .ok (.aload_n 0, 1) := by decide +kernel
theorem dX4_showFraction_58 : decode cX4_showFraction 58 = .ok (.bipush 47, 2) := by decide +kernel
theorem dX4_showFraction_60 : decode cX4_showFraction 60 = .ok (.invokevirtual 27, 3) := by decide +kernel
theorem dX4_showFraction_63 : decode cX4_showFraction 63 = .ok (.aload_n 0, 1) := by decide +kernel
theorem dX4_showFraction_64 : decode cX4_showFraction 64 = .ok (.lload_n 3, 1) := by decide +kernel
theorem dX4_showFraction_65 : decode cX4_showFraction 65 = .ok (.lload 7, 2) := by decide +kernel
theorem dX4_showFraction_67 : decode cX4_showFraction 67 = .ok (.ldiv, 1) := by decide +kernel
theorem dX4_showFraction_68 : decode cX4_showFraction 68 = .ok (.invokevirtual 31, 3) := by decide +kernel
theorem dX4_showFraction_71 : decode cX4_showFraction 71 = .ok (.return_, 1) := by decide +kernel
theorem dX4_commonDivisor_0 : decode cX4_commonDivisor 0 = .ok (.iconst 0, 1) := by decide +kernel
theorem dX4_commonDivisor_1 : decode cX4_commonDivisor 1 = .ok (.istore 4, 2) := by decide +kernel
theorem dX4_commonDivisor_3 : decode cX4_commonDivisor 3 = .ok (.iload 4, 2) := by decide +kernel
theorem dX4_commonDivisor_5 : decode cX4_commonDivisor 5 = .ok (.bipush 100, 2) := by decide +kernel
theorem dX4_commonDivisor_7 : decode cX4_commonDivisor 7 = .ok (.if_icmp .ge 25, 3) := by decide +kernel
theorem dX4_commonDivisor_10 : decode cX4_commonDivisor 10 = .ok (.lload_n 2, 1) := by decide +kernel
theorem dX4_commonDivisor_11 : decode cX4_commonDivisor 11 = .ok (.lconst 0, 1) := by decide +kernel
theorem dX4_commonDivisor_12 : decode cX4_commonDivisor 12 = .ok (.lcmp, 1) := by decide +kernel
theorem dX4_commonDivisor_13 : decode cX4_commonDivisor 13 = .ok (.ifCond .eq 19, 3) := by decide +kernel
theorem dX4_commonDivisor_16 : decode cX4_commonDivisor 16 = .ok (.lload_n 0, 1) := by decide +kernel
theorem dX4_commonDivisor_17 : decode cX4_commonDivisor 17 = .ok (.lload_n 2, 1) := by decide +kernel
theorem dX4_commonDivisor_18 : decode cX4_commonDivisor 18 = .ok (.lrem, 1) := by decide +kernel
theorem dX4_commonDivisor_19 : decode cX4_commonDivisor 19 = .ok (.lstore 5, 2) := by decide +kernel
theorem dX4_commonDivisor_21 : decode cX4_commonDivisor 21 = .ok (.lload_n 2, 1) := by decide +kernel
theorem dX4_commonDivisor_22 : decode cX4_commonDivisor 22 = .ok (.lstore_n 0, 1) := by decide +kernel
theorem dX4_commonDivisor_23 : decode cX4_commonDivisor 23 = .ok (.lload 5, 2) := by decide +kernel
theorem dX4_commonDivisor_25 : decode cX4_commonDivisor 25 = .ok (.lstore_n 2, 1) := by decide +kernel
theorem dX4_commonDivisor_26 : decode cX4_commonDivisor 26 = .ok (.iinc 4 1, 3) := by decide +kernel
theorem dX4_commonDivisor_29 : decode cX4_commonDivisor 29 = .ok (.goto (-26), 3) := by decide +kernel
theorem dX4_commonDivisor_32 : decode cX4_commonDivisor 32 = .ok (.lload_n 0, 1) := by decide +kernel
theorem dX4_commonDivisor_33 : decode cX4_commonDivisor 33 = .ok (.lreturn, 1) := by decide +kernel
theorem dX4_addNumber_0 : decode cX4_addNumber 0 = .ok (.lconst 1, 1) := by decide +kernel
theorem dX4_addNumber_1 : decode cX4_addNumber 1 = .ok (.lstore_n 3, 1) := by decide +kernel
theorem dX4_addNumber_2 : decode cX4_addNumber 2 = .ok (.iconst 1, 1) := by decide +kernel
theorem dX4_addNumber_3 : decode cX4_addNumber 3 = .ok (.istore 5, 2) := by decide +kernel
theorem dX4_addNumber_5 : decode cX4_addNumber 5 = .ok (.iload 5, 2) := by decide +kernel
theorem dX4_addNumber_7 : decode cX4_addNumber 7 = .ok (.bipush 19, 2) := by decide +kernel
theorem dX4_addNumber_9 : decode cX4_addNumber 9 = .ok (.if_icmp .ge 25, 3) := by decide +kernel
theorem dX4_addNumber_12 : decode cX4_addNumber 12 = .ok (.lload_n 1, 1) := by decide +kernel
theorem dX4_addNumber_13 : decode cX4_addNumber 13 = .ok (.lload_n 3, 1) := by decide +kernel
theorem dX4_addNumber_14 : decode cX4_addNumber 14 = .ok (.ldiv, 1) := by decide +kernel
theorem dX4_addNumber_15 : decode cX4_addNumber 15 = .ok (.ldc2_w 35, 3) := by decide +kernel
theorem dX4_addNumber_18 : decode cX4_addNumber 18 = .ok (.lcmp, 1) := by decide +kernel
theorem dX4_addNumber_19 : decode cX4_addNumber 19 = .ok (.ifCond .lt 15, 3) := by decide +kernel
theorem dX4_addNumber_22 : decode cX4_addNumber 22 = .ok (.lload_n 3, 1) := by decide +kernel
theorem dX4_addNumber_23 : decode cX4_addNumber 23 = .ok (.ldc2_w 35, 3) := by decide +kernel
theorem dX4_addNumber_26 : decode cX4_addNumber 26 = .ok (.lmul, 1) := by decide +kernel
theorem dX4_addNumber_27 : decode cX4_addNumber 27 = .ok (.lstore_n 3, 1) := by decide +kernel
theorem dX4_addNumber_28 : decode cX4_addNumber 28 = .ok (.iinc 5 1, 3) := by decide +kernel
theorem dX4_addNumber_31 : decode cX4_addNumber 31 = .ok (.goto (-26), 3) := by decide +kernel
theorem dX4_addNumber_34 : decode cX4_addNumber 34 = .ok (.iconst 0, 1) := by decide +kernel
theorem dX4_addNumber_35 : decode cX4_addNumber 35 = .ok (.istore 5, 2) := by decide +kernel
theorem dX4_addNumber_37 : decode cX4_addNumber 37 = .ok (.iload 5, 2) := by decide +kernel
theorem dX4_addNumber_39 : decode cX4_addNumber 39 = .ok (.bipush 19, 2) := by decide +kernel
theorem dX4_addNumber_41 : decode cX4_addNumber 41 = .ok (.if_icmp .ge 38, 3) := by decide +kernel
theorem dX4_addNumber_44 : decode cX4_addNumber 44 = .ok (.lload_n 3, 1) := by decide +kernel
theorem dX4_addNumber_45 : decode cX4_addNumber 45 = .ok (.lconst 0, 1) := by decide +kernel
theorem dX4_addNumber_46 : decode cX4_addNumber 46 = .ok (.lcmp, 1) := by decide +kernel
theorem dX4_addNumber_47 : decode cX4_addNumber 47 = .ok (.ifCond .le 32, 3) := by decide +kernel
theorem dX4_addNumber_50 : decode cX4_addNumber 50 = .ok (.aload_n 0, 1) := by decide +kernel
theorem dX4_addNumber_51 : decode cX4_addNumber 51 = .ok (.ldc2_w 37, 3) := by decide +kernel
theorem dX4_addNumber_54 : decode cX4_addNumber 54 = .ok (.lload_n 1, 1) := by decide +kernel
theorem dX4_addNumber_55 : decode cX4_addNumber 55 = .ok (.lload_n 3, 1) := by decide +kernel
theorem dX4_addNumber_56 : decode cX4_addNumber 56 = .ok (.ldiv, 1) := by decide +kernel
theorem dX4_addNumber_57 : decode cX4_addNumber 57 = .ok (.ldc2_w 35, 3) := by decide +kernel
theorem dX4_addNumber_60 : decode cX4_addNumber 60 = .ok (.lrem, 1) := by decide +kernel
theorem dX4_addNumber_61 : decode cX4_addNumber 61 = .ok (.ladd, 1) := by decide +kernel
theorem dX4_addNumber_62 : decode cX4_addNumber 62 = .ok (.l2i, 1) := by decide +kernel
theorem dX4_addNumber_63 : decode cX4_addNumber 63 = .ok (.i2c, 1) := by decide +kernel
theorem dX4_addNumber_64 : decode cX4_addNumber 64 = .ok (.invokevirtual 27, 3) := by decide +kernel
theorem dX4_addNumber_67 : decode cX4_addNumber 67 = .ok (.lload_n 3, 1) := by decide +kernel
theorem dX4_addNumber_68 : decode cX4_addNumber 68 = .ok (.ldc2_w 35, 3) := by decide +kernel
theorem dX4_addNumber_71 : decode cX4_addNumber 71 = .ok (.ldiv, 1) := by decide +kernel
theorem dX4_addNumber_72 : decode cX4_addNumber 72 = .ok (.lstore_n 3, 1) := by decide +kernel
theorem dX4_addNumber_73 : decode cX4_addNumber 73 = .ok (.iinc 5 1, 3) := by decide +kernel
theorem dX4_addNumber_76 : decode cX4_addNumber 76 = .ok (.goto (-39), 3) := by decide +kernel
theorem dX4_addNumber_79 : decode cX4_addNumber 79 = .ok (.return_, 1) := by decide +kernel
theorem dX4_add_0 : decode cX4_add 0 = .ok (.aload_n 0, 1) := by decide +kernel
theorem dX4_add_1 : decode cX4_add 1 = .ok (.getfield 23, 3) := by decide +kernel
theorem dX4_add_4 : decode cX4_add 4 = .ok (.aload_n 0, 1) := by decide +kernel
theorem dX4_add_5 : decode cX4_add 5 = .ok (.getfield 9, 3) := by decide +kernel
theorem dX4_add_8 : decode cX4_add 8 = .ok (.arraylength, 1) := by decide +kernel
theorem dX4_add_9 : decode cX4_add 9 = .ok (.if_icmp .ge 24, 3) := by decide +kernel
theorem dX4_add_12 : decode cX4_add 12 = .ok (.aload_n 0, 1) := by decide +kernel
theorem dX4_add_13 : decode cX4_add 13 = .ok (.getfield 9, 3) := by decide +kernel
theorem dX4_add_16 : decode cX4_add 16 = .ok (.aload_n 0, 1) := by decide +kernel
theorem dX4_add_17 : decode cX4_add 17 = .ok (.getfield 23, 3) := by decide +kernel
theorem dX4_add_20 : decode cX4_add 20 = .ok (.iload_n 1, 1) := by decide +kernel
theorem dX4_add_21 : decode cX4_add 21 = .ok (.i2b, 1) := by decide +kernel
theorem dX4_add_22 : decode cX4_add 22 = .ok (.bastore, 1) := by decide +kernel
theorem dX4_add_23 : decode cX4_add 23 = .ok (.aload_n 0, 1) := by decide +kernel
theorem dX4_add_24 : decode cX4_add 24 = .ok (.dup, 1) := by decide +kernel
theorem dX4_add_25 : decode cX4_add 25 = .ok (.getfield 23, 3) := by decide +kernel
theorem dX4_add_28 : decode cX4_add 28 = .ok (.iconst 1, 1) := by decide +kernel
theorem dX4_add_29 : decode cX4_add 29 = .ok (.iadd, 1) := by decide +kernel
theorem dX4_add_30 : decode cX4_add 30 = .ok (.putfield 23, 3) := by decide +kernel
theorem dX4_add_33 : decode cX4_add 33 = .ok (.return_, 1) := by decide +kernel
theorem dX5_init_0 : decode cX5_init 0 = .ok (.aload_n 0, 1) := by decide +kernel
theorem dX5_init_1 : decode cX5_init 1 = .ok (.invokespecial 3, 3) := by decide +kernel
theorem dX5_init_4 : decode cX5_init 4 = .ok (.aload_n 0, 1) := by decide +kernel
theorem dX5_init_5 : decode cX5_init 5 = .ok (.bipush 12, 2) := by decide +kernel
theorem dX5_init_7 : decode cX5_init 7 = .ok (.newarray .int, 2) := by decide +kernel
theorem dX5_init_9 : decode cX5_init 9 = .ok (.putfield 11, 3) := by decide +kernel
theorem dX5_init_12 : decode cX5_init 12 = .ok (.aload_n 0, 1) := by decide +kernel
theorem dX5_init_13 : decode cX5_init 13 = .ok (.bipush 12, 2) := by decide +kernel
theorem dX5_init_15 : decode cX5_init 15 = .ok (.newarray .int, 2) := by decide +kernel
theorem dX5_init_17 : decode cX5_init 17 = .ok (.putfield 15, 3) := by decide +kernel
theorem dX5_init_20 : decode cX5_init 20 = .ok (.aload_n 0, 1) := by decide +kernel
theorem dX5_init_21 : decode cX5_init 21 = .ok (.bipush 12, 2) := by decide +kernel
theorem dX5_init_23 : decode cX5_init 23 = .ok (.newarray .int, 2) := by decide +kernel
theorem dX5_init_25 : decode cX5_init 25 = .ok (.putfield 18, 3) := by decide +kernel
theorem dX5_init_28 : decode cX5_init 28 = .ok (.aload_n 0, 1) := by decide +kernel
theorem dX5_init_29 : decode cX5_init 29 = .ok (.sipush 4096, 3) := by decide +kernel
theorem dX5_init_32 : decode cX5_init 32 = .ok (.newarray .int, 2) := by decide +kernel
theorem dX5_init_34 : decode cX5_init 34 = .ok (.putfield 21, 3) := by decide +kernel
theorem dX5_init_37 : decode cX5_init 37 = .ok (.return_, 1) := by decide +kernel
theorem dX5_find_0 : decode cX5_find 0 = .ok (.aload_n 0, 1) := by decide +kernel
theorem dX5_find_1 : decode cX5_find 1 = .ok (.iconst 0, 1) := by decide +kernel
theorem dX5_find_2 : decode cX5_find 2 = .ok (.putfield 24, 3) := by decide +kernel
theorem dX5_find_5 : decode cX5_find 5 = .ok (.aload_n 0, 1) := by decide +kernel
theorem dX5_find_6 : decode cX5_find 6 = .ok (.lconst 0, 1) := by decide +kernel
theorem dX5_find_7 : decode cX5_find 7 = .ok (.putfield 28, 3) := by decide +kernel
theorem dX5_find_10 : decode cX5_find 10 = .ok (.iconst 0, 1) := by decide +kernel
theorem dX5_find_11 : decode cX5_find 11 = .ok (.istore_n 2, 1) := by decide +kernel
theorem dX5_find_12 : decode cX5_find 12 = .ok (.iload_n 2, 1) := by decide +kernel
theorem dX5_find_13 : decode cX5_find 13 = .ok (.aload_n 1, 1) := by decide +kernel
theorem dX5_find_14 : decode cX5_find 14 = .ok (.getfield 32, 3) := by decide +kernel
theorem dX5_find_17 : decode cX5_find 17 = .ok (.if_icmp .ge 49, 3) := by decide +kernel
theorem dX5_find_20 : decode cX5_find 20 = .ok (.aload_n 1, 1) := by decide +kernel
theorem dX5_find_21 : decode cX5_find 21 = .ok (.getfield 37, 3) := by decide +kernel
theorem dX5_find_24 : decode cX5_find 24 = .ok (.iload_n 2, 1) := by decide +kernel
theorem dX5_find_25 : decode cX5_find 25 = .ok (.laload, 1) := by decide +kernel
theorem dX5_find_26 : decode cX5_find 26 = .ok (.invokestatic 41, 3) := by decide +kernel
theorem dX5_find_29 : decode cX5_find 29 = .ok (.bipush 12, 2) := by decide +kernel
theorem dX5_find_31 : decode cX5_find 31 = .ok (.if_icmp .le 14, 3) := by decide +kernel
theorem dX5_find_34 : decode cX5_find 34 = .ok (.aload_n 0, 1) := by decide +kernel
theorem dX5_find_35 : decode cX5_find 35 = .ok (.iconst (-1), 1) := by decide +kernel
theorem dX5_find_36 : decode cX5_find 36 = .ok (.putfield 24, 3) := by decide +kernel
theorem dX5_find_39 : decode cX5_find 39 = .ok (.aload_n 0, 1) := by decide +kernel
theorem dX5_find_40 : decode cX5_find 40 = .ok (.lconst 0, 1) := by decide +kernel
theorem dX5_find_41 : decode cX5_find 41 = .ok (.putfield 28, 3) := by decide +kernel
theorem dX5_find_44 : decode cX5_find 44 = .ok (.return_, 1) := by decide +kernel
theorem dX5_find_45 : decode cX5_find 45 = .ok (.aload_n 0, 1) := by decide +kernel
theorem dX5_find_46 : decode cX5_find 46 = .ok (.aload_n 1, 1) := by decide +kernel
theorem dX5_find_47 : decode cX5_find 47 = .ok (.aload_n 1, 1) := by decide +kernel
theorem dX5_find_48 : decode cX5_find 48 = .ok (.getfield 37, 3) := by decide +kernel
theorem dX5_find_51 : decode cX5_find 51 = .ok (.iload_n 2, 1) := by decide +kernel
theorem dX5_find_52 : decode cX5_find 52 = .ok (.laload, 1) := by decide +kernel
theorem dX5_find_53 : decode cX5_find 53 = .ok (.invokevirtual 47, 3) := by decide +kernel
theorem dX5_find_56 : decode cX5_find 56 = .ok (.aload_n 0, 1) := by decide +kernel
theorem dX5_find_57 : decode cX5_find 57 = .ok (.invokevirtual 51, 3) := by decide +kernel
theorem dX5_find_60 : decode cX5_find 60 = .ok (.iinc 2 1, 3) := by decide +kernel
theorem dX5_find_63 : decode cX5_find 63 = .ok (.goto (-51), 3) := by decide +kernel
theorem dX5_find_66 : decode cX5_find 66 = .ok (.return_, 1) := by decide +kernel
theorem dX5_takeKnot_0 : decode cX5_takeKnot 0 = .ok (.aload_n 0, 1) := by decide +kernel
theorem dX5_takeKnot_1 : decode cX5_takeKnot 1 = .ok (.iconst 0, 1) := by decide +kernel
theorem dX5_takeKnot_2 : decode cX5_takeKnot 2 = .ok (.putfield 54, 3) := by decide +kernel
theorem dX5_takeKnot_5 : decode cX5_takeKnot 5 = .ok (.iconst 0, 1) := by decide +kernel
theorem dX5_takeKnot_6 : decode cX5_takeKnot 6 = .ok (.istore 4, 2) := by decide +kernel
theorem dX5_takeKnot_8 : decode cX5_takeKnot 8 = .ok (.iload 4, 2) := by decide +kernel
theorem dX5_takeKnot_10 : decode cX5_takeKnot 10 = .ok (.aload_n 1, 1) := by decide +kernel
theorem dX5_takeKnot_11 : decode cX5_takeKnot 11 = .ok (.getfield 57, 3) := by decide +kernel
theorem dX5_takeKnot_14 : decode cX5_takeKnot 14 = .ok (.if_icmp .ge 64, 3) := by decide +kernel
theorem dX5_takeKnot_17 : decode cX5_takeKnot 17 = .ok (.lload_n 2, 1) := by decide +kernel
theorem dX5_takeKnot_18 : decode cX5_takeKnot 18 = .ok (.iload 4, 2) := by decide +kernel
theorem dX5_takeKnot_20 : decode cX5_takeKnot 20 = .ok (.invokestatic 60, 3) := by decide +kernel
theorem dX5_takeKnot_23 : decode cX5_takeKnot 23 = .ok (.ifCond .eq 49, 3) := by decide +kernel
theorem dX5_takeKnot_26 : decode cX5_takeKnot 26 = .ok (.aload_n 0, 1) := by decide +kernel
theorem dX5_takeKnot_27 : decode cX5_takeKnot 27 = .ok (.getfield 54, 3) := by decide +kernel
theorem dX5_takeKnot_30 : decode cX5_takeKnot 30 = .ok (.bipush 12, 2) := by decide +kernel
theorem dX5_takeKnot_32 : decode cX5_takeKnot 32 = .ok (.if_icmp .ge 40, 3) := by decide +kernel
theorem dX5_takeKnot_35 : decode cX5_takeKnot 35 = .ok (.aload_n 0, 1) := by decide +kernel
theorem dX5_takeKnot_36 : decode cX5_takeKnot 36 = .ok (.getfield 11, 3) := by decide +kernel
theorem dX5_takeKnot_39 : decode cX5_takeKnot 39 = .ok (.aload_n 0, 1) := by decide +kernel
theorem dX5_takeKnot_40 : decode cX5_takeKnot 40 = .ok (.getfield 54, 3) := by decide +kernel
theorem dX5_takeKnot_43 : decode cX5_takeKnot 43 = .ok (.iload 4, 2) := by decide +kernel
theorem dX5_takeKnot_45 : decode cX5_takeKnot 45 = .ok (.iastore, 1) := by decide +kernel
theorem dX5_takeKnot_46 : decode cX5_takeKnot 46 = .ok (.aload_n 0, 1) := by decide +kernel
theorem dX5_takeKnot_47 : decode cX5_takeKnot 47 = .ok (.getfield 15, 3) := by decide +kernel
theorem dX5_takeKnot_50 : decode cX5_takeKnot 50 = .ok (.aload_n 0, 1) := by decide +kernel
theorem dX5_takeKnot_51 : decode cX5_takeKnot 51 = .ok (.getfield 54, 3) := by decide +kernel
theorem dX5_takeKnot_54 : decode cX5_takeKnot 54 = .ok (.aload_n 1, 1) := by decide +kernel
theorem dX5_takeKnot_55 : decode cX5_takeKnot 55 = .ok (.getfield 64, 3) := by decide +kernel
theorem dX5_takeKnot_58 : decode cX5_takeKnot 58 = .ok (.iload 4, 2) := by decide +kernel
theorem dX5_takeKnot_60 : decode cX5_takeKnot 60 = .ok (.iaload, 1) := by decide +kernel
theorem dX5_takeKnot_61 : decode cX5_takeKnot 61 = .ok (.iastore, 1) := by decide +kernel
theorem dX5_takeKnot_62 : decode cX5_takeKnot 62 = .ok (.aload_n 0, 1) := by decide +kernel
theorem dX5_takeKnot_63 : decode cX5_takeKnot 63 = .ok (.dup, 1) := by decide +kernel
theorem dX5_takeKnot_64 : decode cX5_takeKnot 64 = .ok (.getfield 54, 3) := by decide +kernel
theorem dX5_takeKnot_67 : decode cX5_takeKnot 67 = .ok (.iconst 1, 1) := by decide +kernel
theorem dX5_takeKnot_68 : decode cX5_takeKnot 68 = .ok (.iadd, 1) := by decide +kernel
theorem dX5_takeKnot_69 : decode cX5_takeKnot 69 = .ok (.putfield 54, 3) := by decide +kernel
theorem dX5_takeKnot_72 : decode cX5_takeKnot 72 = .ok (.iinc 4 1, 3) := by decide +kernel
theorem dX5_takeKnot_75 : decode cX5_takeKnot 75 = .ok (.goto (-67), 3) := by decide +kernel
theorem dX5_takeKnot_78 : decode cX5_takeKnot 78 = .ok (.iconst 0, 1) := by decide +kernel
theorem dX5_takeKnot_79 : decode cX5_takeKnot 79 = .ok (.istore 4, 2) := by decide +kernel
theorem dX5_takeKnot_81 : decode cX5_takeKnot 81 = .ok (.iload 4, 2) := by decide +kernel
theorem dX5_takeKnot_83 : decode cX5_takeKnot 83 = .ok (.aload_n 0, 1) := by decide +kernel
theorem dX5_takeKnot_84 : decode cX5_takeKnot 84 = .ok (.getfield 54, 3) := by decide +kernel
theorem dX5_takeKnot_87 : decode cX5_takeKnot 87 = .ok (.if_icmp .ge 70, 3) := by decide +kernel
theorem dX5_takeKnot_90 : decode cX5_takeKnot 90 = .ok (.aload_n 0, 1) := by decide +kernel
theorem dX5_takeKnot_91 : decode cX5_takeKnot 91 = .ok (.getfield 18, 3) := by decide +kernel
theorem dX5_takeKnot_94 : decode cX5_takeKnot 94 = .ok (.iload 4, 2) := by decide +kernel
theorem dX5_takeKnot_96 : decode cX5_takeKnot 96 = .ok (.iconst 0, 1) := by decide +kernel
theorem dX5_takeKnot_97 : decode cX5_takeKnot 97 = .ok (.iastore, 1) := by decide +kernel
theorem dX5_takeKnot_98 : decode cX5_takeKnot 98 = .ok (.iconst 0, 1) := by decide +kernel
theorem dX5_takeKnot_99 : decode cX5_takeKnot 99 = .ok (.istore 5, 2) := by decide +kernel
theorem dX5_takeKnot_101 : decode cX5_takeKnot 101 = .ok (.iload 5, 2) := by decide +kernel
theorem dX5_takeKnot_103 : decode cX5_takeKnot 103 = .ok (.aload_n 0, 1) := by decide +kernel
theorem dX5_takeKnot_104 : decode cX5_takeKnot 104 = .ok (.getfield 54, 3) := by decide +kernel
theorem dX5_takeKnot_107 : decode cX5_takeKnot 107 = .ok (.if_icmp .ge 44, 3) := by decide +kernel
theorem dX5_takeKnot_110 : decode cX5_takeKnot 110 = .ok (.aload_n 1, 1) := by decide +kernel
theorem dX5_takeKnot_111 : decode cX5_takeKnot 111 = .ok (.aload_n 0, 1) := by decide +kernel
theorem dX5_takeKnot_112 : decode cX5_takeKnot 112 = .ok (.getfield 11, 3) := by decide +kernel
theorem dX5_takeKnot_115 : decode cX5_takeKnot 115 = .ok (.iload 5, 2) := by decide +kernel
theorem dX5_takeKnot_117 : decode cX5_takeKnot 117 = .ok (.iaload, 1) := by decide +kernel
theorem dX5_takeKnot_118 : decode cX5_takeKnot 118 = .ok (.aload_n 0, 1) := by decide +kernel
theorem dX5_takeKnot_119 : decode cX5_takeKnot 119 = .ok (.getfield 11, 3) := by decide +kernel
theorem dX5_takeKnot_122 : decode cX5_takeKnot 122 = .ok (.iload 4, 2) := by decide +kernel
theorem dX5_takeKnot_124 : decode cX5_takeKnot 124 = .ok (.iaload, 1) := by decide +kernel
theorem dX5_takeKnot_125 : decode cX5_takeKnot 125 = .ok (.invokevirtual 67, 3) := by decide +kernel
theorem dX5_takeKnot_128 : decode cX5_takeKnot 128 = .ok (.ifCond .eq 17, 3) := by decide +kernel
theorem dX5_takeKnot_131 : decode cX5_takeKnot 131 = .ok (.aload_n 0, 1) := by decide +kernel
theorem dX5_takeKnot_132 : decode cX5_takeKnot 132 = .ok (.getfield 18, 3) := by decide +kernel
theorem dX5_takeKnot_135 : decode cX5_takeKnot 135 = .ok (.iload 4, 2) := by decide +kernel
theorem dX5_takeKnot_137 : decode cX5_takeKnot 137 = .ok (.dup2, 1) := by decide +kernel
theorem dX5_takeKnot_138 : decode cX5_takeKnot 138 = .ok (.iaload, 1) := by decide +kernel
theorem dX5_takeKnot_139 : decode cX5_takeKnot 139 = .ok (.iconst 1, 1) := by decide +kernel
theorem dX5_takeKnot_140 : decode cX5_takeKnot 140 = .ok (.iload 5, 2) := by decide +kernel
theorem dX5_takeKnot_142 : decode cX5_takeKnot 142 = .ok (.ishl, 1) := by decide +kernel
theorem dX5_takeKnot_143 : decode cX5_takeKnot 143 = .ok (.ior, 1) := by decide +kernel
theorem dX5_takeKnot_144 : decode cX5_takeKnot 144 = .ok (.iastore, 1) := by decide +kernel
theorem dX5_takeKnot_145 : decode cX5_takeKnot 145 = .ok (.iinc 5 1, 3) := by decide +kernel
theorem dX5_takeKnot_148 : decode cX5_takeKnot 148 = .ok (.goto (-47), 3) := by decide +kernel
theorem dX5_takeKnot_151 : decode cX5_takeKnot 151 = .ok (.iinc 4 1, 3) := by decide +kernel
theorem dX5_takeKnot_154 : decode cX5_takeKnot 154 = .ok (.goto (-73), 3) := by decide +kernel
theorem dX5_takeKnot_157 : decode cX5_takeKnot 157 = .ok (.return_, 1) := by decide +kernel
theorem dX5_addBestSet_0 : decode cX5_addBestSet 0 = .ok (.iconst 1, 1) := by decide +kernel
theorem dX5_addBestSet_1 : decode cX5_addBestSet 1 = .ok (.aload_n 0, 1) := by decide +kernel
theorem dX5_addBestSet_2 : decode cX5_addBestSet 2 = .ok (.getfield 54, 3) := by decide +kernel
theorem dX5_addBestSet_5 : decode cX5_addBestSet 5 = .ok (.ishl, 1) := by decide +kernel
theorem dX5_addBestSet_6 : decode cX5_addBestSet 6 = .ok (.iconst 1, 1) := by decide +kernel
theorem dX5_addBestSet_7 : decode cX5_addBestSet 7 = .ok (.isub, 1) := by decide +kernel
theorem dX5_addBestSet_8 : decode cX5_addBestSet 8 = .ok (.istore_n 1, 1) := by decide +kernel
theorem dX5_addBestSet_9 : decode cX5_addBestSet 9 = .ok (.aload_n 0, 1) := by decide +kernel
theorem dX5_addBestSet_10 : decode cX5_addBestSet 10 = .ok (.invokevirtual 71, 3) := by decide +kernel
theorem dX5_addBestSet_13 : decode cX5_addBestSet 13 = .ok (.iload_n 1, 1) := by decide +kernel
theorem dX5_addBestSet_14 : decode cX5_addBestSet 14 = .ok (.istore_n 2, 1) := by decide +kernel
theorem dX5_addBestSet_15 : decode cX5_addBestSet 15 = .ok (.iconst 0, 1) := by decide +kernel
theorem dX5_addBestSet_16 : decode cX5_addBestSet 16 = .ok (.istore_n 3, 1) := by decide +kernel
theorem dX5_addBestSet_17 : decode cX5_addBestSet 17 = .ok (.iload_n 3, 1) := by decide +kernel
theorem dX5_addBestSet_18 : decode cX5_addBestSet 18 = .ok (.iload_n 1, 1) := by decide +kernel
theorem dX5_addBestSet_19 : decode cX5_addBestSet 19 = .ok (.if_icmp .ge 32, 3) := by decide +kernel
theorem dX5_addBestSet_22 : decode cX5_addBestSet 22 = .ok (.aload_n 0, 1) := by decide +kernel
theorem dX5_addBestSet_23 : decode cX5_addBestSet 23 = .ok (.iload_n 3, 1) := by decide +kernel
theorem dX5_addBestSet_24 : decode cX5_addBestSet 24 = .ok (.iload_n 2, 1) := by decide +kernel
theorem dX5_addBestSet_25 : decode cX5_addBestSet 25 = .ok (.invokevirtual 74, 3) := by decide +kernel
theorem dX5_addBestSet_28 : decode cX5_addBestSet 28 = .ok (.ifCond .eq 17, 3) := by decide +kernel
theorem dX5_addBestSet_31 : decode cX5_addBestSet 31 = .ok (.aload_n 0, 1) := by decide +kernel
theorem dX5_addBestSet_32 : decode cX5_addBestSet 32 = .ok (.iload_n 1, 1) := by decide +kernel
theorem dX5_addBestSet_33 : decode cX5_addBestSet 33 = .ok (.iload_n 3, 1) := by decide +kernel
theorem dX5_addBestSet_34 : decode cX5_addBestSet 34 = .ok (.iconst (-1), 1) := by decide +kernel
theorem dX5_addBestSet_35 : decode cX5_addBestSet 35 = .ok (.ixor, 1) := by decide +kernel
theorem dX5_addBestSet_36 : decode cX5_addBestSet 36 = .ok (.iand, 1) := by decide +kernel
theorem dX5_addBestSet_37 : decode cX5_addBestSet 37 = .ok (.invokevirtual 77, 3) := by decide +kernel
theorem dX5_addBestSet_40 : decode cX5_addBestSet 40 = .ok (.ifCond .eq 5, 3) := by decide +kernel
theorem dX5_addBestSet_43 : decode cX5_addBestSet 43 = .ok (.iload_n 3, 1) := by decide +kernel
theorem dX5_addBestSet_44 : decode cX5_addBestSet 44 = .ok (.istore_n 2, 1) := by decide +kernel
theorem dX5_addBestSet_45 : decode cX5_addBestSet 45 = .ok (.iinc 3 1, 3) := by decide +kernel
theorem dX5_addBestSet_48 : decode cX5_addBestSet 48 = .ok (.goto (-31), 3) := by decide +kernel
theorem dX5_addBestSet_51 : decode cX5_addBestSet 51 = .ok (.aload_n 0, 1) := by decide +kernel
theorem dX5_addBestSet_52 : decode cX5_addBestSet 52 = .ok (.dup, 1) := by decide +kernel
theorem dX5_addBestSet_53 : decode cX5_addBestSet 53 = .ok (.getfield 24, 3) := by decide +kernel
theorem dX5_addBestSet_56 : decode cX5_addBestSet 56 = .ok (.aload_n 0, 1) := by decide +kernel
theorem dX5_addBestSet_57 : decode cX5_addBestSet 57 = .ok (.getfield 21, 3) := by decide +kernel
theorem dX5_addBestSet_60 : decode cX5_addBestSet 60 = .ok (.iload_n 2, 1) := by decide +kernel
theorem dX5_addBestSet_61 : decode cX5_addBestSet 61 = .ok (.iaload, 1) := by decide +kernel
theorem dX5_addBestSet_62 : decode cX5_addBestSet 62 = .ok (.iadd, 1) := by decide +kernel
theorem dX5_addBestSet_63 : decode cX5_addBestSet 63 = .ok (.putfield 24, 3) := by decide +kernel
theorem dX5_addBestSet_66 : decode cX5_addBestSet 66 = .ok (.iconst 0, 1) := by decide +kernel
theorem dX5_addBestSet_67 : decode cX5_addBestSet 67 = .ok (.istore_n 3, 1) := by decide +kernel
theorem dX5_addBestSet_68 : decode cX5_addBestSet 68 = .ok (.iload_n 3, 1) := by decide +kernel
theorem dX5_addBestSet_69 : decode cX5_addBestSet 69 = .ok (.aload_n 0, 1) := by decide +kernel
theorem dX5_addBestSet_70 : decode cX5_addBestSet 70 = .ok (.getfield 54, 3) := by decide +kernel
theorem dX5_addBestSet_73 : decode cX5_addBestSet 73 = .ok (.if_icmp .ge 34, 3) := by decide +kernel
theorem dX5_addBestSet_76 : decode cX5_addBestSet 76 = .ok (.iload_n 2, 1) := by decide +kernel
theorem dX5_addBestSet_77 : decode cX5_addBestSet 77 = .ok (.iload_n 3, 1) := by decide +kernel
theorem dX5_addBestSet_78 : decode cX5_addBestSet 78 = .ok (.ishr, 1) := by decide +kernel
theorem dX5_addBestSet_79 : decode cX5_addBestSet 79 = .ok (.iconst 1, 1) := by decide +kernel
theorem dX5_addBestSet_80 : decode cX5_addBestSet 80 = .ok (.iand, 1) := by decide +kernel
theorem dX5_addBestSet_81 : decode cX5_addBestSet 81 = .ok (.ifCond .eq 20, 3) := by decide +kernel
theorem dX5_addBestSet_84 : decode cX5_addBestSet 84 = .ok (.aload_n 0, 1) := by decide +kernel
theorem dX5_addBestSet_85 : decode cX5_addBestSet 85 = .ok (.dup, 1) := by decide +kernel
theorem dX5_addBestSet_86 : decode cX5_addBestSet 86 = .ok (.getfield 28, 3) := by decide +kernel
theorem dX5_addBestSet_89 : decode cX5_addBestSet 89 = .ok (.lconst 1, 1) := by decide +kernel
theorem dX5_addBestSet_90 : decode cX5_addBestSet 90 = .ok (.aload_n 0, 1) := by decide +kernel
theorem dX5_addBestSet_91 : decode cX5_addBestSet 91 = .ok (.getfield 11, 3) := by decide +kernel
theorem dX5_addBestSet_94 : decode cX5_addBestSet 94 = .ok (.iload_n 3, 1) := by decide +kernel
theorem dX5_addBestSet_95 : decode cX5_addBestSet 95 = .ok (.iaload, 1) := by decide +kernel
theorem dX5_addBestSet_96 : decode cX5_addBestSet 96 = .ok (.lshl, 1) := by decide +kernel
theorem dX5_addBestSet_97 : decode cX5_addBestSet 97 = .ok (.lor, 1) := by decide +kernel
theorem dX5_addBestSet_98 : decode cX5_addBestSet 98 = .ok (.putfield 28, 3) := by decide +kernel
theorem dX5_addBestSet_101 : decode cX5_addBestSet 101 = .ok (.iinc 3 1, 3) := by decide +kernel
theorem dX5_addBestSet_104 : decode cX5_addBestSet 104 = .ok (.goto (-36), 3) := by decide +kernel
theorem dX5_addBestSet_107 : decode cX5_addBestSet 107 = .ok (.return_, 1) := by decide +kernel
theorem dX5_weighSets_0 : decode cX5_weighSets 0 = .ok (.aload_n 0, 1) := by decide +kernel
theorem dX5_weighSets_1 : decode cX5_weighSets 1 = .ok (.getfield 21, 3) := by decide +kernel
theorem dX5_weighSets_4 : decode cX5_weighSets 4 = .ok (.iconst 0, 1) := by decide +kernel
theorem dX5_weighSets_5 : decode cX5_weighSets 5 = .ok (.iconst 0, 1) := by decide +kernel
theorem dX5_weighSets_6 : decode cX5_weighSets 6 = .ok (.iastore, 1) := by decide +kernel
theorem dX5_weighSets_7 : decode cX5_weighSets 7 = .ok (.iconst 0, 1) := by decide +kernel
theorem dX5_weighSets_8 : decode cX5_weighSets 8 = .ok (.istore_n 1, 1) := by decide +kernel
theorem dX5_weighSets_9 : decode cX5_weighSets 9 = .ok (.iload_n 1, 1) := by decide +kernel
theorem dX5_weighSets_10 : decode cX5_weighSets 10 = .ok (.aload_n 0, 1) := by decide +kernel
theorem dX5_weighSets_11 : decode cX5_weighSets 11 = .ok (.getfield 54, 3) := by decide +kernel
theorem dX5_weighSets_14 : decode cX5_weighSets 14 = .ok (.if_icmp .ge 47, 3) := by decide +kernel
theorem dX5_weighSets_17 : decode cX5_weighSets 17 = .ok (.iconst 1, 1) := by decide +kernel
theorem dX5_weighSets_18 : decode cX5_weighSets 18 = .ok (.iload_n 1, 1) := by decide +kernel
theorem dX5_weighSets_19 : decode cX5_weighSets 19 = .ok (.ishl, 1) := by decide +kernel
theorem dX5_weighSets_20 : decode cX5_weighSets 20 = .ok (.istore_n 2, 1) := by decide +kernel
theorem dX5_weighSets_21 : decode cX5_weighSets 21 = .ok (.iconst 0, 1) := by decide +kernel
theorem dX5_weighSets_22 : decode cX5_weighSets 22 = .ok (.istore_n 3, 1) := by decide +kernel
theorem dX5_weighSets_23 : decode cX5_weighSets 23 = .ok (.iload_n 3, 1) := by decide +kernel
theorem dX5_weighSets_24 : decode cX5_weighSets 24 = .ok (.iload_n 2, 1) := by decide +kernel
theorem dX5_weighSets_25 : decode cX5_weighSets 25 = .ok (.if_icmp .ge 30, 3) := by decide +kernel
theorem dX5_weighSets_28 : decode cX5_weighSets 28 = .ok (.aload_n 0, 1) := by decide +kernel
theorem dX5_weighSets_29 : decode cX5_weighSets 29 = .ok (.getfield 21, 3) := by decide +kernel
theorem dX5_weighSets_32 : decode cX5_weighSets 32 = .ok (.iload_n 2, 1) := by decide +kernel
theorem dX5_weighSets_33 : decode cX5_weighSets 33 = .ok (.iload_n 3, 1) := by decide +kernel
theorem dX5_weighSets_34 : decode cX5_weighSets 34 = .ok (.iadd, 1) := by decide +kernel
theorem dX5_weighSets_35 : decode cX5_weighSets 35 = .ok (.aload_n 0, 1) := by decide +kernel
theorem dX5_weighSets_36 : decode cX5_weighSets 36 = .ok (.getfield 15, 3) := by decide +kernel
theorem dX5_weighSets_39 : decode cX5_weighSets 39 = .ok (.iload_n 1, 1) := by decide +kernel
theorem dX5_weighSets_40 : decode cX5_weighSets 40 = .ok (.iaload, 1) := by decide +kernel
theorem dX5_weighSets_41 : decode cX5_weighSets 41 = .ok (.aload_n 0, 1) := by decide +kernel
theorem dX5_weighSets_42 : decode cX5_weighSets 42 = .ok (.getfield 21, 3) := by decide +kernel
theorem dX5_weighSets_45 : decode cX5_weighSets 45 = .ok (.iload_n 3, 1) := by decide +kernel
theorem dX5_weighSets_46 : decode cX5_weighSets 46 = .ok (.iaload, 1) := by decide +kernel
theorem dX5_weighSets_47 : decode cX5_weighSets 47 = .ok (.iadd, 1) := by decide +kernel
theorem dX5_weighSets_48 : decode cX5_weighSets 48 = .ok (.iastore, 1) := by decide +kernel
theorem dX5_weighSets_49 : decode cX5_weighSets 49 = .ok (.iinc 3 1, 3) := by decide +kernel
theorem dX5_weighSets_52 : decode cX5_weighSets 52 = .ok (.goto (-29), 3) := by decide +kernel
theorem dX5_weighSets_55 : decode cX5_weighSets 55 = .ok (.iinc 1 1, 3) := by decide +kernel
theorem dX5_weighSets_58 : decode cX5_weighSets 58 = .ok (.goto (-49), 3) := by decide +kernel
theorem dX5_weighSets_61 : decode cX5_weighSets 61 = .ok (.return_, 1) := by decide +kernel
theorem dX5_isBetter_0 : decode cX5_isBetter 0 = .ok (.aload_n 0, 1) := by decide +kernel
theorem dX5_isBetter_1 : decode cX5_isBetter 1 = .ok (.getfield 21, 3) := by decide +kernel
theorem dX5_isBetter_4 : decode cX5_isBetter 4 = .ok (.iload_n 1, 1) := by decide +kernel
theorem dX5_isBetter_5 : decode cX5_isBetter 5 = .ok (.iaload, 1) := by decide +kernel
theorem dX5_isBetter_6 : decode cX5_isBetter 6 = .ok (.aload_n 0, 1) := by decide +kernel
theorem dX5_isBetter_7 : decode cX5_isBetter 7 = .ok (.getfield 21, 3) := by decide +kernel
theorem dX5_isBetter_10 : decode cX5_isBetter 10 = .ok (.iload_n 2, 1) := by decide +kernel
theorem dX5_isBetter_11 : decode cX5_isBetter 11 = .ok (.iaload, 1) := by decide +kernel
theorem dX5_isBetter_12 : decode cX5_isBetter 12 = .ok (.if_icmp .eq 24, 3) := by decide +kernel
theorem dX5_isBetter_15 : decode cX5_isBetter 15 = .ok (.aload_n 0, 1) := by decide +kernel
theorem dX5_isBetter_16 : decode cX5_isBetter 16 = .ok (.getfield 21, 3) := by decide +kernel
theorem dX5_isBetter_19 : decode cX5_isBetter 19 = .ok (.iload_n 1, 1) := by decide +kernel
theorem dX5_isBetter_20 : decode cX5_isBetter 20 = .ok (.iaload, 1) := by decide +kernel
theorem dX5_isBetter_21 : decode cX5_isBetter 21 = .ok (.aload_n 0, 1) := by decide +kernel
theorem dX5_isBetter_22 : decode cX5_isBetter 22 = .ok (.getfield 21, 3) := by decide +kernel
theorem dX5_isBetter_25 : decode cX5_isBetter 25 = .ok (.iload_n 2, 1) := by decide +kernel
theorem dX5_isBetter_26 : decode cX5_isBetter 26 = .ok (.iaload, 1) := by decide +kernel
theorem dX5_isBetter_27 : decode cX5_isBetter 27 = .ok (.if_icmp .ge 7, 3) := by decide +kernel
theorem dX5_isBetter_30 : decode cX5_isBetter 30 = .ok (.iconst 1, 1) := by decide +kernel
theorem dX5_isBetter_31 : decode cX5_isBetter 31 = .ok (.goto 4, 3) := by decide +kernel
theorem dX5_isBetter_34 : decode cX5_isBetter 34 = .ok (.iconst 0, 1) := by decide +kernel
theorem dX5_isBetter_35 : decode cX5_isBetter 35 = .ok (.ireturn, 1) := by decide +kernel
theorem dX5_isBetter_36 : decode cX5_isBetter 36 = .ok (.iload_n 1, 1) := by decide +kernel
theorem dX5_isBetter_37 : decode cX5_isBetter 37 = .ok (.invokestatic 81, 3) := by decide +kernel
theorem dX5_isBetter_40 : decode cX5_isBetter 40 = .ok (.iload_n 2, 1) := by decide +kernel
theorem dX5_isBetter_41 : decode cX5_isBetter 41 = .ok (.invokestatic 81, 3) := by decide +kernel
theorem dX5_isBetter_44 : decode cX5_isBetter 44 = .ok (.isub, 1) := by decide +kernel
theorem dX5_isBetter_45 : decode cX5_isBetter 45 = .ok (.istore_n 3, 1) := by decide +kernel
theorem dX5_isBetter_46 : decode cX5_isBetter 46 = .ok (.iload_n 3, 1) := by decide +kernel
theorem dX5_isBetter_47 : decode cX5_isBetter 47 = .ok (.ifCond .eq 13, 3) := by decide +kernel
theorem dX5_isBetter_50 : decode cX5_isBetter 50 = .ok (.iload_n 3, 1) := by decide +kernel
theorem dX5_isBetter_51 : decode cX5_isBetter 51 = .ok (.ifCond .ge 7, 3) := by decide +kernel
theorem dX5_isBetter_54 : decode cX5_isBetter 54 = .ok (.iconst 1, 1) := by decide +kernel
theorem dX5_isBetter_55 : decode cX5_isBetter 55 = .ok (.goto 4, 3) := by decide +kernel
theorem dX5_isBetter_58 : decode cX5_isBetter 58 = .ok (.iconst 0, 1) := by decide +kernel
theorem dX5_isBetter_59 : decode cX5_isBetter 59 = .ok (.ireturn, 1) := by decide +kernel
theorem dX5_isBetter_60 : decode cX5_isBetter 60 = .ok (.iload_n 1, 1) := by decide +kernel
theorem dX5_isBetter_61 : decode cX5_isBetter 61 = .ok (.iload_n 2, 1) := by decide +kernel
theorem dX5_isBetter_62 : decode cX5_isBetter 62 = .ok (.ixor, 1) := by decide +kernel
theorem dX5_isBetter_63 : decode cX5_isBetter 63 = .ok (.istore 4, 2) := by decide +kernel
theorem dX5_isBetter_65 : decode cX5_isBetter 65 = .ok (.iload_n 1, 1) := by decide +kernel
theorem dX5_isBetter_66 : decode cX5_isBetter 66 = .ok (.iload 4, 2) := by decide +kernel
theorem dX5_isBetter_68 : decode cX5_isBetter 68 = .ok (.iand, 1) := by decide +kernel
theorem dX5_isBetter_69 : decode cX5_isBetter 69 = .ok (.iload 4, 2) := by decide +kernel
theorem dX5_isBetter_71 : decode cX5_isBetter 71 = .ok (.ineg, 1) := by decide +kernel
theorem dX5_isBetter_72 : decode cX5_isBetter 72 = .ok (.iand, 1) := by decide +kernel
theorem dX5_isBetter_73 : decode cX5_isBetter 73 = .ok (.ifCond .eq 7, 3) := by decide +kernel
theorem dX5_isBetter_76 : decode cX5_isBetter 76 = .ok (.iconst 1, 1) := by decide +kernel
theorem dX5_isBetter_77 : decode cX5_isBetter 77 = .ok (.goto 4, 3) := by decide +kernel
theorem dX5_isBetter_80 : decode cX5_isBetter 80 = .ok (.iconst 0, 1) := by decide +kernel
theorem dX5_isBetter_81 : decode cX5_isBetter 81 = .ok (.ireturn, 1) := by decide +kernel
theorem dX5_isLoose_0 : decode cX5_isLoose 0 = .ok (.iconst 0, 1) := by decide +kernel
theorem dX5_isLoose_1 : decode cX5_isLoose 1 = .ok (.istore_n 2, 1) := by decide +kernel
theorem dX5_isLoose_2 : decode cX5_isLoose 2 = .ok (.iload_n 2, 1) := by decide +kernel
theorem dX5_isLoose_3 : decode cX5_isLoose 3 = .ok (.aload_n 0, 1) := by decide +kernel
theorem dX5_isLoose_4 : decode cX5_isLoose 4 = .ok (.getfield 54, 3) := by decide +kernel
theorem dX5_isLoose_7 : decode cX5_isLoose 7 = .ok (.if_icmp .ge 61, 3) := by decide +kernel
theorem dX5_isLoose_10 : decode cX5_isLoose 10 = .ok (.iload_n 1, 1) := by decide +kernel
theorem dX5_isLoose_11 : decode cX5_isLoose 11 = .ok (.ifCond .eq 57, 3) := by decide +kernel
theorem dX5_isLoose_14 : decode cX5_isLoose 14 = .ok (.iload_n 1, 1) := by decide +kernel
theorem dX5_isLoose_15 : decode cX5_isLoose 15 = .ok (.istore_n 3, 1) := by decide +kernel
theorem dX5_isLoose_16 : decode cX5_isLoose 16 = .ok (.iconst 0, 1) := by decide +kernel
theorem dX5_isLoose_17 : decode cX5_isLoose 17 = .ok (.istore 4, 2) := by decide +kernel
theorem dX5_isLoose_19 : decode cX5_isLoose 19 = .ok (.iload 4, 2) := by decide +kernel
theorem dX5_isLoose_21 : decode cX5_isLoose 21 = .ok (.aload_n 0, 1) := by decide +kernel
theorem dX5_isLoose_22 : decode cX5_isLoose 22 = .ok (.getfield 54, 3) := by decide +kernel
theorem dX5_isLoose_25 : decode cX5_isLoose 25 = .ok (.if_icmp .ge 30, 3) := by decide +kernel
theorem dX5_isLoose_28 : decode cX5_isLoose 28 = .ok (.aload_n 0, 1) := by decide +kernel
theorem dX5_isLoose_29 : decode cX5_isLoose 29 = .ok (.getfield 18, 3) := by decide +kernel
theorem dX5_isLoose_32 : decode cX5_isLoose 32 = .ok (.iload 4, 2) := by decide +kernel
theorem dX5_isLoose_34 : decode cX5_isLoose 34 = .ok (.iaload, 1) := by decide +kernel
theorem dX5_isLoose_35 : decode cX5_isLoose 35 = .ok (.iload_n 1, 1) := by decide +kernel
theorem dX5_isLoose_36 : decode cX5_isLoose 36 = .ok (.iand, 1) := by decide +kernel
theorem dX5_isLoose_37 : decode cX5_isLoose 37 = .ok (.ifCond .ne 12, 3) := by decide +kernel
theorem dX5_isLoose_40 : decode cX5_isLoose 40 = .ok (.iload_n 1, 1) := by decide +kernel
theorem dX5_isLoose_41 : decode cX5_isLoose 41 = .ok (.iconst 1, 1) := by decide +kernel
theorem dX5_isLoose_42 : decode cX5_isLoose 42 = .ok (.iload 4, 2) := by decide +kernel
theorem dX5_isLoose_44 : decode cX5_isLoose 44 = .ok (.ishl, 1) := by decide +kernel
theorem dX5_isLoose_45 : decode cX5_isLoose 45 = .ok (.iconst (-1), 1) := by decide +kernel
theorem dX5_isLoose_46 : decode cX5_isLoose 46 = .ok (.ixor, 1) := by decide +kernel
theorem dX5_isLoose_47 : decode cX5_isLoose 47 = .ok (.iand, 1) := by decide +kernel
theorem dX5_isLoose_48 : decode cX5_isLoose 48 = .ok (.istore_n 1, 1) := by decide +kernel
theorem dX5_isLoose_49 : decode cX5_isLoose 49 = .ok (.iinc 4 1, 3) := by decide +kernel
theorem dX5_isLoose_52 : decode cX5_isLoose 52 = .ok (.goto (-33), 3) := by decide +kernel
theorem dX5_isLoose_55 : decode cX5_isLoose 55 = .ok (.iload_n 1, 1) := by decide +kernel
theorem dX5_isLoose_56 : decode cX5_isLoose 56 = .ok (.iload_n 3, 1) := by decide +kernel
theorem dX5_isLoose_57 : decode cX5_isLoose 57 = .ok (.if_icmp .ne 5, 3) := by decide +kernel
theorem dX5_isLoose_60 : decode cX5_isLoose 60 = .ok (.iconst 0, 1) := by decide +kernel
theorem dX5_isLoose_61 : decode cX5_isLoose 61 = .ok (.ireturn, 1) := by decide +kernel
theorem dX5_isLoose_62 : decode cX5_isLoose 62 = .ok (.iinc 2 1, 3) := by decide +kernel
theorem dX5_isLoose_65 : decode cX5_isLoose 65 = .ok (.goto (-63), 3) := by decide +kernel
theorem dX5_isLoose_68 : decode cX5_isLoose 68 = .ok (.iload_n 1, 1) := by decide +kernel
theorem dX5_isLoose_69 : decode cX5_isLoose 69 = .ok (.ifCond .ne 7, 3) := by decide +kernel
theorem dX5_isLoose_72 : decode cX5_isLoose 72 = .ok (.iconst 1, 1) := by decide +kernel
theorem dX5_isLoose_73 : decode cX5_isLoose 73 = .ok (.goto 4, 3) := by decide +kernel
theorem dX5_isLoose_76 : decode cX5_isLoose 76 = .ok (.iconst 0, 1) := by decide +kernel
theorem dX5_isLoose_77 : decode cX5_isLoose 77 = .ok (.ireturn, 1) := by decide +kernel
theorem dX7_init_0 : decode cX7_init 0 = .ok (.aload_n 0, 1) := by decide +kernel
theorem dX7_init_1 : decode cX7_init 1 = .ok (.invokespecial 3, 3) := by decide +kernel
theorem dX7_init_4 : decode cX7_init 4 = .ok (.aload_n 0, 1) := by decide +kernel
theorem dX7_init_5 : decode cX7_init 5 = .ok (.bipush 9, 2) := by decide +kernel
theorem dX7_init_7 : decode cX7_init 7 = .ok (.newarray .int, 2) := by decide +kernel
theorem dX7_init_9 : decode cX7_init 9 = .ok (.putfield 9, 3) := by decide +kernel
theorem dX7_init_12 : decode cX7_init 12 = .ok (.aload_n 0, 1) := by decide +kernel
theorem dX7_init_13 : decode cX7_init 13 = .ok (.iload_n 1, 1) := by decide +kernel
theorem dX7_init_14 : decode cX7_init 14 = .ok (.putfield 15, 3) := by decide +kernel
theorem dX7_init_17 : decode cX7_init 17 = .ok (.aload_n 0, 1) := by decide +kernel
theorem dX7_init_18 : decode cX7_init 18 = .ok (.iload_n 2, 1) := by decide +kernel
theorem dX7_init_19 : decode cX7_init 19 = .ok (.putfield 19, 3) := by decide +kernel
theorem dX7_init_22 : decode cX7_init 22 = .ok (.aload_n 0, 1) := by decide +kernel
theorem dX7_init_23 : decode cX7_init 23 = .ok (.iload_n 3, 1) := by decide +kernel
theorem dX7_init_24 : decode cX7_init 24 = .ok (.putfield 22, 3) := by decide +kernel
theorem dX7_init_27 : decode cX7_init 27 = .ok (.aload_n 0, 1) := by decide +kernel
theorem dX7_init_28 : decode cX7_init 28 = .ok (.iload_n 1, 1) := by decide +kernel
theorem dX7_init_29 : decode cX7_init 29 = .ok (.iconst 1, 1) := by decide +kernel
theorem dX7_init_30 : decode cX7_init 30 = .ok (.if_icmp .ne 7, 3) := by decide +kernel
theorem dX7_init_33 : decode cX7_init 33 = .ok (.iconst 2, 1) := by decide +kernel
theorem dX7_init_34 : decode cX7_init 34 = .ok (.goto 4, 3) := by decide +kernel
theorem dX7_init_37 : decode cX7_init 37 = .ok (.iconst 1, 1) := by decide +kernel
theorem dX7_init_38 : decode cX7_init 38 = .ok (.putfield 25, 3) := by decide +kernel
theorem dX7_init_41 : decode cX7_init 41 = .ok (.return_, 1) := by decide +kernel
theorem dX7_pointNumbers_0 : decode cX7_pointNumbers 0 = .ok (.iconst 3, 1) := by decide +kernel
theorem dX7_pointNumbers_1 : decode cX7_pointNumbers 1 = .ok (.aload_n 0, 1) := by decide +kernel
theorem dX7_pointNumbers_2 : decode cX7_pointNumbers 2 = .ok (.getfield 25, 3) := by decide +kernel
theorem dX7_pointNumbers_5 : decode cX7_pointNumbers 5 = .ok (.iconst 1, 1) := by decide +kernel
theorem dX7_pointNumbers_6 : decode cX7_pointNumbers 6 = .ok (.iadd, 1) := by decide +kernel
theorem dX7_pointNumbers_7 : decode cX7_pointNumbers 7 = .ok (.imul, 1) := by decide +kernel
theorem dX7_pointNumbers_8 : decode cX7_pointNumbers 8 = .ok (.ireturn, 1) := by decide +kernel
theorem dX7_at_0 : decode cX7_at 0 = .ok (.iconst 3, 1) := by decide +kernel
theorem dX7_at_1 : decode cX7_at 1 = .ok (.iload_n 1, 1) := by decide +kernel
theorem dX7_at_2 : decode cX7_at 2 = .ok (.imul, 1) := by decide +kernel
theorem dX7_at_3 : decode cX7_at 3 = .ok (.iload_n 2, 1) := by decide +kernel
theorem dX7_at_4 : decode cX7_at 4 = .ok (.iadd, 1) := by decide +kernel
theorem dX7_at_5 : decode cX7_at 5 = .ok (.istore_n 3, 1) := by decide +kernel
theorem dX7_at_6 : decode cX7_at 6 = .ok (.iload_n 3, 1) := by decide +kernel
theorem dX7_at_7 : decode cX7_at 7 = .ok (.ifCond .lt 12, 3) := by decide +kernel
theorem dX7_at_10 : decode cX7_at 10 = .ok (.iload_n 3, 1) := by decide +kernel
theorem dX7_at_11 : decode cX7_at 11 = .ok (.aload_n 0, 1) := by decide +kernel
theorem dX7_at_12 : decode cX7_at 12 = .ok (.getfield 9, 3) := by decide +kernel
theorem dX7_at_15 : decode cX7_at 15 = .ok (.arraylength, 1) := by decide +kernel
theorem dX7_at_16 : decode cX7_at 16 = .ok (.if_icmp .lt 7, 3) := by decide +kernel
theorem dX7_at_19 : decode cX7_at 19 = .ok (.iconst 0, 1) := by decide +kernel
theorem dX7_at_20 : decode cX7_at 20 = .ok (.goto 9, 3) := by decide +kernel
theorem dX7_at_23 : decode cX7_at 23 = .ok (.aload_n 0, 1) := by decide +kernel
theorem dX7_at_24 : decode cX7_at 24 = .ok (.getfield 9, 3) := by decide +kernel
theorem dX7_at_27 : decode cX7_at 27 = .ok (.iload_n 3, 1) := by decide +kernel
theorem dX7_at_28 : decode cX7_at 28 = .ok (.iaload, 1) := by decide +kernel
theorem dX7_at_29 : decode cX7_at 29 = .ok (.ireturn, 1) := by decide +kernel
theorem dX7_takePoints_0 : decode cX7_takePoints 0 = .ok (.aload_n 1, 1) := by decide +kernel
theorem dX7_takePoints_1 : decode cX7_takePoints 1 = .ok (.iload_n 2, 1) := by decide +kernel
theorem dX7_takePoints_2 : decode cX7_takePoints 2 = .ok (.invokevirtual 28, 3) := by decide +kernel
theorem dX7_takePoints_5 : decode cX7_takePoints 5 = .ok (.istore_n 3, 1) := by decide +kernel
theorem dX7_takePoints_6 : decode cX7_takePoints 6 = .ok (.iload_n 3, 1) := by decide +kernel
theorem dX7_takePoints_7 : decode cX7_takePoints 7 = .ok (.iconst (-1), 1) := by decide +kernel
theorem dX7_takePoints_8 : decode cX7_takePoints 8 = .ok (.if_icmp .ne 5, 3) := by decide +kernel
theorem dX7_takePoints_11 : decode cX7_takePoints 11 = .ok (.iconst (-1), 1) := by decide +kernel
theorem dX7_takePoints_12 : decode cX7_takePoints 12 = .ok (.ireturn, 1) := by decide +kernel
theorem dX7_takePoints_13 : decode cX7_takePoints 13 = .ok (.iload_n 3, 1) := by decide +kernel
theorem dX7_takePoints_14 : decode cX7_takePoints 14 = .ok (.aload_n 0, 1) := by decide +kernel
theorem dX7_takePoints_15 : decode cX7_takePoints 15 = .ok (.invokevirtual 34, 3) := by decide +kernel
theorem dX7_takePoints_18 : decode cX7_takePoints 18 = .ok (.if_icmp .ge 6, 3) := by decide +kernel
theorem dX7_takePoints_21 : decode cX7_takePoints 21 = .ok (.bipush (-2), 2) := by decide +kernel
theorem dX7_takePoints_23 : decode cX7_takePoints 23 = .ok (.ireturn, 1) := by decide +kernel
theorem dX7_takePoints_24 : decode cX7_takePoints 24 = .ok (.iconst 0, 1) := by decide +kernel
theorem dX7_takePoints_25 : decode cX7_takePoints 25 = .ok (.istore 4, 2) := by decide +kernel
theorem dX7_takePoints_27 : decode cX7_takePoints 27 = .ok (.iload 4, 2) := by decide +kernel
theorem dX7_takePoints_29 : decode cX7_takePoints 29 = .ok (.aload_n 0, 1) := by decide +kernel
theorem dX7_takePoints_30 : decode cX7_takePoints 30 = .ok (.invokevirtual 34, 3) := by decide +kernel
theorem dX7_takePoints_33 : decode cX7_takePoints 33 = .ok (.if_icmp .ge 39, 3) := by decide +kernel
theorem dX7_takePoints_36 : decode cX7_takePoints 36 = .ok (.aload_n 1, 1) := by decide +kernel
theorem dX7_takePoints_37 : decode cX7_takePoints 37 = .ok (.iload_n 2, 1) := by decide +kernel
theorem dX7_takePoints_38 : decode cX7_takePoints 38 = .ok (.iload 4, 2) := by decide +kernel
theorem dX7_takePoints_40 : decode cX7_takePoints 40 = .ok (.invokevirtual 38, 3) := by decide +kernel
theorem dX7_takePoints_43 : decode cX7_takePoints 43 = .ok (.lstore 5, 2) := by decide +kernel
theorem dX7_takePoints_45 : decode cX7_takePoints 45 = .ok (.lload 5, 2) := by decide +kernel
theorem dX7_takePoints_47 : decode cX7_takePoints 47 = .ok (.invokestatic 42, 3) := by decide +kernel
theorem dX7_takePoints_50 : decode cX7_takePoints 50 = .ok (.ifCond .ne 6, 3) := by decide +kernel
theorem dX7_takePoints_53 : decode cX7_takePoints 53 = .ok (.bipush (-3), 2) := by decide +kernel
theorem dX7_takePoints_55 : decode cX7_takePoints 55 = .ok (.ireturn, 1) := by decide +kernel
theorem dX7_takePoints_56 : decode cX7_takePoints 56 = .ok (.aload_n 0, 1) := by decide +kernel
theorem dX7_takePoints_57 : decode cX7_takePoints 57 = .ok (.getfield 9, 3) := by decide +kernel
theorem dX7_takePoints_60 : decode cX7_takePoints 60 = .ok (.iload 4, 2) := by decide +kernel
theorem dX7_takePoints_62 : decode cX7_takePoints 62 = .ok (.lload 5, 2) := by decide +kernel
theorem dX7_takePoints_64 : decode cX7_takePoints 64 = .ok (.l2i, 1) := by decide +kernel
theorem dX7_takePoints_65 : decode cX7_takePoints 65 = .ok (.iastore, 1) := by decide +kernel
theorem dX7_takePoints_66 : decode cX7_takePoints 66 = .ok (.iinc 4 1, 3) := by decide +kernel
theorem dX7_takePoints_69 : decode cX7_takePoints 69 = .ok (.goto (-42), 3) := by decide +kernel
theorem dX7_takePoints_72 : decode cX7_takePoints 72 = .ok (.aload_n 0, 1) := by decide +kernel
theorem dX7_takePoints_73 : decode cX7_takePoints 73 = .ok (.invokevirtual 46, 3) := by decide +kernel
theorem dX7_takePoints_76 : decode cX7_takePoints 76 = .ok (.ifCond .eq 7, 3) := by decide +kernel
theorem dX7_takePoints_79 : decode cX7_takePoints 79 = .ok (.iconst 0, 1) := by decide +kernel
theorem dX7_takePoints_80 : decode cX7_takePoints 80 = .ok (.goto 5, 3) := by decide +kernel
theorem dX7_takePoints_83 : decode cX7_takePoints 83 = .ok (.bipush (-4), 2) := by decide +kernel
theorem dX7_takePoints_85 : decode cX7_takePoints 85 = .ok (.ireturn, 1) := by decide +kernel
theorem dX7_isNear_0 : decode cX7_isNear 0 = .ok (.lload_n 0, 1) := by decide +kernel
theorem dX7_isNear_1 : decode cX7_isNear 1 = .ok (.ldc2_w 50, 3) := by decide +kernel
theorem dX7_isNear_4 : decode cX7_isNear 4 = .ok (.lcmp, 1) := by decide +kernel
theorem dX7_isNear_5 : decode cX7_isNear 5 = .ok (.ifCond .lt 15, 3) := by decide +kernel
theorem dX7_isNear_8 : decode cX7_isNear 8 = .ok (.lload_n 0, 1) := by decide +kernel
theorem dX7_isNear_9 : decode cX7_isNear 9 = .ok (.ldc2_w 52, 3) := by decide +kernel
theorem dX7_isNear_12 : decode cX7_isNear 12 = .ok (.lcmp, 1) := by decide +kernel
theorem dX7_isNear_13 : decode cX7_isNear 13 = .ok (.ifCond .gt 7, 3) := by decide +kernel
theorem dX7_isNear_16 : decode cX7_isNear 16 = .ok (.iconst 1, 1) := by decide +kernel
theorem dX7_isNear_17 : decode cX7_isNear 17 = .ok (.goto 4, 3) := by decide +kernel
theorem dX7_isNear_20 : decode cX7_isNear 20 = .ok (.iconst 0, 1) := by decide +kernel
theorem dX7_isNear_21 : decode cX7_isNear 21 = .ok (.ireturn, 1) := by decide +kernel
theorem dX7_hasProperPieces_0 : decode cX7_hasProperPieces 0 = .ok (.iconst 0, 1) := by decide +kernel
theorem dX7_hasProperPieces_1 : decode cX7_hasProperPieces 1 = .ok (.istore_n 1, 1) := by decide +kernel
theorem dX7_hasProperPieces_2 : decode cX7_hasProperPieces 2 = .ok (.iload_n 1, 1) := by decide +kernel
theorem dX7_hasProperPieces_3 : decode cX7_hasProperPieces 3 = .ok (.aload_n 0, 1) := by decide +kernel
theorem dX7_hasProperPieces_4 : decode cX7_hasProperPieces 4 = .ok (.getfield 25, 3) := by decide +kernel
theorem dX7_hasProperPieces_7 : decode cX7_hasProperPieces 7 = .ok (.if_icmp .ge 62, 3) := by decide +kernel
theorem dX7_hasProperPieces_10 : decode cX7_hasProperPieces 10 = .ok (.aload_n 0, 1) := by decide +kernel
theorem dX7_hasProperPieces_11 : decode cX7_hasProperPieces 11 = .ok (.iload_n 1, 1) := by decide +kernel
theorem dX7_hasProperPieces_12 : decode cX7_hasProperPieces 12 = .ok (.iconst 0, 1) := by decide +kernel
theorem dX7_hasProperPieces_13 : decode cX7_hasProperPieces 13 = .ok (.invokevirtual 54, 3) := by decide +kernel
theorem dX7_hasProperPieces_16 : decode cX7_hasProperPieces 16 = .ok (.aload_n 0, 1) := by decide +kernel
theorem dX7_hasProperPieces_17 : decode cX7_hasProperPieces 17 = .ok (.iload_n 1, 1) := by decide +kernel
theorem dX7_hasProperPieces_18 : decode cX7_hasProperPieces 18 = .ok (.iconst 1, 1) := by decide +kernel
theorem dX7_hasProperPieces_19 : decode cX7_hasProperPieces 19 = .ok (.iadd, 1) := by decide +kernel
theorem dX7_hasProperPieces_20 : decode cX7_hasProperPieces 20 = .ok (.iconst 0, 1) := by decide +kernel
theorem dX7_hasProperPieces_21 : decode cX7_hasProperPieces 21 = .ok (.invokevirtual 54, 3) := by decide +kernel
theorem dX7_hasProperPieces_24 : decode cX7_hasProperPieces 24 = .ok (.if_icmp .ne 39, 3) := by decide +kernel
theorem dX7_hasProperPieces_27 : decode cX7_hasProperPieces 27 = .ok (.aload_n 0, 1) := by decide +kernel
theorem dX7_hasProperPieces_28 : decode cX7_hasProperPieces 28 = .ok (.iload_n 1, 1) := by decide +kernel
theorem dX7_hasProperPieces_29 : decode cX7_hasProperPieces 29 = .ok (.iconst 1, 1) := by decide +kernel
theorem dX7_hasProperPieces_30 : decode cX7_hasProperPieces 30 = .ok (.invokevirtual 54, 3) := by decide +kernel
theorem dX7_hasProperPieces_33 : decode cX7_hasProperPieces 33 = .ok (.aload_n 0, 1) := by decide +kernel
theorem dX7_hasProperPieces_34 : decode cX7_hasProperPieces 34 = .ok (.iload_n 1, 1) := by decide +kernel
theorem dX7_hasProperPieces_35 : decode cX7_hasProperPieces 35 = .ok (.iconst 1, 1) := by decide +kernel
theorem dX7_hasProperPieces_36 : decode cX7_hasProperPieces 36 = .ok (.iadd, 1) := by decide +kernel
theorem dX7_hasProperPieces_37 : decode cX7_hasProperPieces 37 = .ok (.iconst 1, 1) := by decide +kernel
theorem dX7_hasProperPieces_38 : decode cX7_hasProperPieces 38 = .ok (.invokevirtual 54, 3) := by decide +kernel
theorem dX7_hasProperPieces_41 : decode cX7_hasProperPieces 41 = .ok (.if_icmp .ne 22, 3) := by decide +kernel
theorem dX7_hasProperPieces_44 : decode cX7_hasProperPieces 44 = .ok (.aload_n 0, 1) := by decide +kernel
theorem dX7_hasProperPieces_45 : decode cX7_hasProperPieces 45 = .ok (.iload_n 1, 1) := by decide +kernel
theorem dX7_hasProperPieces_46 : decode cX7_hasProperPieces 46 = .ok (.iconst 2, 1) := by decide +kernel
theorem dX7_hasProperPieces_47 : decode cX7_hasProperPieces 47 = .ok (.invokevirtual 54, 3) := by decide +kernel
theorem dX7_hasProperPieces_50 : decode cX7_hasProperPieces 50 = .ok (.aload_n 0, 1) := by decide +kernel
theorem dX7_hasProperPieces_51 : decode cX7_hasProperPieces 51 = .ok (.iload_n 1, 1) := by decide +kernel
theorem dX7_hasProperPieces_52 : decode cX7_hasProperPieces 52 = .ok (.iconst 1, 1) := by decide +kernel
theorem dX7_hasProperPieces_53 : decode cX7_hasProperPieces 53 = .ok (.iadd, 1) := by decide +kernel
theorem dX7_hasProperPieces_54 : decode cX7_hasProperPieces 54 = .ok (.iconst 2, 1) := by decide +kernel
theorem dX7_hasProperPieces_55 : decode cX7_hasProperPieces 55 = .ok (.invokevirtual 54, 3) := by decide +kernel
theorem dX7_hasProperPieces_58 : decode cX7_hasProperPieces 58 = .ok (.if_icmp .ne 5, 3) := by decide +kernel
theorem dX7_hasProperPieces_61 : decode cX7_hasProperPieces 61 = .ok (.iconst 0, 1) := by decide +kernel
theorem dX7_hasProperPieces_62 : decode cX7_hasProperPieces 62 = .ok (.ireturn, 1) := by decide +kernel
theorem dX7_hasProperPieces_63 : decode cX7_hasProperPieces 63 = .ok (.iinc 1 1, 3) := by decide +kernel
theorem dX7_hasProperPieces_66 : decode cX7_hasProperPieces 66 = .ok (.goto (-64), 3) := by decide +kernel
theorem dX7_hasProperPieces_69 : decode cX7_hasProperPieces 69 = .ok (.aload_n 0, 1) := by decide +kernel
theorem dX7_hasProperPieces_70 : decode cX7_hasProperPieces 70 = .ok (.getfield 25, 3) := by decide +kernel
theorem dX7_hasProperPieces_73 : decode cX7_hasProperPieces 73 = .ok (.iconst 1, 1) := by decide +kernel
theorem dX7_hasProperPieces_74 : decode cX7_hasProperPieces 74 = .ok (.if_icmp .eq 10, 3) := by decide +kernel
theorem dX7_hasProperPieces_77 : decode cX7_hasProperPieces 77 = .ok (.aload_n 0, 1) := by decide +kernel
theorem dX7_hasProperPieces_78 : decode cX7_hasProperPieces 78 = .ok (.invokevirtual 58, 3) := by decide +kernel
theorem dX7_hasProperPieces_81 : decode cX7_hasProperPieces 81 = .ok (.ifCond .ne 7, 3) := by decide +kernel
theorem dX7_hasProperPieces_84 : decode cX7_hasProperPieces 84 = .ok (.iconst 1, 1) := by decide +kernel
theorem dX7_hasProperPieces_85 : decode cX7_hasProperPieces 85 = .ok (.goto 4, 3) := by decide +kernel
theorem dX7_hasProperPieces_88 : decode cX7_hasProperPieces 88 = .ok (.iconst 0, 1) := by decide +kernel
theorem dX7_hasProperPieces_89 : decode cX7_hasProperPieces 89 = .ok (.ireturn, 1) := by decide +kernel
theorem dX7_foldsOnItself_0 : decode cX7_foldsOnItself 0 = .ok (.iconst 3, 1) := by decide +kernel
theorem dX7_foldsOnItself_1 : decode cX7_foldsOnItself 1 = .ok (.newarray .long, 2) := by decide +kernel
theorem dX7_foldsOnItself_3 : decode cX7_foldsOnItself 3 = .ok (.astore_n 1, 1) := by decide +kernel
theorem dX7_foldsOnItself_4 : decode cX7_foldsOnItself 4 = .ok (.iconst 3, 1) := by decide +kernel
theorem dX7_foldsOnItself_5 : decode cX7_foldsOnItself 5 = .ok (.newarray .long, 2) := by decide +kernel
theorem dX7_foldsOnItself_7 : decode cX7_foldsOnItself 7 = .ok (.astore_n 2, 1) := by decide +kernel
theorem dX7_foldsOnItself_8 : decode cX7_foldsOnItself 8 = .ok (.iconst 0, 1) := by decide +kernel
theorem dX7_foldsOnItself_9 : decode cX7_foldsOnItself 9 = .ok (.istore_n 3, 1) := by decide +kernel
theorem dX7_foldsOnItself_10 : decode cX7_foldsOnItself 10 = .ok (.iload_n 3, 1) := by decide +kernel
theorem dX7_foldsOnItself_11 : decode cX7_foldsOnItself 11 = .ok (.iconst 3, 1) := by decide +kernel
theorem dX7_foldsOnItself_12 : decode cX7_foldsOnItself 12 = .ok (.if_icmp .ge 43, 3) := by decide +kernel
theorem dX7_foldsOnItself_15 : decode cX7_foldsOnItself 15 = .ok (.aload_n 1, 1) := by decide +kernel
theorem dX7_foldsOnItself_16 : decode cX7_foldsOnItself 16 = .ok (.iload_n 3, 1) := by decide +kernel
theorem dX7_foldsOnItself_17 : decode cX7_foldsOnItself 17 = .ok (.aload_n 0, 1) := by decide +kernel
theorem dX7_foldsOnItself_18 : decode cX7_foldsOnItself 18 = .ok (.iconst 0, 1) := by decide +kernel
theorem dX7_foldsOnItself_19 : decode cX7_foldsOnItself 19 = .ok (.iload_n 3, 1) := by decide +kernel
theorem dX7_foldsOnItself_20 : decode cX7_foldsOnItself 20 = .ok (.invokevirtual 54, 3) := by decide +kernel
theorem dX7_foldsOnItself_23 : decode cX7_foldsOnItself 23 = .ok (.aload_n 0, 1) := by decide +kernel
theorem dX7_foldsOnItself_24 : decode cX7_foldsOnItself 24 = .ok (.iconst 1, 1) := by decide +kernel
theorem dX7_foldsOnItself_25 : decode cX7_foldsOnItself 25 = .ok (.iload_n 3, 1) := by decide +kernel
theorem dX7_foldsOnItself_26 : decode cX7_foldsOnItself 26 = .ok (.invokevirtual 54, 3) := by decide +kernel
theorem dX7_foldsOnItself_29 : decode cX7_foldsOnItself 29 = .ok (.isub, 1) := by decide +kernel
theorem dX7_foldsOnItself_30 : decode cX7_foldsOnItself 30 = .ok (.i2l, 1) := by decide +kernel
theorem dX7_foldsOnItself_31 : decode cX7_foldsOnItself 31 = .ok (.lastore, 1) := by decide +kernel
theorem dX7_foldsOnItself_32 : decode cX7_foldsOnItself 32 = .ok (.aload_n 2, 1) := by decide +kernel
theorem dX7_foldsOnItself_33 : decode cX7_foldsOnItself 33 = .ok (.iload_n 3, 1) := by decide +kernel
theorem dX7_foldsOnItself_34 : decode cX7_foldsOnItself 34 = .ok (.aload_n 0, 1) := by decide +kernel
theorem dX7_foldsOnItself_35 : decode cX7_foldsOnItself 35 = .ok (.iconst 2, 1) := by decide +kernel
theorem dX7_foldsOnItself_36 : decode cX7_foldsOnItself 36 = .ok (.iload_n 3, 1) := by decide +kernel
theorem dX7_foldsOnItself_37 : decode cX7_foldsOnItself 37 = .ok (.invokevirtual 54, 3) := by decide +kernel
theorem dX7_foldsOnItself_40 : decode cX7_foldsOnItself 40 = .ok (.aload_n 0, 1) := by decide +kernel
theorem dX7_foldsOnItself_41 : decode cX7_foldsOnItself 41 = .ok (.iconst 1, 1) := by decide +kernel
theorem dX7_foldsOnItself_42 : decode cX7_foldsOnItself 42 = .ok (.iload_n 3, 1) := by decide +kernel
theorem dX7_foldsOnItself_43 : decode cX7_foldsOnItself 43 = .ok (.invokevirtual 54, 3) := by decide +kernel
theorem dX7_foldsOnItself_46 : decode cX7_foldsOnItself 46 = .ok (.isub, 1) := by decide +kernel
theorem dX7_foldsOnItself_47 : decode cX7_foldsOnItself 47 = .ok (.i2l, 1) := by decide +kernel
theorem dX7_foldsOnItself_48 : decode cX7_foldsOnItself 48 = .ok (.lastore, 1) := by decide +kernel
theorem dX7_foldsOnItself_49 : decode cX7_foldsOnItself 49 = .ok (.iinc 3 1, 3) := by decide +kernel
theorem dX7_foldsOnItself_52 : decode cX7_foldsOnItself 52 = .ok (.goto (-42), 3) := by decide +kernel
theorem dX7_foldsOnItself_55 : decode cX7_foldsOnItself 55 = .ok (.iconst 3, 1) := by decide +kernel
theorem dX7_foldsOnItself_56 : decode cX7_foldsOnItself 56 = .ok (.newarray .long, 2) := by decide +kernel
theorem dX7_foldsOnItself_58 : decode cX7_foldsOnItself 58 = .ok (.astore_n 3, 1) := by decide +kernel
theorem dX7_foldsOnItself_59 : decode cX7_foldsOnItself 59 = .ok (.aload_n 1, 1) := by decide +kernel
theorem dX7_foldsOnItself_60 : decode cX7_foldsOnItself 60 = .ok (.aload_n 2, 1) := by decide +kernel
theorem dX7_foldsOnItself_61 : decode cX7_foldsOnItself 61 = .ok (.aload_n 3, 1) := by decide +kernel
theorem dX7_foldsOnItself_62 : decode cX7_foldsOnItself 62 = .ok (.invokestatic 61, 3) := by decide +kernel
theorem dX7_foldsOnItself_65 : decode cX7_foldsOnItself 65 = .ok (.aload_n 3, 1) := by decide +kernel
theorem dX7_foldsOnItself_66 : decode cX7_foldsOnItself 66 = .ok (.invokestatic 67, 3) := by decide +kernel
theorem dX7_foldsOnItself_69 : decode cX7_foldsOnItself 69 = .ok (.ifCond .eq 17, 3) := by decide +kernel
theorem dX7_foldsOnItself_72 : decode cX7_foldsOnItself 72 = .ok (.aload_n 1, 1) := by decide +kernel
theorem dX7_foldsOnItself_73 : decode cX7_foldsOnItself 73 = .ok (.aload_n 2, 1) := by decide +kernel
theorem dX7_foldsOnItself_74 : decode cX7_foldsOnItself 74 = .ok (.invokestatic 71, 3) := by decide +kernel
theorem dX7_foldsOnItself_77 : decode cX7_foldsOnItself 77 = .ok (.lconst 0, 1) := by decide +kernel
theorem dX7_foldsOnItself_78 : decode cX7_foldsOnItself 78 = .ok (.lcmp, 1) := by decide +kernel
theorem dX7_foldsOnItself_79 : decode cX7_foldsOnItself 79 = .ok (.ifCond .le 7, 3) := by decide +kernel
theorem dX7_foldsOnItself_82 : decode cX7_foldsOnItself 82 = .ok (.iconst 1, 1) := by decide +kernel
theorem dX7_foldsOnItself_83 : decode cX7_foldsOnItself 83 = .ok (.goto 4, 3) := by decide +kernel
theorem dX7_foldsOnItself_86 : decode cX7_foldsOnItself 86 = .ok (.iconst 0, 1) := by decide +kernel
theorem dX7_foldsOnItself_87 : decode cX7_foldsOnItself 87 = .ok (.ireturn, 1) := by decide +kernel
theorem dX7_staysNear_0 : decode cX7_staysNear 0 = .ok (.iconst 0, 1) := by decide +kernel
theorem dX7_staysNear_1 : decode cX7_staysNear 1 = .ok (.istore 4, 2) := by decide +kernel
theorem dX7_staysNear_3 : decode cX7_staysNear 3 = .ok (.iload 4, 2) := by decide +kernel
theorem dX7_staysNear_5 : decode cX7_staysNear 5 = .ok (.aload_n 0, 1) := by decide +kernel
theorem dX7_staysNear_6 : decode cX7_staysNear 6 = .ok (.getfield 25, 3) := by decide +kernel
theorem dX7_staysNear_9 : decode cX7_staysNear 9 = .ok (.if_icmp .gt 62, 3) := by decide +kernel
theorem dX7_staysNear_12 : decode cX7_staysNear 12 = .ok (.aload_n 0, 1) := by decide +kernel
theorem dX7_staysNear_13 : decode cX7_staysNear 13 = .ok (.iload 4, 2) := by decide +kernel
theorem dX7_staysNear_15 : decode cX7_staysNear 15 = .ok (.iconst 0, 1) := by decide +kernel
theorem dX7_staysNear_16 : decode cX7_staysNear 16 = .ok (.invokevirtual 54, 3) := by decide +kernel
theorem dX7_staysNear_19 : decode cX7_staysNear 19 = .ok (.i2l, 1) := by decide +kernel
theorem dX7_staysNear_20 : decode cX7_staysNear 20 = .ok (.iload_n 1, 1) := by decide +kernel
theorem dX7_staysNear_21 : decode cX7_staysNear 21 = .ok (.i2l, 1) := by decide +kernel
theorem dX7_staysNear_22 : decode cX7_staysNear 22 = .ok (.ladd, 1) := by decide +kernel
theorem dX7_staysNear_23 : decode cX7_staysNear 23 = .ok (.invokestatic 42, 3) := by decide +kernel
theorem dX7_staysNear_26 : decode cX7_staysNear 26 = .ok (.ifCond .eq 37, 3) := by decide +kernel
theorem dX7_staysNear_29 : decode cX7_staysNear 29 = .ok (.aload_n 0, 1) := by decide +kernel
theorem dX7_staysNear_30 : decode cX7_staysNear 30 = .ok (.iload 4, 2) := by decide +kernel
theorem dX7_staysNear_32 : decode cX7_staysNear 32 = .ok (.iconst 1, 1) := by decide +kernel
theorem dX7_staysNear_33 : decode cX7_staysNear 33 = .ok (.invokevirtual 54, 3) := by decide +kernel
theorem dX7_staysNear_36 : decode cX7_staysNear 36 = .ok (.i2l, 1) := by decide +kernel
theorem dX7_staysNear_37 : decode cX7_staysNear 37 = .ok (.iload_n 2, 1) := by decide +kernel
theorem dX7_staysNear_38 : decode cX7_staysNear 38 = .ok (.i2l, 1) := by decide +kernel
theorem dX7_staysNear_39 : decode cX7_staysNear 39 = .ok (.ladd, 1) := by decide +kernel
theorem dX7_staysNear_40 : decode cX7_staysNear 40 = .ok (.invokestatic 42, 3) := by decide +kernel
theorem dX7_staysNear_43 : decode cX7_staysNear 43 = .ok (.ifCond .eq 20, 3) := by decide +kernel
theorem dX7_staysNear_46 : decode cX7_staysNear 46 = .ok (.aload_n 0, 1) := by decide +kernel
theorem dX7_staysNear_47 : decode cX7_staysNear 47 = .ok (.iload 4, 2) := by decide +kernel
theorem dX7_staysNear_49 : decode cX7_staysNear 49 = .ok (.iconst 2, 1) := by decide +kernel
theorem dX7_staysNear_50 : decode cX7_staysNear 50 = .ok (.invokevirtual 54, 3) := by decide +kernel
theorem dX7_staysNear_53 : decode cX7_staysNear 53 = .ok (.i2l, 1) := by decide +kernel
theorem dX7_staysNear_54 : decode cX7_staysNear 54 = .ok (.iload_n 3, 1) := by decide +kernel
theorem dX7_staysNear_55 : decode cX7_staysNear 55 = .ok (.i2l, 1) := by decide +kernel
theorem dX7_staysNear_56 : decode cX7_staysNear 56 = .ok (.ladd, 1) := by decide +kernel
theorem dX7_staysNear_57 : decode cX7_staysNear 57 = .ok (.invokestatic 42, 3) := by decide +kernel
theorem dX7_staysNear_60 : decode cX7_staysNear 60 = .ok (.ifCond .ne 5, 3) := by decide +kernel
theorem dX7_staysNear_63 : decode cX7_staysNear 63 = .ok (.iconst 0, 1) := by decide +kernel
theorem dX7_staysNear_64 : decode cX7_staysNear 64 = .ok (.ireturn, 1) := by decide +kernel
theorem dX7_staysNear_65 : decode cX7_staysNear 65 = .ok (.iinc 4 1, 3) := by decide +kernel
theorem dX7_staysNear_68 : decode cX7_staysNear 68 = .ok (.goto (-65), 3) := by decide +kernel
theorem dX7_staysNear_71 : decode cX7_staysNear 71 = .ok (.iconst 1, 1) := by decide +kernel
theorem dX7_staysNear_72 : decode cX7_staysNear 72 = .ok (.ireturn, 1) := by decide +kernel
theorem dX7_shift_0 : decode cX7_shift 0 = .ok (.iconst 0, 1) := by decide +kernel
theorem dX7_shift_1 : decode cX7_shift 1 = .ok (.istore 4, 2) := by decide +kernel
theorem dX7_shift_3 : decode cX7_shift 3 = .ok (.iload 4, 2) := by decide +kernel
theorem dX7_shift_5 : decode cX7_shift 5 = .ok (.aload_n 0, 1) := by decide +kernel
theorem dX7_shift_6 : decode cX7_shift 6 = .ok (.getfield 25, 3) := by decide +kernel
theorem dX7_shift_9 : decode cX7_shift 9 = .ok (.if_icmp .gt 52, 3) := by decide +kernel
theorem dX7_shift_12 : decode cX7_shift 12 = .ok (.aload_n 0, 1) := by decide +kernel
theorem dX7_shift_13 : decode cX7_shift 13 = .ok (.getfield 9, 3) := by decide +kernel
theorem dX7_shift_16 : decode cX7_shift 16 = .ok (.iconst 3, 1) := by decide +kernel
theorem dX7_shift_17 : decode cX7_shift 17 = .ok (.iload 4, 2) := by decide +kernel
theorem dX7_shift_19 : decode cX7_shift 19 = .ok (.imul, 1) := by decide +kernel
theorem dX7_shift_20 : decode cX7_shift 20 = .ok (.dup2, 1) := by decide +kernel
theorem dX7_shift_21 : decode cX7_shift 21 = .ok (.iaload, 1) := by decide +kernel
theorem dX7_shift_22 : decode cX7_shift 22 = .ok (.iload_n 1, 1) := by decide +kernel
theorem dX7_shift_23 : decode cX7_shift 23 = .ok (.iadd, 1) := by decide +kernel
theorem dX7_shift_24 : decode cX7_shift 24 = .ok (.iastore, 1) := by decide +kernel
theorem dX7_shift_25 : decode cX7_shift 25 = .ok (.aload_n 0, 1) := by decide +kernel
theorem dX7_shift_26 : decode cX7_shift 26 = .ok (.getfield 9, 3) := by decide +kernel
theorem dX7_shift_29 : decode cX7_shift 29 = .ok (.iconst 3, 1) := by decide +kernel
theorem dX7_shift_30 : decode cX7_shift 30 = .ok (.iload 4, 2) := by decide +kernel
theorem dX7_shift_32 : decode cX7_shift 32 = .ok (.imul, 1) := by decide +kernel
theorem dX7_shift_33 : decode cX7_shift 33 = .ok (.iconst 1, 1) := by decide +kernel
theorem dX7_shift_34 : decode cX7_shift 34 = .ok (.iadd, 1) := by decide +kernel
theorem dX7_shift_35 : decode cX7_shift 35 = .ok (.dup2, 1) := by decide +kernel
theorem dX7_shift_36 : decode cX7_shift 36 = .ok (.iaload, 1) := by decide +kernel
theorem dX7_shift_37 : decode cX7_shift 37 = .ok (.iload_n 2, 1) := by decide +kernel
theorem dX7_shift_38 : decode cX7_shift 38 = .ok (.iadd, 1) := by decide +kernel
theorem dX7_shift_39 : decode cX7_shift 39 = .ok (.iastore, 1) := by decide +kernel
theorem dX7_shift_40 : decode cX7_shift 40 = .ok (.aload_n 0, 1) := by decide +kernel
theorem dX7_shift_41 : decode cX7_shift 41 = .ok (.getfield 9, 3) := by decide +kernel
theorem dX7_shift_44 : decode cX7_shift 44 = .ok (.iconst 3, 1) := by decide +kernel
theorem dX7_shift_45 : decode cX7_shift 45 = .ok (.iload 4, 2) := by decide +kernel
theorem dX7_shift_47 : decode cX7_shift 47 = .ok (.imul, 1) := by decide +kernel
theorem dX7_shift_48 : decode cX7_shift 48 = .ok (.iconst 2, 1) := by decide +kernel
theorem dX7_shift_49 : decode cX7_shift 49 = .ok (.iadd, 1) := by decide +kernel
theorem dX7_shift_50 : decode cX7_shift 50 = .ok (.dup2, 1) := by decide +kernel
theorem dX7_shift_51 : decode cX7_shift 51 = .ok (.iaload, 1) := by decide +kernel
theorem dX7_shift_52 : decode cX7_shift 52 = .ok (.iload_n 3, 1) := by decide +kernel
theorem dX7_shift_53 : decode cX7_shift 53 = .ok (.iadd, 1) := by decide +kernel
theorem dX7_shift_54 : decode cX7_shift 54 = .ok (.iastore, 1) := by decide +kernel
theorem dX7_shift_55 : decode cX7_shift 55 = .ok (.iinc 4 1, 3) := by decide +kernel
theorem dX7_shift_58 : decode cX7_shift 58 = .ok (.goto (-55), 3) := by decide +kernel
theorem dX7_shift_61 : decode cX7_shift 61 = .ok (.return_, 1) := by decide +kernel
theorem dJ6_bitCount_0f7a4_0 : decode cJ6_bitCount_0f7a4 0 = .ok (.iload_n 0, 1) := by decide +kernel
theorem dJ6_bitCount_0f7a4_1 : decode cJ6_bitCount_0f7a4 1 = .ok (.iload_n 0, 1) := by decide +kernel
theorem dJ6_bitCount_0f7a4_2 : decode cJ6_bitCount_0f7a4 2 = .ok (.iconst 1, 1) := by decide +kernel
theorem dJ6_bitCount_0f7a4_3 : decode cJ6_bitCount_0f7a4 3 = .ok (.iushr, 1) := by decide +kernel
theorem dJ6_bitCount_0f7a4_4 : decode cJ6_bitCount_0f7a4 4 = .ok (.ldc_w 265, 3) := by decide +kernel
theorem dJ6_bitCount_0f7a4_7 : decode cJ6_bitCount_0f7a4 7 = .ok (.iand, 1) := by decide +kernel
theorem dJ6_bitCount_0f7a4_8 : decode cJ6_bitCount_0f7a4 8 = .ok (.isub, 1) := by decide +kernel
theorem dJ6_bitCount_0f7a4_9 : decode cJ6_bitCount_0f7a4 9 = .ok (.istore_n 0, 1) := by decide +kernel
theorem dJ6_bitCount_0f7a4_10 : decode cJ6_bitCount_0f7a4 10 = .ok (.iload_n 0, 1) := by decide +kernel
theorem dJ6_bitCount_0f7a4_11 : decode cJ6_bitCount_0f7a4 11 = .ok (.ldc_w 266, 3) := by decide +kernel
theorem dJ6_bitCount_0f7a4_14 : decode cJ6_bitCount_0f7a4 14 = .ok (.iand, 1) := by decide +kernel
theorem dJ6_bitCount_0f7a4_15 : decode cJ6_bitCount_0f7a4 15 = .ok (.iload_n 0, 1) := by decide +kernel
theorem dJ6_bitCount_0f7a4_16 : decode cJ6_bitCount_0f7a4 16 = .ok (.iconst 2, 1) := by decide +kernel
theorem dJ6_bitCount_0f7a4_17 : decode cJ6_bitCount_0f7a4 17 = .ok (.iushr, 1) := by decide +kernel
theorem dJ6_bitCount_0f7a4_18 : decode cJ6_bitCount_0f7a4 18 = .ok (.ldc_w 266, 3) := by decide +kernel
theorem dJ6_bitCount_0f7a4_21 : decode cJ6_bitCount_0f7a4 21 = .ok (.iand, 1) := by decide +kernel
theorem dJ6_bitCount_0f7a4_22 : decode cJ6_bitCount_0f7a4 22 = .ok (.iadd, 1) := by decide +kernel
theorem dJ6_bitCount_0f7a4_23 : decode cJ6_bitCount_0f7a4 23 = .ok (.istore_n 0, 1) := by decide +kernel
theorem dJ6_bitCount_0f7a4_24 : decode cJ6_bitCount_0f7a4 24 = .ok (.iload_n 0, 1) := by decide +kernel
theorem dJ6_bitCount_0f7a4_25 : decode cJ6_bitCount_0f7a4 25 = .ok (.iload_n 0, 1) := by decide +kernel
theorem dJ6_bitCount_0f7a4_26 : decode cJ6_bitCount_0f7a4 26 = .ok (.iconst 4, 1) := by decide +kernel
theorem dJ6_bitCount_0f7a4_27 : decode cJ6_bitCount_0f7a4 27 = .ok (.iushr, 1) := by decide +kernel
theorem dJ6_bitCount_0f7a4_28 : decode cJ6_bitCount_0f7a4 28 = .ok (.iadd, 1) := by decide +kernel
theorem dJ6_bitCount_0f7a4_29 : decode cJ6_bitCount_0f7a4 29 = .ok (.ldc_w 267, 3) := by decide +kernel
theorem dJ6_bitCount_0f7a4_32 : decode cJ6_bitCount_0f7a4 32 = .ok (.iand, 1) := by decide +kernel
theorem dJ6_bitCount_0f7a4_33 : decode cJ6_bitCount_0f7a4 33 = .ok (.istore_n 0, 1) := by decide +kernel
theorem dJ6_bitCount_0f7a4_34 : decode cJ6_bitCount_0f7a4 34 = .ok (.iload_n 0, 1) := by decide +kernel
theorem dJ6_bitCount_0f7a4_35 : decode cJ6_bitCount_0f7a4 35 = .ok (.iload_n 0, 1) := by decide +kernel
theorem dJ6_bitCount_0f7a4_36 : decode cJ6_bitCount_0f7a4 36 = .ok (.bipush 8, 2) := by decide +kernel
theorem dJ6_bitCount_0f7a4_38 : decode cJ6_bitCount_0f7a4 38 = .ok (.iushr, 1) := by decide +kernel
theorem dJ6_bitCount_0f7a4_39 : decode cJ6_bitCount_0f7a4 39 = .ok (.iadd, 1) := by decide +kernel
theorem dJ6_bitCount_0f7a4_40 : decode cJ6_bitCount_0f7a4 40 = .ok (.istore_n 0, 1) := by decide +kernel
theorem dJ6_bitCount_0f7a4_41 : decode cJ6_bitCount_0f7a4 41 = .ok (.iload_n 0, 1) := by decide +kernel
theorem dJ6_bitCount_0f7a4_42 : decode cJ6_bitCount_0f7a4 42 = .ok (.iload_n 0, 1) := by decide +kernel
theorem dJ6_bitCount_0f7a4_43 : decode cJ6_bitCount_0f7a4 43 = .ok (.bipush 16, 2) := by decide +kernel
theorem dJ6_bitCount_0f7a4_45 : decode cJ6_bitCount_0f7a4 45 = .ok (.iushr, 1) := by decide +kernel
theorem dJ6_bitCount_0f7a4_46 : decode cJ6_bitCount_0f7a4 46 = .ok (.iadd, 1) := by decide +kernel
theorem dJ6_bitCount_0f7a4_47 : decode cJ6_bitCount_0f7a4 47 = .ok (.istore_n 0, 1) := by decide +kernel
theorem dJ6_bitCount_0f7a4_48 : decode cJ6_bitCount_0f7a4 48 = .ok (.iload_n 0, 1) := by decide +kernel
theorem dJ6_bitCount_0f7a4_49 : decode cJ6_bitCount_0f7a4 49 = .ok (.bipush 63, 2) := by decide +kernel
theorem dJ6_bitCount_0f7a4_51 : decode cJ6_bitCount_0f7a4 51 = .ok (.iand, 1) := by decide +kernel
theorem dJ6_bitCount_0f7a4_52 : decode cJ6_bitCount_0f7a4 52 = .ok (.ireturn, 1) := by decide +kernel
theorem dJ13_bitCount_95d88_0 : decode cJ13_bitCount_95d88 0 = .ok (.lload_n 0, 1) := by decide +kernel
theorem dJ13_bitCount_95d88_1 : decode cJ13_bitCount_95d88 1 = .ok (.lload_n 0, 1) := by decide +kernel
theorem dJ13_bitCount_95d88_2 : decode cJ13_bitCount_95d88 2 = .ok (.iconst 1, 1) := by decide +kernel
theorem dJ13_bitCount_95d88_3 : decode cJ13_bitCount_95d88 3 = .ok (.lushr, 1) := by decide +kernel
theorem dJ13_bitCount_95d88_4 : decode cJ13_bitCount_95d88 4 = .ok (.ldc2_w 314, 3) := by decide +kernel
theorem dJ13_bitCount_95d88_7 : decode cJ13_bitCount_95d88 7 = .ok (.land, 1) := by decide +kernel
theorem dJ13_bitCount_95d88_8 : decode cJ13_bitCount_95d88 8 = .ok (.lsub, 1) := by decide +kernel
theorem dJ13_bitCount_95d88_9 : decode cJ13_bitCount_95d88 9 = .ok (.lstore_n 0, 1) := by decide +kernel
theorem dJ13_bitCount_95d88_10 : decode cJ13_bitCount_95d88 10 = .ok (.lload_n 0, 1) := by decide +kernel
theorem dJ13_bitCount_95d88_11 : decode cJ13_bitCount_95d88 11 = .ok (.ldc2_w 316, 3) := by decide +kernel
theorem dJ13_bitCount_95d88_14 : decode cJ13_bitCount_95d88 14 = .ok (.land, 1) := by decide +kernel
theorem dJ13_bitCount_95d88_15 : decode cJ13_bitCount_95d88 15 = .ok (.lload_n 0, 1) := by decide +kernel
theorem dJ13_bitCount_95d88_16 : decode cJ13_bitCount_95d88 16 = .ok (.iconst 2, 1) := by decide +kernel
theorem dJ13_bitCount_95d88_17 : decode cJ13_bitCount_95d88 17 = .ok (.lushr, 1) := by decide +kernel
theorem dJ13_bitCount_95d88_18 : decode cJ13_bitCount_95d88 18 = .ok (.ldc2_w 316, 3) := by decide +kernel
theorem dJ13_bitCount_95d88_21 : decode cJ13_bitCount_95d88 21 = .ok (.land, 1) := by decide +kernel
theorem dJ13_bitCount_95d88_22 : decode cJ13_bitCount_95d88 22 = .ok (.ladd, 1) := by decide +kernel
theorem dJ13_bitCount_95d88_23 : decode cJ13_bitCount_95d88 23 = .ok (.lstore_n 0, 1) := by decide +kernel
theorem dJ13_bitCount_95d88_24 : decode cJ13_bitCount_95d88 24 = .ok (.lload_n 0, 1) := by decide +kernel
theorem dJ13_bitCount_95d88_25 : decode cJ13_bitCount_95d88 25 = .ok (.lload_n 0, 1) := by decide +kernel
theorem dJ13_bitCount_95d88_26 : decode cJ13_bitCount_95d88 26 = .ok (.iconst 4, 1) := by decide +kernel
theorem dJ13_bitCount_95d88_27 : decode cJ13_bitCount_95d88 27 = .ok (.lushr, 1) := by decide +kernel
theorem dJ13_bitCount_95d88_28 : decode cJ13_bitCount_95d88 28 = .ok (.ladd, 1) := by decide +kernel
theorem dJ13_bitCount_95d88_29 : decode cJ13_bitCount_95d88 29 = .ok (.ldc2_w 318, 3) := by decide +kernel
theorem dJ13_bitCount_95d88_32 : decode cJ13_bitCount_95d88 32 = .ok (.land, 1) := by decide +kernel
theorem dJ13_bitCount_95d88_33 : decode cJ13_bitCount_95d88 33 = .ok (.lstore_n 0, 1) := by decide +kernel
theorem dJ13_bitCount_95d88_34 : decode cJ13_bitCount_95d88 34 = .ok (.lload_n 0, 1) := by decide +kernel
theorem dJ13_bitCount_95d88_35 : decode cJ13_bitCount_95d88 35 = .ok (.lload_n 0, 1) := by decide +kernel
theorem dJ13_bitCount_95d88_36 : decode cJ13_bitCount_95d88 36 = .ok (.bipush 8, 2) := by decide +kernel
theorem dJ13_bitCount_95d88_38 : decode cJ13_bitCount_95d88 38 = .ok (.lushr, 1) := by decide +kernel
theorem dJ13_bitCount_95d88_39 : decode cJ13_bitCount_95d88 39 = .ok (.ladd, 1) := by decide +kernel
theorem dJ13_bitCount_95d88_40 : decode cJ13_bitCount_95d88 40 = .ok (.lstore_n 0, 1) := by decide +kernel
theorem dJ13_bitCount_95d88_41 : decode cJ13_bitCount_95d88 41 = .ok (.lload_n 0, 1) := by decide +kernel
theorem dJ13_bitCount_95d88_42 : decode cJ13_bitCount_95d88 42 = .ok (.lload_n 0, 1) := by decide +kernel
theorem dJ13_bitCount_95d88_43 : decode cJ13_bitCount_95d88 43 = .ok (.bipush 16, 2) := by decide +kernel
theorem dJ13_bitCount_95d88_45 : decode cJ13_bitCount_95d88 45 = .ok (.lushr, 1) := by decide +kernel
theorem dJ13_bitCount_95d88_46 : decode cJ13_bitCount_95d88 46 = .ok (.ladd, 1) := by decide +kernel
theorem dJ13_bitCount_95d88_47 : decode cJ13_bitCount_95d88 47 = .ok (.lstore_n 0, 1) := by decide +kernel
theorem dJ13_bitCount_95d88_48 : decode cJ13_bitCount_95d88 48 = .ok (.lload_n 0, 1) := by decide +kernel
theorem dJ13_bitCount_95d88_49 : decode cJ13_bitCount_95d88 49 = .ok (.lload_n 0, 1) := by decide +kernel
theorem dJ13_bitCount_95d88_50 : decode cJ13_bitCount_95d88 50 = .ok (.bipush 32, 2) := by decide +kernel
theorem dJ13_bitCount_95d88_52 : decode cJ13_bitCount_95d88 52 = .ok (.lushr, 1) := by decide +kernel
theorem dJ13_bitCount_95d88_53 : decode cJ13_bitCount_95d88 53 = .ok (.ladd, 1) := by decide +kernel
theorem dJ13_bitCount_95d88_54 : decode cJ13_bitCount_95d88 54 = .ok (.lstore_n 0, 1) := by decide +kernel
theorem dJ13_bitCount_95d88_55 : decode cJ13_bitCount_95d88 55 = .ok (.lload_n 0, 1) := by decide +kernel
theorem dJ13_bitCount_95d88_56 : decode cJ13_bitCount_95d88 56 = .ok (.l2i, 1) := by decide +kernel
theorem dJ13_bitCount_95d88_57 : decode cJ13_bitCount_95d88 57 = .ok (.bipush 127, 2) := by decide +kernel
theorem dJ13_bitCount_95d88_59 : decode cJ13_bitCount_95d88 59 = .ok (.iand, 1) := by decide +kernel
theorem dJ13_bitCount_95d88_60 : decode cJ13_bitCount_95d88 60 = .ok (.ireturn, 1) := by decide +kernel
theorem dJ9_abs_067f4_0 : decode cJ9_abs_067f4 0 = .ok (.lload_n 0, 1) := by decide +kernel
theorem dJ9_abs_067f4_1 : decode cJ9_abs_067f4 1 = .ok (.lconst 0, 1) := by decide +kernel
theorem dJ9_abs_067f4_2 : decode cJ9_abs_067f4 2 = .ok (.lcmp, 1) := by decide +kernel
theorem dJ9_abs_067f4_3 : decode cJ9_abs_067f4 3 = .ok (.ifCond .ge 8, 3) := by decide +kernel
theorem dJ9_abs_067f4_6 : decode cJ9_abs_067f4 6 = .ok (.lload_n 0, 1) := by decide +kernel
theorem dJ9_abs_067f4_7 : decode cJ9_abs_067f4 7 = .ok (.lneg, 1) := by decide +kernel
theorem dJ9_abs_067f4_8 : decode cJ9_abs_067f4 8 = .ok (.goto 4, 3) := by decide +kernel
theorem dJ9_abs_067f4_11 : decode cJ9_abs_067f4 11 = .ok (.lload_n 0, 1) := by decide +kernel
theorem dJ9_abs_067f4_12 : decode cJ9_abs_067f4 12 = .ok (.lreturn, 1) := by decide +kernel
theorem dJ9_max_7cf53_0 : decode cJ9_max_7cf53 0 = .ok (.iload_n 0, 1) := by decide +kernel
theorem dJ9_max_7cf53_1 : decode cJ9_max_7cf53 1 = .ok (.iload_n 1, 1) := by decide +kernel
theorem dJ9_max_7cf53_2 : decode cJ9_max_7cf53 2 = .ok (.if_icmp .lt 7, 3) := by decide +kernel
theorem dJ9_max_7cf53_5 : decode cJ9_max_7cf53 5 = .ok (.iload_n 0, 1) := by decide +kernel
theorem dJ9_max_7cf53_6 : decode cJ9_max_7cf53 6 = .ok (.goto 4, 3) := by decide +kernel
theorem dJ9_max_7cf53_9 : decode cJ9_max_7cf53 9 = .ok (.iload_n 1, 1) := by decide +kernel
theorem dJ9_max_7cf53_10 : decode cJ9_max_7cf53 10 = .ok (.ireturn, 1) := by decide +kernel
theorem dJ9_max_f86c9_0 : decode cJ9_max_f86c9 0 = .ok (.lload_n 0, 1) := by decide +kernel
theorem dJ9_max_f86c9_1 : decode cJ9_max_f86c9 1 = .ok (.lload_n 2, 1) := by decide +kernel
theorem dJ9_max_f86c9_2 : decode cJ9_max_f86c9 2 = .ok (.lcmp, 1) := by decide +kernel
theorem dJ9_max_f86c9_3 : decode cJ9_max_f86c9 3 = .ok (.ifCond .lt 7, 3) := by decide +kernel
theorem dJ9_max_f86c9_6 : decode cJ9_max_f86c9 6 = .ok (.lload_n 0, 1) := by decide +kernel
theorem dJ9_max_f86c9_7 : decode cJ9_max_f86c9 7 = .ok (.goto 4, 3) := by decide +kernel
theorem dJ9_max_f86c9_10 : decode cJ9_max_f86c9 10 = .ok (.lload_n 2, 1) := by decide +kernel
theorem dJ9_max_f86c9_11 : decode cJ9_max_f86c9 11 = .ok (.lreturn, 1) := by decide +kernel
theorem dJ9_min_7cf53_0 : decode cJ9_min_7cf53 0 = .ok (.iload_n 0, 1) := by decide +kernel
theorem dJ9_min_7cf53_1 : decode cJ9_min_7cf53 1 = .ok (.iload_n 1, 1) := by decide +kernel
theorem dJ9_min_7cf53_2 : decode cJ9_min_7cf53 2 = .ok (.if_icmp .gt 7, 3) := by decide +kernel
theorem dJ9_min_7cf53_5 : decode cJ9_min_7cf53 5 = .ok (.iload_n 0, 1) := by decide +kernel
theorem dJ9_min_7cf53_6 : decode cJ9_min_7cf53 6 = .ok (.goto 4, 3) := by decide +kernel
theorem dJ9_min_7cf53_9 : decode cJ9_min_7cf53 9 = .ok (.iload_n 1, 1) := by decide +kernel
theorem dJ9_min_7cf53_10 : decode cJ9_min_7cf53 10 = .ok (.ireturn, 1) := by decide +kernel
theorem dJ9_min_f86c9_0 : decode cJ9_min_f86c9 0 = .ok (.lload_n 0, 1) := by decide +kernel
theorem dJ9_min_f86c9_1 : decode cJ9_min_f86c9 1 = .ok (.lload_n 2, 1) := by decide +kernel
theorem dJ9_min_f86c9_2 : decode cJ9_min_f86c9 2 = .ok (.lcmp, 1) := by decide +kernel
theorem dJ9_min_f86c9_3 : decode cJ9_min_f86c9 3 = .ok (.ifCond .gt 7, 3) := by decide +kernel
theorem dJ9_min_f86c9_6 : decode cJ9_min_f86c9 6 = .ok (.lload_n 0, 1) := by decide +kernel
theorem dJ9_min_f86c9_7 : decode cJ9_min_f86c9 7 = .ok (.goto 4, 3) := by decide +kernel
theorem dJ9_min_f86c9_10 : decode cJ9_min_f86c9 10 = .ok (.lload_n 2, 1) := by decide +kernel
theorem dJ9_min_f86c9_11 : decode cJ9_min_f86c9 11 = .ok (.lreturn, 1) := by decide +kernel
