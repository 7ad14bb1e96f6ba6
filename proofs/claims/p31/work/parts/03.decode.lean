theorem dX0_init_0 : decode cX0_init 0 = .ok (.aload_n 0, 1) := by decide +kernel
theorem dX0_init_1 : decode cX0_init 1 = .ok (.invokespecial 3, 3) := by decide +kernel
theorem dX0_init_4 : decode cX0_init 4 = .ok (.aload_n 0, 1) := by decide +kernel
theorem dX0_init_5 : decode cX0_init 5 = .ok (.iconst (-1), 1) := by decide +kernel
theorem dX0_init_6 : decode cX0_init 6 = .ok (.putfield 9, 3) := by decide +kernel
theorem dX0_init_9 : decode cX0_init 9 = .ok (.aload_n 0, 1) := by decide +kernel
theorem dX0_init_10 : decode cX0_init 10 = .ok (.iconst 4, 1) := by decide +kernel
theorem dX0_init_11 : decode cX0_init 11 = .ok (.newarray .int, 2) := by decide +kernel
theorem dX0_init_13 : decode cX0_init 13 = .ok (.putfield 15, 3) := by decide +kernel
theorem dX0_init_16 : decode cX0_init 16 = .ok (.aload_n 0, 1) := by decide +kernel
theorem dX0_init_17 : decode cX0_init 17 = .ok (.iload_n 1, 1) := by decide +kernel
theorem dX0_init_18 : decode cX0_init 18 = .ok (.putfield 19, 3) := by decide +kernel
theorem dX0_init_21 : decode cX0_init 21 = .ok (.return_, 1) := by decide +kernel
theorem dX0_putIn_0 : decode cX0_putIn 0 = .ok (.aload_n 0, 1) := by decide +kernel
theorem dX0_putIn_1 : decode cX0_putIn 1 = .ok (.aload_n 1, 1) := by decide +kernel
theorem dX0_putIn_2 : decode cX0_putIn 2 = .ok (.putfield 22, 3) := by decide +kernel
theorem dX0_putIn_5 : decode cX0_putIn 5 = .ok (.aload_n 0, 1) := by decide +kernel
theorem dX0_putIn_6 : decode cX0_putIn 6 = .ok (.aload_n 1, 1) := by decide +kernel
theorem dX0_putIn_7 : decode cX0_putIn 7 = .ok (.getfield 26, 3) := by decide +kernel
theorem dX0_putIn_10 : decode cX0_putIn 10 = .ok (.putfield 31, 3) := by decide +kernel
theorem dX0_putIn_13 : decode cX0_putIn 13 = .ok (.aload_n 1, 1) := by decide +kernel
theorem dX0_putIn_14 : decode cX0_putIn 14 = .ok (.iconst 0, 1) := by decide +kernel
theorem dX0_putIn_15 : decode cX0_putIn 15 = .ok (.putfield 26, 3) := by decide +kernel
theorem dX0_putIn_18 : decode cX0_putIn 18 = .ok (.aload_n 1, 1) := by decide +kernel
theorem dX0_putIn_19 : decode cX0_putIn 19 = .ok (.aload_n 0, 1) := by decide +kernel
theorem dX0_putIn_20 : decode cX0_putIn 20 = .ok (.getfield 19, 3) := by decide +kernel
theorem dX0_putIn_23 : decode cX0_putIn 23 = .ok (.putfield 34, 3) := by decide +kernel
theorem dX0_putIn_26 : decode cX0_putIn 26 = .ok (.aload_n 0, 1) := by decide +kernel
theorem dX0_putIn_27 : decode cX0_putIn 27 = .ok (.aload_n 1, 1) := by decide +kernel
theorem dX0_putIn_28 : decode cX0_putIn 28 = .ok (.getfield 37, 3) := by decide +kernel
theorem dX0_putIn_31 : decode cX0_putIn 31 = .ok (.putfield 9, 3) := by decide +kernel
theorem dX0_putIn_34 : decode cX0_putIn 34 = .ok (.return_, 1) := by decide +kernel
theorem dX0_giveBack_0 : decode cX0_giveBack 0 = .ok (.aload_n 0, 1) := by decide +kernel
theorem dX0_giveBack_1 : decode cX0_giveBack 1 = .ok (.getfield 22, 3) := by decide +kernel
theorem dX0_giveBack_4 : decode cX0_giveBack 4 = .ok (.ifnull 47, 3) := by decide +kernel
theorem dX0_giveBack_7 : decode cX0_giveBack 7 = .ok (.aload_n 0, 1) := by decide +kernel
theorem dX0_giveBack_8 : decode cX0_giveBack 8 = .ok (.getfield 22, 3) := by decide +kernel
theorem dX0_giveBack_11 : decode cX0_giveBack 11 = .ok (.dup, 1) := by decide +kernel
theorem dX0_giveBack_12 : decode cX0_giveBack 12 = .ok (.getfield 26, 3) := by decide +kernel
theorem dX0_giveBack_15 : decode cX0_giveBack 15 = .ok (.iload_n 1, 1) := by decide +kernel
theorem dX0_giveBack_16 : decode cX0_giveBack 16 = .ok (.iadd, 1) := by decide +kernel
theorem dX0_giveBack_17 : decode cX0_giveBack 17 = .ok (.putfield 26, 3) := by decide +kernel
theorem dX0_giveBack_20 : decode cX0_giveBack 20 = .ok (.aload_n 0, 1) := by decide +kernel
theorem dX0_giveBack_21 : decode cX0_giveBack 21 = .ok (.getfield 22, 3) := by decide +kernel
theorem dX0_giveBack_24 : decode cX0_giveBack 24 = .ok (.dup, 1) := by decide +kernel
theorem dX0_giveBack_25 : decode cX0_giveBack 25 = .ok (.getfield 40, 3) := by decide +kernel
theorem dX0_giveBack_28 : decode cX0_giveBack 28 = .ok (.iconst 1, 1) := by decide +kernel
theorem dX0_giveBack_29 : decode cX0_giveBack 29 = .ok (.iadd, 1) := by decide +kernel
theorem dX0_giveBack_30 : decode cX0_giveBack 30 = .ok (.putfield 40, 3) := by decide +kernel
theorem dX0_giveBack_33 : decode cX0_giveBack 33 = .ok (.aload_n 0, 1) := by decide +kernel
theorem dX0_giveBack_34 : decode cX0_giveBack 34 = .ok (.getfield 22, 3) := by decide +kernel
theorem dX0_giveBack_37 : decode cX0_giveBack 37 = .ok (.iconst (-1), 1) := by decide +kernel
theorem dX0_giveBack_38 : decode cX0_giveBack 38 = .ok (.putfield 34, 3) := by decide +kernel
theorem dX0_giveBack_41 : decode cX0_giveBack 41 = .ok (.aload_n 0, 1) := by decide +kernel
theorem dX0_giveBack_42 : decode cX0_giveBack 42 = .ok (.aconst_null, 1) := by decide +kernel
theorem dX0_giveBack_43 : decode cX0_giveBack 43 = .ok (.putfield 22, 3) := by decide +kernel
theorem dX0_giveBack_46 : decode cX0_giveBack 46 = .ok (.aload_n 0, 1) := by decide +kernel
theorem dX0_giveBack_47 : decode cX0_giveBack 47 = .ok (.iconst 0, 1) := by decide +kernel
theorem dX0_giveBack_48 : decode cX0_giveBack 48 = .ok (.putfield 31, 3) := by decide +kernel
theorem dX0_giveBack_51 : decode cX0_giveBack 51 = .ok (.return_, 1) := by decide +kernel
theorem dX1_init_0 : decode cX1_init 0 = .ok (.aload_n 0, 1) := by decide +kernel
theorem dX1_init_1 : decode cX1_init 1 = .ok (.invokespecial 3, 3) := by decide +kernel
theorem dX1_init_4 : decode cX1_init 4 = .ok (.aload_n 0, 1) := by decide +kernel
theorem dX1_init_5 : decode cX1_init 5 = .ok (.bipush 64, 2) := by decide +kernel
theorem dX1_init_7 : decode cX1_init 7 = .ok (.newarray .double, 2) := by decide +kernel
theorem dX1_init_9 : decode cX1_init 9 = .ok (.putfield 9, 3) := by decide +kernel
theorem dX1_init_12 : decode cX1_init 12 = .ok (.return_, 1) := by decide +kernel
theorem dX1_cool_0 : decode cX1_cool 0 = .ok (.aload_n 0, 1) := by decide +kernel
theorem dX1_cool_1 : decode cX1_cool 1 = .ok (.getfield 9, 3) := by decide +kernel
theorem dX1_cool_4 : decode cX1_cool 4 = .ok (.dconst 0, 1) := by decide +kernel
theorem dX1_cool_5 : decode cX1_cool 5 = .ok (.invokestatic 15, 3) := by decide +kernel
theorem dX1_cool_8 : decode cX1_cool 8 = .ok (.return_, 1) := by decide +kernel
theorem dX1_shine_0 : decode cX1_shine 0 = .ok (.iconst 0, 1) := by decide +kernel
theorem dX1_shine_1 : decode cX1_shine 1 = .ok (.istore 7, 2) := by decide +kernel
theorem dX1_shine_3 : decode cX1_shine 3 = .ok (.iload 7, 2) := by decide +kernel
theorem dX1_shine_5 : decode cX1_shine 5 = .ok (.bipush 64, 2) := by decide +kernel
theorem dX1_shine_7 : decode cX1_shine 7 = .ok (.if_icmp .ge 101, 3) := by decide +kernel
theorem dX1_shine_10 : decode cX1_shine 10 = .ok (.lconst 1, 1) := by decide +kernel
theorem dX1_shine_11 : decode cX1_shine 11 = .ok (.iload 7, 2) := by decide +kernel
theorem dX1_shine_13 : decode cX1_shine 13 = .ok (.lshl, 1) := by decide +kernel
theorem dX1_shine_14 : decode cX1_shine 14 = .ok (.lstore 8, 2) := by decide +kernel
theorem dX1_shine_16 : decode cX1_shine 16 = .ok (.aload_n 0, 1) := by decide +kernel
theorem dX1_shine_17 : decode cX1_shine 17 = .ok (.getfield 9, 3) := by decide +kernel
theorem dX1_shine_20 : decode cX1_shine 20 = .ok (.iload 7, 2) := by decide +kernel
theorem dX1_shine_22 : decode cX1_shine 22 = .ok (.daload, 1) := by decide +kernel
theorem dX1_shine_23 : decode cX1_shine 23 = .ok (.ldc2_w 21, 3) := by decide +kernel
theorem dX1_shine_26 : decode cX1_shine 26 = .ok (.dmul, 1) := by decide +kernel
theorem dX1_shine_27 : decode cX1_shine 27 = .ok (.dstore 10, 2) := by decide +kernel
theorem dX1_shine_29 : decode cX1_shine 29 = .ok (.lload_n 1, 1) := by decide +kernel
theorem dX1_shine_30 : decode cX1_shine 30 = .ok (.lload 8, 2) := by decide +kernel
theorem dX1_shine_32 : decode cX1_shine 32 = .ok (.land, 1) := by decide +kernel
theorem dX1_shine_33 : decode cX1_shine 33 = .ok (.lconst 0, 1) := by decide +kernel
theorem dX1_shine_34 : decode cX1_shine 34 = .ok (.lcmp, 1) := by decide +kernel
theorem dX1_shine_35 : decode cX1_shine 35 = .ok (.ifCond .ne 15, 3) := by decide +kernel
theorem dX1_shine_38 : decode cX1_shine 38 = .ok (.aload_n 0, 1) := by decide +kernel
theorem dX1_shine_39 : decode cX1_shine 39 = .ok (.getfield 9, 3) := by decide +kernel
theorem dX1_shine_42 : decode cX1_shine 42 = .ok (.iload 7, 2) := by decide +kernel
theorem dX1_shine_44 : decode cX1_shine 44 = .ok (.dload 10, 2) := by decide +kernel
theorem dX1_shine_46 : decode cX1_shine 46 = .ok (.dastore, 1) := by decide +kernel
theorem dX1_shine_47 : decode cX1_shine 47 = .ok (.goto 55, 3) := by decide +kernel
theorem dX1_shine_50 : decode cX1_shine 50 = .ok (.aload_n 0, 1) := by decide +kernel
theorem dX1_shine_51 : decode cX1_shine 51 = .ok (.getfield 9, 3) := by decide +kernel
theorem dX1_shine_54 : decode cX1_shine 54 = .ok (.iload 7, 2) := by decide +kernel
theorem dX1_shine_56 : decode cX1_shine 56 = .ok (.dload 10, 2) := by decide +kernel
theorem dX1_shine_58 : decode cX1_shine 58 = .ok (.dload 5, 2) := by decide +kernel
theorem dX1_shine_60 : decode cX1_shine 60 = .ok (.ldc2_w 23, 3) := by decide +kernel
theorem dX1_shine_63 : decode cX1_shine 63 = .ok (.dmul, 1) := by decide +kernel
theorem dX1_shine_64 : decode cX1_shine 64 = .ok (.dadd, 1) := by decide +kernel
theorem dX1_shine_65 : decode cX1_shine 65 = .ok (.dastore, 1) := by decide +kernel
theorem dX1_shine_66 : decode cX1_shine 66 = .ok (.dload 5, 2) := by decide +kernel
theorem dX1_shine_68 : decode cX1_shine 68 = .ok (.aload_n 0, 1) := by decide +kernel
theorem dX1_shine_69 : decode cX1_shine 69 = .ok (.getfield 9, 3) := by decide +kernel
theorem dX1_shine_72 : decode cX1_shine 72 = .ok (.iload 7, 2) := by decide +kernel
theorem dX1_shine_74 : decode cX1_shine 74 = .ok (.daload, 1) := by decide +kernel
theorem dX1_shine_75 : decode cX1_shine 75 = .ok (.dadd, 1) := by decide +kernel
theorem dX1_shine_76 : decode cX1_shine 76 = .ok (.dstore 12, 2) := by decide +kernel
theorem dX1_shine_78 : decode cX1_shine 78 = .ok (.aload_n 0, 1) := by decide +kernel
theorem dX1_shine_79 : decode cX1_shine 79 = .ok (.lload_n 3, 1) := by decide +kernel
theorem dX1_shine_80 : decode cX1_shine 80 = .ok (.lload 8, 2) := by decide +kernel
theorem dX1_shine_82 : decode cX1_shine 82 = .ok (.land, 1) := by decide +kernel
theorem dX1_shine_83 : decode cX1_shine 83 = .ok (.lconst 0, 1) := by decide +kernel
theorem dX1_shine_84 : decode cX1_shine 84 = .ok (.lcmp, 1) := by decide +kernel
theorem dX1_shine_85 : decode cX1_shine 85 = .ok (.ifCond .ne 8, 3) := by decide +kernel
theorem dX1_shine_88 : decode cX1_shine 88 = .ok (.dload 12, 2) := by decide +kernel
theorem dX1_shine_90 : decode cX1_shine 90 = .ok (.goto 9, 3) := by decide +kernel
theorem dX1_shine_93 : decode cX1_shine 93 = .ok (.dload 12, 2) := by decide +kernel
theorem dX1_shine_95 : decode cX1_shine 95 = .ok (.ldc2_w 25, 3) := by decide +kernel
theorem dX1_shine_98 : decode cX1_shine 98 = .ok (.dmul, 1) := by decide +kernel
theorem dX1_shine_99 : decode cX1_shine 99 = .ok (.invokevirtual 27, 3) := by decide +kernel
theorem dX1_shine_102 : decode cX1_shine 102 = .ok (.iinc 7 1, 3) := by decide +kernel
theorem dX1_shine_105 : decode cX1_shine 105 = .ok (.goto (-102), 3) := by decide +kernel
theorem dX1_shine_108 : decode cX1_shine 108 = .ok (.return_, 1) := by decide +kernel
theorem dX1_judge_0 : decode cX1_judge 0 = .ok (.dload_n 1, 1) := by decide +kernel
theorem dX1_judge_1 : decode cX1_judge 1 = .ok (.ldc2_w 31, 3) := by decide +kernel
theorem dX1_judge_4 : decode cX1_judge 4 = .ok (.dcmp .g, 1) := by decide +kernel
theorem dX1_judge_5 : decode cX1_judge 5 = .ok (.ifCond .ge 16, 3) := by decide +kernel
theorem dX1_judge_8 : decode cX1_judge 8 = .ok (.aload_n 0, 1) := by decide +kernel
theorem dX1_judge_9 : decode cX1_judge 9 = .ok (.dup, 1) := by decide +kernel
theorem dX1_judge_10 : decode cX1_judge 10 = .ok (.getfield 33, 3) := by decide +kernel
theorem dX1_judge_13 : decode cX1_judge 13 = .ok (.iconst 1, 1) := by decide +kernel
theorem dX1_judge_14 : decode cX1_judge 14 = .ok (.iadd, 1) := by decide +kernel
theorem dX1_judge_15 : decode cX1_judge 15 = .ok (.putfield 33, 3) := by decide +kernel
theorem dX1_judge_18 : decode cX1_judge 18 = .ok (.goto 21, 3) := by decide +kernel
theorem dX1_judge_21 : decode cX1_judge 21 = .ok (.dload_n 1, 1) := by decide +kernel
theorem dX1_judge_22 : decode cX1_judge 22 = .ok (.ldc2_w 37, 3) := by decide +kernel
theorem dX1_judge_25 : decode cX1_judge 25 = .ok (.dcmp .l, 1) := by decide +kernel
theorem dX1_judge_26 : decode cX1_judge 26 = .ok (.ifCond .le 13, 3) := by decide +kernel
theorem dX1_judge_29 : decode cX1_judge 29 = .ok (.aload_n 0, 1) := by decide +kernel
theorem dX1_judge_30 : decode cX1_judge 30 = .ok (.dup, 1) := by decide +kernel
theorem dX1_judge_31 : decode cX1_judge 31 = .ok (.getfield 39, 3) := by decide +kernel
theorem dX1_judge_34 : decode cX1_judge 34 = .ok (.iconst 1, 1) := by decide +kernel
theorem dX1_judge_35 : decode cX1_judge 35 = .ok (.iadd, 1) := by decide +kernel
theorem dX1_judge_36 : decode cX1_judge 36 = .ok (.putfield 39, 3) := by decide +kernel
theorem dX1_judge_39 : decode cX1_judge 39 = .ok (.return_, 1) := by decide +kernel
theorem dX2_init_0 : decode cX2_init 0 = .ok (.aload_n 0, 1) := by decide +kernel
theorem dX2_init_1 : decode cX2_init 1 = .ok (.invokespecial 3, 3) := by decide +kernel
theorem dX2_init_4 : decode cX2_init 4 = .ok (.aload_n 0, 1) := by decide +kernel
theorem dX2_init_5 : decode cX2_init 5 = .ok (.new 9, 3) := by decide +kernel
theorem dX2_init_8 : decode cX2_init 8 = .ok (.dup, 1) := by decide +kernel
theorem dX2_init_9 : decode cX2_init 9 = .ok (.invokespecial 11, 3) := by decide +kernel
theorem dX2_init_12 : decode cX2_init 12 = .ok (.putfield 12, 3) := by decide +kernel
theorem dX2_init_15 : decode cX2_init 15 = .ok (.aload_n 0, 1) := by decide +kernel
theorem dX2_init_16 : decode cX2_init 16 = .ok (.new 18, 3) := by decide +kernel
theorem dX2_init_19 : decode cX2_init 19 = .ok (.dup, 1) := by decide +kernel
theorem dX2_init_20 : decode cX2_init 20 = .ok (.invokespecial 20, 3) := by decide +kernel
theorem dX2_init_23 : decode cX2_init 23 = .ok (.putfield 21, 3) := by decide +kernel
theorem dX2_init_26 : decode cX2_init 26 = .ok (.aload_n 0, 1) := by decide +kernel
theorem dX2_init_27 : decode cX2_init 27 = .ok (.iconst 0, 1) := by decide +kernel
theorem dX2_init_28 : decode cX2_init 28 = .ok (.putfield 25, 3) := by decide +kernel
theorem dX2_init_31 : decode cX2_init 31 = .ok (.aload_n 0, 1) := by decide +kernel
theorem dX2_init_32 : decode cX2_init 32 = .ok (.iconst (-1), 1) := by decide +kernel
theorem dX2_init_33 : decode cX2_init 33 = .ok (.putfield 29, 3) := by decide +kernel
theorem dX2_init_36 : decode cX2_init 36 = .ok (.aload_n 0, 1) := by decide +kernel
theorem dX2_init_37 : decode cX2_init 37 = .ok (.iconst (-1), 1) := by decide +kernel
theorem dX2_init_38 : decode cX2_init 38 = .ok (.putfield 32, 3) := by decide +kernel
theorem dX2_init_41 : decode cX2_init 41 = .ok (.aload_n 0, 1) := by decide +kernel
theorem dX2_init_42 : decode cX2_init 42 = .ok (.iconst (-1), 1) := by decide +kernel
theorem dX2_init_43 : decode cX2_init 43 = .ok (.putfield 35, 3) := by decide +kernel
theorem dX2_init_46 : decode cX2_init 46 = .ok (.aload_n 0, 1) := by decide +kernel
theorem dX2_init_47 : decode cX2_init 47 = .ok (.iconst (-1), 1) := by decide +kernel
theorem dX2_init_48 : decode cX2_init 48 = .ok (.putfield 38, 3) := by decide +kernel
theorem dX2_init_51 : decode cX2_init 51 = .ok (.aload_n 0, 1) := by decide +kernel
theorem dX2_init_52 : decode cX2_init 52 = .ok (.iconst (-1), 1) := by decide +kernel
theorem dX2_init_53 : decode cX2_init 53 = .ok (.putfield 41, 3) := by decide +kernel
theorem dX2_init_56 : decode cX2_init 56 = .ok (.aload_n 0, 1) := by decide +kernel
theorem dX2_init_57 : decode cX2_init 57 = .ok (.iload_n 1, 1) := by decide +kernel
theorem dX2_init_58 : decode cX2_init 58 = .ok (.putfield 44, 3) := by decide +kernel
theorem dX2_init_61 : decode cX2_init 61 = .ok (.return_, 1) := by decide +kernel
theorem dX2_begin_0 : decode cX2_begin 0 = .ok (.aload_n 0, 1) := by decide +kernel
theorem dX2_begin_1 : decode cX2_begin 1 = .ok (.iconst 1, 1) := by decide +kernel
theorem dX2_begin_2 : decode cX2_begin 2 = .ok (.putfield 25, 3) := by decide +kernel
theorem dX2_begin_5 : decode cX2_begin 5 = .ok (.aload_n 0, 1) := by decide +kernel
theorem dX2_begin_6 : decode cX2_begin 6 = .ok (.aload_n 1, 1) := by decide +kernel
theorem dX2_begin_7 : decode cX2_begin 7 = .ok (.putfield 47, 3) := by decide +kernel
theorem dX2_begin_10 : decode cX2_begin 10 = .ok (.aload_n 0, 1) := by decide +kernel
theorem dX2_begin_11 : decode cX2_begin 11 = .ok (.iload_n 3, 1) := by decide +kernel
theorem dX2_begin_12 : decode cX2_begin 12 = .ok (.putfield 29, 3) := by decide +kernel
theorem dX2_begin_15 : decode cX2_begin 15 = .ok (.aload_n 0, 1) := by decide +kernel
theorem dX2_begin_16 : decode cX2_begin 16 = .ok (.iload 4, 2) := by decide +kernel
theorem dX2_begin_18 : decode cX2_begin 18 = .ok (.putfield 32, 3) := by decide +kernel
theorem dX2_begin_21 : decode cX2_begin 21 = .ok (.aload_n 0, 1) := by decide +kernel
theorem dX2_begin_22 : decode cX2_begin 22 = .ok (.aload_n 2, 1) := by decide +kernel
theorem dX2_begin_23 : decode cX2_begin 23 = .ok (.getfield 51, 3) := by decide +kernel
theorem dX2_begin_26 : decode cX2_begin 26 = .ok (.putfield 35, 3) := by decide +kernel
theorem dX2_begin_29 : decode cX2_begin 29 = .ok (.aload_n 0, 1) := by decide +kernel
theorem dX2_begin_30 : decode cX2_begin 30 = .ok (.aload_n 2, 1) := by decide +kernel
theorem dX2_begin_31 : decode cX2_begin 31 = .ok (.getfield 54, 3) := by decide +kernel
theorem dX2_begin_34 : decode cX2_begin 34 = .ok (.putfield 38, 3) := by decide +kernel
theorem dX2_begin_37 : decode cX2_begin 37 = .ok (.aload_n 0, 1) := by decide +kernel
theorem dX2_begin_38 : decode cX2_begin 38 = .ok (.aload_n 2, 1) := by decide +kernel
theorem dX2_begin_39 : decode cX2_begin 39 = .ok (.getfield 55, 3) := by decide +kernel
theorem dX2_begin_42 : decode cX2_begin 42 = .ok (.sipush 401, 3) := by decide +kernel
theorem dX2_begin_45 : decode cX2_begin 45 = .ok (.imul, 1) := by decide +kernel
theorem dX2_begin_46 : decode cX2_begin 46 = .ok (.iload_n 3, 1) := by decide +kernel
theorem dX2_begin_47 : decode cX2_begin 47 = .ok (.iadd, 1) := by decide +kernel
theorem dX2_begin_48 : decode cX2_begin 48 = .ok (.bipush 21, 2) := by decide +kernel
theorem dX2_begin_50 : decode cX2_begin 50 = .ok (.imul, 1) := by decide +kernel
theorem dX2_begin_51 : decode cX2_begin 51 = .ok (.iload 4, 2) := by decide +kernel
theorem dX2_begin_53 : decode cX2_begin 53 = .ok (.iadd, 1) := by decide +kernel
theorem dX2_begin_54 : decode cX2_begin 54 = .ok (.putfield 41, 3) := by decide +kernel
theorem dX2_begin_57 : decode cX2_begin 57 = .ok (.return_, 1) := by decide +kernel
theorem dX2_addLayer_0 : decode cX2_addLayer 0 = .ok (.aload_n 0, 1) := by decide +kernel
theorem dX2_addLayer_1 : decode cX2_addLayer 1 = .ok (.getfield 12, 3) := by decide +kernel
theorem dX2_addLayer_4 : decode cX2_addLayer 4 = .ok (.getfield 58, 3) := by decide +kernel
theorem dX2_addLayer_7 : decode cX2_addLayer 7 = .ok (.aload_n 0, 1) := by decide +kernel
theorem dX2_addLayer_8 : decode cX2_addLayer 8 = .ok (.getfield 62, 3) := by decide +kernel
theorem dX2_addLayer_11 : decode cX2_addLayer 11 = .ok (.laload, 1) := by decide +kernel
theorem dX2_addLayer_12 : decode cX2_addLayer 12 = .ok (.lstore_n 1, 1) := by decide +kernel
theorem dX2_addLayer_13 : decode cX2_addLayer 13 = .ok (.aload_n 0, 1) := by decide +kernel
theorem dX2_addLayer_14 : decode cX2_addLayer 14 = .ok (.getfield 21, 3) := by decide +kernel
theorem dX2_addLayer_17 : decode cX2_addLayer 17 = .ok (.aload_n 0, 1) := by decide +kernel
theorem dX2_addLayer_18 : decode cX2_addLayer 18 = .ok (.getfield 12, 3) := by decide +kernel
theorem dX2_addLayer_21 : decode cX2_addLayer 21 = .ok (.getfield 65, 3) := by decide +kernel
theorem dX2_addLayer_24 : decode cX2_addLayer 24 = .ok (.aload_n 0, 1) := by decide +kernel
theorem dX2_addLayer_25 : decode cX2_addLayer 25 = .ok (.getfield 62, 3) := by decide +kernel
theorem dX2_addLayer_28 : decode cX2_addLayer 28 = .ok (.laload, 1) := by decide +kernel
theorem dX2_addLayer_29 : decode cX2_addLayer 29 = .ok (.lload_n 1, 1) := by decide +kernel
theorem dX2_addLayer_30 : decode cX2_addLayer 30 = .ok (.aload_n 0, 1) := by decide +kernel
theorem dX2_addLayer_31 : decode cX2_addLayer 31 = .ok (.getfield 29, 3) := by decide +kernel
theorem dX2_addLayer_34 : decode cX2_addLayer 34 = .ok (.aload_n 0, 1) := by decide +kernel
theorem dX2_addLayer_35 : decode cX2_addLayer 35 = .ok (.getfield 32, 3) := by decide +kernel
theorem dX2_addLayer_38 : decode cX2_addLayer 38 = .ok (.invokestatic 68, 3) := by decide +kernel
theorem dX2_addLayer_41 : decode cX2_addLayer 41 = .ok (.invokevirtual 72, 3) := by decide +kernel
theorem dX2_addLayer_44 : decode cX2_addLayer 44 = .ok (.aload_n 0, 1) := by decide +kernel
theorem dX2_addLayer_45 : decode cX2_addLayer 45 = .ok (.aload_n 0, 1) := by decide +kernel
theorem dX2_addLayer_46 : decode cX2_addLayer 46 = .ok (.getfield 76, 3) := by decide +kernel
theorem dX2_addLayer_49 : decode cX2_addLayer 49 = .ok (.ldc2_w 80, 3) := by decide +kernel
theorem dX2_addLayer_52 : decode cX2_addLayer 52 = .ok (.dmul, 1) := by decide +kernel
theorem dX2_addLayer_53 : decode cX2_addLayer 53 = .ok (.ldc2_w 82, 3) := by decide +kernel
theorem dX2_addLayer_56 : decode cX2_addLayer 56 = .ok (.lload_n 1, 1) := by decide +kernel
theorem dX2_addLayer_57 : decode cX2_addLayer 57 = .ok (.invokestatic 84, 3) := by decide +kernel
theorem dX2_addLayer_60 : decode cX2_addLayer 60 = .ok (.i2d, 1) := by decide +kernel
theorem dX2_addLayer_61 : decode cX2_addLayer 61 = .ok (.dmul, 1) := by decide +kernel
theorem dX2_addLayer_62 : decode cX2_addLayer 62 = .ok (.dadd, 1) := by decide +kernel
theorem dX2_addLayer_63 : decode cX2_addLayer 63 = .ok (.putfield 76, 3) := by decide +kernel
theorem dX2_addLayer_66 : decode cX2_addLayer 66 = .ok (.aload_n 0, 1) := by decide +kernel
theorem dX2_addLayer_67 : decode cX2_addLayer 67 = .ok (.dup, 1) := by decide +kernel
theorem dX2_addLayer_68 : decode cX2_addLayer 68 = .ok (.getfield 62, 3) := by decide +kernel
theorem dX2_addLayer_71 : decode cX2_addLayer 71 = .ok (.iconst 1, 1) := by decide +kernel
theorem dX2_addLayer_72 : decode cX2_addLayer 72 = .ok (.iadd, 1) := by decide +kernel
theorem dX2_addLayer_73 : decode cX2_addLayer 73 = .ok (.putfield 62, 3) := by decide +kernel
theorem dX2_addLayer_76 : decode cX2_addLayer 76 = .ok (.return_, 1) := by decide +kernel
theorem dX2_isStruck_0 : decode cX2_isStruck 0 = .ok (.aload_n 0, 1) := by decide +kernel
theorem dX2_isStruck_1 : decode cX2_isStruck 1 = .ok (.getfield 76, 3) := by decide +kernel
theorem dX2_isStruck_4 : decode cX2_isStruck 4 = .ok (.ldc2_w 90, 3) := by decide +kernel
theorem dX2_isStruck_7 : decode cX2_isStruck 7 = .ok (.dcmp .l, 1) := by decide +kernel
theorem dX2_isStruck_8 : decode cX2_isStruck 8 = .ok (.ifCond .le 7, 3) := by decide +kernel
theorem dX2_isStruck_11 : decode cX2_isStruck 11 = .ok (.iconst 1, 1) := by decide +kernel
theorem dX2_isStruck_12 : decode cX2_isStruck 12 = .ok (.goto 4, 3) := by decide +kernel
theorem dX2_isStruck_15 : decode cX2_isStruck 15 = .ok (.iconst 0, 1) := by decide +kernel
theorem dX2_isStruck_16 : decode cX2_isStruck 16 = .ok (.ireturn, 1) := by decide +kernel
theorem dX2_density_0 : decode cX2_density 0 = .ok (.aload_n 0, 1) := by decide +kernel
theorem dX2_density_1 : decode cX2_density 1 = .ok (.getfield 12, 3) := by decide +kernel
theorem dX2_density_4 : decode cX2_density 4 = .ok (.invokevirtual 92, 3) := by decide +kernel
theorem dX2_density_7 : decode cX2_density 7 = .ok (.istore_n 1, 1) := by decide +kernel
theorem dX2_density_8 : decode cX2_density 8 = .ok (.iload_n 1, 1) := by decide +kernel
theorem dX2_density_9 : decode cX2_density 9 = .ok (.ifCond .ne 7, 3) := by decide +kernel
theorem dX2_density_12 : decode cX2_density 12 = .ok (.dconst 0, 1) := by decide +kernel
theorem dX2_density_13 : decode cX2_density 13 = .ok (.goto 24, 3) := by decide +kernel
theorem dX2_density_16 : decode cX2_density 16 = .ok (.dconst 1, 1) := by decide +kernel
theorem dX2_density_17 : decode cX2_density 17 = .ok (.aload_n 0, 1) := by decide +kernel
theorem dX2_density_18 : decode cX2_density 18 = .ok (.getfield 21, 3) := by decide +kernel
theorem dX2_density_21 : decode cX2_density 21 = .ok (.getfield 96, 3) := by decide +kernel
theorem dX2_density_24 : decode cX2_density 24 = .ok (.aload_n 0, 1) := by decide +kernel
theorem dX2_density_25 : decode cX2_density 25 = .ok (.getfield 21, 3) := by decide +kernel
theorem dX2_density_28 : decode cX2_density 28 = .ok (.getfield 99, 3) := by decide +kernel
theorem dX2_density_31 : decode cX2_density 31 = .ok (.iadd, 1) := by decide +kernel
theorem dX2_density_32 : decode cX2_density 32 = .ok (.i2d, 1) := by decide +kernel
theorem dX2_density_33 : decode cX2_density 33 = .ok (.iload_n 1, 1) := by decide +kernel
theorem dX2_density_34 : decode cX2_density 34 = .ok (.i2d, 1) := by decide +kernel
theorem dX2_density_35 : decode cX2_density 35 = .ok (.ddiv, 1) := by decide +kernel
theorem dX2_density_36 : decode cX2_density 36 = .ok (.dsub, 1) := by decide +kernel
theorem dX2_density_37 : decode cX2_density 37 = .ok (.dreturn, 1) := by decide +kernel
theorem dX3_init_0 : decode cX3_init 0 = .ok (.aload_n 0, 1) := by decide +kernel
theorem dX3_init_1 : decode cX3_init 1 = .ok (.invokespecial 3, 3) := by decide +kernel
theorem dX3_init_4 : decode cX3_init 4 = .ok (.aload_n 0, 1) := by decide +kernel
theorem dX3_init_5 : decode cX3_init 5 = .ok (.iconst (-1), 1) := by decide +kernel
theorem dX3_init_6 : decode cX3_init 6 = .ok (.putfield 9, 3) := by decide +kernel
theorem dX3_init_9 : decode cX3_init 9 = .ok (.aload_n 0, 1) := by decide +kernel
theorem dX3_init_10 : decode cX3_init 10 = .ok (.iload_n 1, 1) := by decide +kernel
theorem dX3_init_11 : decode cX3_init 11 = .ok (.putfield 15, 3) := by decide +kernel
theorem dX3_init_14 : decode cX3_init 14 = .ok (.aload_n 0, 1) := by decide +kernel
theorem dX3_init_15 : decode cX3_init 15 = .ok (.iconst 1, 1) := by decide +kernel
theorem dX3_init_16 : decode cX3_init 16 = .ok (.iload_n 1, 1) := by decide +kernel
theorem dX3_init_17 : decode cX3_init 17 = .ok (.ishl, 1) := by decide +kernel
theorem dX3_init_18 : decode cX3_init 18 = .ok (.putfield 18, 3) := by decide +kernel
theorem dX3_init_21 : decode cX3_init 21 = .ok (.return_, 1) := by decide +kernel
theorem dX3_takeIn_0 : decode cX3_takeIn 0 = .ok (.aload_n 0, 1) := by decide +kernel
theorem dX3_takeIn_1 : decode cX3_takeIn 1 = .ok (.dup, 1) := by decide +kernel
theorem dX3_takeIn_2 : decode cX3_takeIn 2 = .ok (.getfield 21, 3) := by decide +kernel
theorem dX3_takeIn_5 : decode cX3_takeIn 5 = .ok (.aload_n 1, 1) := by decide +kernel
theorem dX3_takeIn_6 : decode cX3_takeIn 6 = .ok (.getfield 21, 3) := by decide +kernel
theorem dX3_takeIn_9 : decode cX3_takeIn 9 = .ok (.iadd, 1) := by decide +kernel
theorem dX3_takeIn_10 : decode cX3_takeIn 10 = .ok (.putfield 21, 3) := by decide +kernel
theorem dX3_takeIn_13 : decode cX3_takeIn 13 = .ok (.aload_n 1, 1) := by decide +kernel
theorem dX3_takeIn_14 : decode cX3_takeIn 14 = .ok (.iconst 0, 1) := by decide +kernel
theorem dX3_takeIn_15 : decode cX3_takeIn 15 = .ok (.putfield 21, 3) := by decide +kernel
theorem dX3_takeIn_18 : decode cX3_takeIn 18 = .ok (.aload_n 0, 1) := by decide +kernel
theorem dX3_takeIn_19 : decode cX3_takeIn 19 = .ok (.aload_n 0, 1) := by decide +kernel
theorem dX3_takeIn_20 : decode cX3_takeIn 20 = .ok (.getfield 24, 3) := by decide +kernel
theorem dX3_takeIn_23 : decode cX3_takeIn 23 = .ok (.aload_n 1, 1) := by decide +kernel
theorem dX3_takeIn_24 : decode cX3_takeIn 24 = .ok (.getfield 24, 3) := by decide +kernel
theorem dX3_takeIn_27 : decode cX3_takeIn 27 = .ok (.invokestatic 27, 3) := by decide +kernel
theorem dX3_takeIn_30 : decode cX3_takeIn 30 = .ok (.putfield 24, 3) := by decide +kernel
theorem dX3_takeIn_33 : decode cX3_takeIn 33 = .ok (.aload_n 0, 1) := by decide +kernel
theorem dX3_takeIn_34 : decode cX3_takeIn 34 = .ok (.dup, 1) := by decide +kernel
theorem dX3_takeIn_35 : decode cX3_takeIn 35 = .ok (.getfield 18, 3) := by decide +kernel
theorem dX3_takeIn_38 : decode cX3_takeIn 38 = .ok (.aload_n 1, 1) := by decide +kernel
theorem dX3_takeIn_39 : decode cX3_takeIn 39 = .ok (.getfield 18, 3) := by decide +kernel
theorem dX3_takeIn_42 : decode cX3_takeIn 42 = .ok (.ior, 1) := by decide +kernel
theorem dX3_takeIn_43 : decode cX3_takeIn 43 = .ok (.putfield 18, 3) := by decide +kernel
theorem dX3_takeIn_46 : decode cX3_takeIn 46 = .ok (.return_, 1) := by decide +kernel
theorem dX4_init_0 : decode cX4_init 0 = .ok (.aload_n 0, 1) := by decide +kernel
theorem dX4_init_1 : decode cX4_init 1 = .ok (.invokespecial 3, 3) := by decide +kernel
theorem dX4_init_4 : decode cX4_init 4 = .ok (.aload_n 0, 1) := by decide +kernel
theorem dX4_init_5 : decode cX4_init 5 = .ok (.bipush 8, 2) := by decide +kernel
theorem dX4_init_7 : decode cX4_init 7 = .ok (.newarray .long, 2) := by decide +kernel
theorem dX4_init_9 : decode cX4_init 9 = .ok (.putfield 9, 3) := by decide +kernel
theorem dX4_init_12 : decode cX4_init 12 = .ok (.aload_n 0, 1) := by decide +kernel
theorem dX4_init_13 : decode cX4_init 13 = .ok (.bipush 8, 2) := by decide +kernel
theorem dX4_init_15 : decode cX4_init 15 = .ok (.newarray .long, 2) := by decide +kernel
theorem dX4_init_17 : decode cX4_init 17 = .ok (.putfield 15, 3) := by decide +kernel
theorem dX4_init_20 : decode cX4_init 20 = .ok (.aload_n 0, 1) := by decide +kernel
theorem dX4_init_21 : decode cX4_init 21 = .ok (.bipush 8, 2) := by decide +kernel
theorem dX4_init_23 : decode cX4_init 23 = .ok (.newarray .long, 2) := by decide +kernel
theorem dX4_init_25 : decode cX4_init 25 = .ok (.putfield 18, 3) := by decide +kernel
theorem dX4_init_28 : decode cX4_init 28 = .ok (.return_, 1) := by decide +kernel
theorem dX4_tell_0 : decode cX4_tell 0 = .ok (.aload_n 0, 1) := by decide +kernel
theorem dX4_tell_1 : decode cX4_tell 1 = .ok (.getfield 9, 3) := by decide +kernel
theorem dX4_tell_4 : decode cX4_tell 4 = .ok (.iload_n 1, 1) := by decide +kernel
theorem dX4_tell_5 : decode cX4_tell 5 = .ok (.lload_n 2, 1) := by decide +kernel
theorem dX4_tell_6 : decode cX4_tell 6 = .ok (.lastore, 1) := by decide +kernel
theorem dX4_tell_7 : decode cX4_tell 7 = .ok (.aload_n 0, 1) := by decide +kernel
theorem dX4_tell_8 : decode cX4_tell 8 = .ok (.invokevirtual 21, 3) := by decide +kernel
theorem dX4_tell_11 : decode cX4_tell 11 = .ok (.return_, 1) := by decide +kernel
theorem dX4_becomeCopy_0 : decode cX4_becomeCopy 0 = .ok (.aload_n 1, 1) := by decide +kernel
theorem dX4_becomeCopy_1 : decode cX4_becomeCopy 1 = .ok (.getfield 9, 3) := by decide +kernel
theorem dX4_becomeCopy_4 : decode cX4_becomeCopy 4 = .ok (.iconst 0, 1) := by decide +kernel
theorem dX4_becomeCopy_5 : decode cX4_becomeCopy 5 = .ok (.aload_n 0, 1) := by decide +kernel
theorem dX4_becomeCopy_6 : decode cX4_becomeCopy 6 = .ok (.getfield 9, 3) := by decide +kernel
theorem dX4_becomeCopy_9 : decode cX4_becomeCopy 9 = .ok (.iconst 0, 1) := by decide +kernel
theorem dX4_becomeCopy_10 : decode cX4_becomeCopy 10 = .ok (.bipush 8, 2) := by decide +kernel
theorem dX4_becomeCopy_12 : decode cX4_becomeCopy 12 = .ok (.invokestatic 24, 3) := by decide +kernel
theorem dX4_becomeCopy_15 : decode cX4_becomeCopy 15 = .ok (.aload_n 0, 1) := by decide +kernel
theorem dX4_becomeCopy_16 : decode cX4_becomeCopy 16 = .ok (.invokevirtual 21, 3) := by decide +kernel
theorem dX4_becomeCopy_19 : decode cX4_becomeCopy 19 = .ok (.return_, 1) := by decide +kernel
theorem dX4_becomeLaid_0 : decode cX4_becomeLaid 0 = .ok (.aload_n 0, 1) := by decide +kernel
theorem dX4_becomeLaid_1 : decode cX4_becomeLaid 1 = .ok (.getfield 9, 3) := by decide +kernel
theorem dX4_becomeLaid_4 : decode cX4_becomeLaid 4 = .ok (.lconst 0, 1) := by decide +kernel
theorem dX4_becomeLaid_5 : decode cX4_becomeLaid 5 = .ok (.invokestatic 30, 3) := by decide +kernel
theorem dX4_becomeLaid_8 : decode cX4_becomeLaid 8 = .ok (.iconst 0, 1) := by decide +kernel
theorem dX4_becomeLaid_9 : decode cX4_becomeLaid 9 = .ok (.istore_n 3, 1) := by decide +kernel
theorem dX4_becomeLaid_10 : decode cX4_becomeLaid 10 = .ok (.iload_n 3, 1) := by decide +kernel
theorem dX4_becomeLaid_11 : decode cX4_becomeLaid 11 = .ok (.bipush 8, 2) := by decide +kernel
theorem dX4_becomeLaid_13 : decode cX4_becomeLaid 13 = .ok (.if_icmp .ge 71, 3) := by decide +kernel
theorem dX4_becomeLaid_16 : decode cX4_becomeLaid 16 = .ok (.aload_n 1, 1) := by decide +kernel
theorem dX4_becomeLaid_17 : decode cX4_becomeLaid 17 = .ok (.getfield 9, 3) := by decide +kernel
theorem dX4_becomeLaid_20 : decode cX4_becomeLaid 20 = .ok (.iload_n 3, 1) := by decide +kernel
theorem dX4_becomeLaid_21 : decode cX4_becomeLaid 21 = .ok (.laload, 1) := by decide +kernel
theorem dX4_becomeLaid_22 : decode cX4_becomeLaid 22 = .ok (.lstore 4, 2) := by decide +kernel
theorem dX4_becomeLaid_24 : decode cX4_becomeLaid 24 = .ok (.iconst 0, 1) := by decide +kernel
theorem dX4_becomeLaid_25 : decode cX4_becomeLaid 25 = .ok (.istore 6, 2) := by decide +kernel
theorem dX4_becomeLaid_27 : decode cX4_becomeLaid 27 = .ok (.iload 6, 2) := by decide +kernel
theorem dX4_becomeLaid_29 : decode cX4_becomeLaid 29 = .ok (.bipush 64, 2) := by decide +kernel
theorem dX4_becomeLaid_31 : decode cX4_becomeLaid 31 = .ok (.if_icmp .ge 47, 3) := by decide +kernel
theorem dX4_becomeLaid_34 : decode cX4_becomeLaid 34 = .ok (.lload 4, 2) := by decide +kernel
theorem dX4_becomeLaid_36 : decode cX4_becomeLaid 36 = .ok (.lconst 0, 1) := by decide +kernel
theorem dX4_becomeLaid_37 : decode cX4_becomeLaid 37 = .ok (.lcmp, 1) := by decide +kernel
theorem dX4_becomeLaid_38 : decode cX4_becomeLaid 38 = .ok (.ifCond .eq 40, 3) := by decide +kernel
theorem dX4_becomeLaid_41 : decode cX4_becomeLaid 41 = .ok (.lload 4, 2) := by decide +kernel
theorem dX4_becomeLaid_43 : decode cX4_becomeLaid 43 = .ok (.lconst 1, 1) := by decide +kernel
theorem dX4_becomeLaid_44 : decode cX4_becomeLaid 44 = .ok (.land, 1) := by decide +kernel
theorem dX4_becomeLaid_45 : decode cX4_becomeLaid 45 = .ok (.lconst 0, 1) := by decide +kernel
theorem dX4_becomeLaid_46 : decode cX4_becomeLaid 46 = .ok (.lcmp, 1) := by decide +kernel
theorem dX4_becomeLaid_47 : decode cX4_becomeLaid 47 = .ok (.ifCond .eq 19, 3) := by decide +kernel
theorem dX4_becomeLaid_50 : decode cX4_becomeLaid 50 = .ok (.aload_n 0, 1) := by decide +kernel
theorem dX4_becomeLaid_51 : decode cX4_becomeLaid 51 = .ok (.iload 6, 2) := by decide +kernel
theorem dX4_becomeLaid_53 : decode cX4_becomeLaid 53 = .ok (.bipush 8, 2) := by decide +kernel
theorem dX4_becomeLaid_55 : decode cX4_becomeLaid 55 = .ok (.irem, 1) := by decide +kernel
theorem dX4_becomeLaid_56 : decode cX4_becomeLaid 56 = .ok (.iload 6, 2) := by decide +kernel
theorem dX4_becomeLaid_58 : decode cX4_becomeLaid 58 = .ok (.bipush 8, 2) := by decide +kernel
theorem dX4_becomeLaid_60 : decode cX4_becomeLaid 60 = .ok (.idiv, 1) := by decide +kernel
theorem dX4_becomeLaid_61 : decode cX4_becomeLaid 61 = .ok (.iload_n 3, 1) := by decide +kernel
theorem dX4_becomeLaid_62 : decode cX4_becomeLaid 62 = .ok (.iload_n 2, 1) := by decide +kernel
theorem dX4_becomeLaid_63 : decode cX4_becomeLaid 63 = .ok (.invokevirtual 36, 3) := by decide +kernel
theorem dX4_becomeLaid_66 : decode cX4_becomeLaid 66 = .ok (.lload 4, 2) := by decide +kernel
theorem dX4_becomeLaid_68 : decode cX4_becomeLaid 68 = .ok (.iconst 1, 1) := by decide +kernel
theorem dX4_becomeLaid_69 : decode cX4_becomeLaid 69 = .ok (.lushr, 1) := by decide +kernel
theorem dX4_becomeLaid_70 : decode cX4_becomeLaid 70 = .ok (.lstore 4, 2) := by decide +kernel
theorem dX4_becomeLaid_72 : decode cX4_becomeLaid 72 = .ok (.iinc 6 1, 3) := by decide +kernel
theorem dX4_becomeLaid_75 : decode cX4_becomeLaid 75 = .ok (.goto (-48), 3) := by decide +kernel
theorem dX4_becomeLaid_78 : decode cX4_becomeLaid 78 = .ok (.iinc 3 1, 3) := by decide +kernel
theorem dX4_becomeLaid_81 : decode cX4_becomeLaid 81 = .ok (.goto (-71), 3) := by decide +kernel
theorem dX4_becomeLaid_84 : decode cX4_becomeLaid 84 = .ok (.aload_n 0, 1) := by decide +kernel
theorem dX4_becomeLaid_85 : decode cX4_becomeLaid 85 = .ok (.invokevirtual 40, 3) := by decide +kernel
theorem dX4_becomeLaid_88 : decode cX4_becomeLaid 88 = .ok (.aload_n 0, 1) := by decide +kernel
theorem dX4_becomeLaid_89 : decode cX4_becomeLaid 89 = .ok (.invokevirtual 21, 3) := by decide +kernel
theorem dX4_becomeLaid_92 : decode cX4_becomeLaid 92 = .ok (.return_, 1) := by decide +kernel
theorem dX4_putLaid_0 : decode cX4_putLaid 0 = .ok (.bipush 7, 2) := by decide +kernel
theorem dX4_putLaid_2 : decode cX4_putLaid 2 = .ok (.istore 5, 2) := by decide +kernel
theorem dX4_putLaid_4 : decode cX4_putLaid 4 = .ok (.iload 4, 2) := by decide +kernel
theorem dX4_putLaid_6 : decode cX4_putLaid 6 = .ok (.tableswitch 93 1 5 #[34, 47, 57, 70, 80], 34) := by decide +kernel
theorem dX4_putLaid_40 : decode cX4_putLaid 40 = .ok (.aload_n 0, 1) := by decide +kernel
theorem dX4_putLaid_41 : decode cX4_putLaid 41 = .ok (.iload_n 1, 1) := by decide +kernel
theorem dX4_putLaid_42 : decode cX4_putLaid 42 = .ok (.iload_n 2, 1) := by decide +kernel
theorem dX4_putLaid_43 : decode cX4_putLaid 43 = .ok (.iload 5, 2) := by decide +kernel
theorem dX4_putLaid_45 : decode cX4_putLaid 45 = .ok (.iload_n 3, 1) := by decide +kernel
theorem dX4_putLaid_46 : decode cX4_putLaid 46 = .ok (.isub, 1) := by decide +kernel
theorem dX4_putLaid_47 : decode cX4_putLaid 47 = .ok (.invokevirtual 43, 3) := by decide +kernel
theorem dX4_putLaid_50 : decode cX4_putLaid 50 = .ok (.goto 56, 3) := by decide +kernel
theorem dX4_putLaid_53 : decode cX4_putLaid 53 = .ok (.aload_n 0, 1) := by decide +kernel
theorem dX4_putLaid_54 : decode cX4_putLaid 54 = .ok (.iload_n 3, 1) := by decide +kernel
theorem dX4_putLaid_55 : decode cX4_putLaid 55 = .ok (.iload_n 2, 1) := by decide +kernel
theorem dX4_putLaid_56 : decode cX4_putLaid 56 = .ok (.iload_n 1, 1) := by decide +kernel
theorem dX4_putLaid_57 : decode cX4_putLaid 57 = .ok (.invokevirtual 43, 3) := by decide +kernel
theorem dX4_putLaid_60 : decode cX4_putLaid 60 = .ok (.goto 46, 3) := by decide +kernel
theorem dX4_putLaid_63 : decode cX4_putLaid 63 = .ok (.aload_n 0, 1) := by decide +kernel
theorem dX4_putLaid_64 : decode cX4_putLaid 64 = .ok (.iload_n 3, 1) := by decide +kernel
theorem dX4_putLaid_65 : decode cX4_putLaid 65 = .ok (.iload_n 2, 1) := by decide +kernel
theorem dX4_putLaid_66 : decode cX4_putLaid 66 = .ok (.iload 5, 2) := by decide +kernel
theorem dX4_putLaid_68 : decode cX4_putLaid 68 = .ok (.iload_n 1, 1) := by decide +kernel
theorem dX4_putLaid_69 : decode cX4_putLaid 69 = .ok (.isub, 1) := by decide +kernel
theorem dX4_putLaid_70 : decode cX4_putLaid 70 = .ok (.invokevirtual 43, 3) := by decide +kernel
theorem dX4_putLaid_73 : decode cX4_putLaid 73 = .ok (.goto 33, 3) := by decide +kernel
theorem dX4_putLaid_76 : decode cX4_putLaid 76 = .ok (.aload_n 0, 1) := by decide +kernel
theorem dX4_putLaid_77 : decode cX4_putLaid 77 = .ok (.iload_n 1, 1) := by decide +kernel
theorem dX4_putLaid_78 : decode cX4_putLaid 78 = .ok (.iload_n 3, 1) := by decide +kernel
theorem dX4_putLaid_79 : decode cX4_putLaid 79 = .ok (.iload_n 2, 1) := by decide +kernel
theorem dX4_putLaid_80 : decode cX4_putLaid 80 = .ok (.invokevirtual 43, 3) := by decide +kernel
theorem dX4_putLaid_83 : decode cX4_putLaid 83 = .ok (.goto 23, 3) := by decide +kernel
theorem dX4_putLaid_86 : decode cX4_putLaid 86 = .ok (.aload_n 0, 1) := by decide +kernel
theorem dX4_putLaid_87 : decode cX4_putLaid 87 = .ok (.iload_n 1, 1) := by decide +kernel
theorem dX4_putLaid_88 : decode cX4_putLaid 88 = .ok (.iload_n 3, 1) := by decide +kernel
theorem dX4_putLaid_89 : decode cX4_putLaid 89 = .ok (.iload 5, 2) := by decide +kernel
theorem dX4_putLaid_91 : decode cX4_putLaid 91 = .ok (.iload_n 2, 1) := by decide +kernel
theorem dX4_putLaid_92 : decode cX4_putLaid 92 = .ok (.isub, 1) := by decide +kernel
theorem dX4_putLaid_93 : decode cX4_putLaid 93 = .ok (.invokevirtual 43, 3) := by decide +kernel
theorem dX4_putLaid_96 : decode cX4_putLaid 96 = .ok (.goto 10, 3) := by decide +kernel
theorem dX4_putLaid_99 : decode cX4_putLaid 99 = .ok (.aload_n 0, 1) := by decide +kernel
theorem dX4_putLaid_100 : decode cX4_putLaid 100 = .ok (.iload_n 1, 1) := by decide +kernel
theorem dX4_putLaid_101 : decode cX4_putLaid 101 = .ok (.iload_n 2, 1) := by decide +kernel
theorem dX4_putLaid_102 : decode cX4_putLaid 102 = .ok (.iload_n 3, 1) := by decide +kernel
theorem dX4_putLaid_103 : decode cX4_putLaid 103 = .ok (.invokevirtual 43, 3) := by decide +kernel
theorem dX4_putLaid_106 : decode cX4_putLaid 106 = .ok (.return_, 1) := by decide +kernel
theorem dX4_put_0 : decode cX4_put 0 = .ok (.aload_n 0, 1) := by decide +kernel
theorem dX4_put_1 : decode cX4_put 1 = .ok (.getfield 9, 3) := by decide +kernel
theorem dX4_put_4 : decode cX4_put 4 = .ok (.iload_n 3, 1) := by decide +kernel
theorem dX4_put_5 : decode cX4_put 5 = .ok (.dup2, 1) := by decide +kernel
theorem dX4_put_6 : decode cX4_put 6 = .ok (.laload, 1) := by decide +kernel
theorem dX4_put_7 : decode cX4_put 7 = .ok (.lconst 1, 1) := by decide +kernel
theorem dX4_put_8 : decode cX4_put 8 = .ok (.iload_n 1, 1) := by decide +kernel
theorem dX4_put_9 : decode cX4_put 9 = .ok (.bipush 8, 2) := by decide +kernel
theorem dX4_put_11 : decode cX4_put 11 = .ok (.iload_n 2, 1) := by decide +kernel
theorem dX4_put_12 : decode cX4_put 12 = .ok (.imul, 1) := by decide +kernel
theorem dX4_put_13 : decode cX4_put 13 = .ok (.iadd, 1) := by decide +kernel
theorem dX4_put_14 : decode cX4_put 14 = .ok (.lshl, 1) := by decide +kernel
theorem dX4_put_15 : decode cX4_put 15 = .ok (.lor, 1) := by decide +kernel
theorem dX4_put_16 : decode cX4_put 16 = .ok (.lastore, 1) := by decide +kernel
theorem dX4_put_17 : decode cX4_put 17 = .ok (.return_, 1) := by decide +kernel
theorem dX4_lower_0 : decode cX4_lower 0 = .ok (.iconst 0, 1) := by decide +kernel
theorem dX4_lower_1 : decode cX4_lower 1 = .ok (.istore_n 1, 1) := by decide +kernel
theorem dX4_lower_2 : decode cX4_lower 2 = .ok (.iload_n 1, 1) := by decide +kernel
theorem dX4_lower_3 : decode cX4_lower 3 = .ok (.bipush 8, 2) := by decide +kernel
theorem dX4_lower_5 : decode cX4_lower 5 = .ok (.if_icmp .ge 20, 3) := by decide +kernel
theorem dX4_lower_8 : decode cX4_lower 8 = .ok (.aload_n 0, 1) := by decide +kernel
theorem dX4_lower_9 : decode cX4_lower 9 = .ok (.getfield 9, 3) := by decide +kernel
theorem dX4_lower_12 : decode cX4_lower 12 = .ok (.iload_n 1, 1) := by decide +kernel
theorem dX4_lower_13 : decode cX4_lower 13 = .ok (.laload, 1) := by decide +kernel
theorem dX4_lower_14 : decode cX4_lower 14 = .ok (.lconst 0, 1) := by decide +kernel
theorem dX4_lower_15 : decode cX4_lower 15 = .ok (.lcmp, 1) := by decide +kernel
theorem dX4_lower_16 : decode cX4_lower 16 = .ok (.ifCond .ne 9, 3) := by decide +kernel
theorem dX4_lower_19 : decode cX4_lower 19 = .ok (.iinc 1 1, 3) := by decide +kernel
theorem dX4_lower_22 : decode cX4_lower 22 = .ok (.goto (-20), 3) := by decide +kernel
theorem dX4_lower_25 : decode cX4_lower 25 = .ok (.iconst 0, 1) := by decide +kernel
theorem dX4_lower_26 : decode cX4_lower 26 = .ok (.istore_n 2, 1) := by decide +kernel
theorem dX4_lower_27 : decode cX4_lower 27 = .ok (.iload_n 2, 1) := by decide +kernel
theorem dX4_lower_28 : decode cX4_lower 28 = .ok (.bipush 8, 2) := by decide +kernel
theorem dX4_lower_30 : decode cX4_lower 30 = .ok (.if_icmp .ge 35, 3) := by decide +kernel
theorem dX4_lower_33 : decode cX4_lower 33 = .ok (.aload_n 0, 1) := by decide +kernel
theorem dX4_lower_34 : decode cX4_lower 34 = .ok (.getfield 9, 3) := by decide +kernel
theorem dX4_lower_37 : decode cX4_lower 37 = .ok (.iload_n 2, 1) := by decide +kernel
theorem dX4_lower_38 : decode cX4_lower 38 = .ok (.iload_n 2, 1) := by decide +kernel
theorem dX4_lower_39 : decode cX4_lower 39 = .ok (.iload_n 1, 1) := by decide +kernel
theorem dX4_lower_40 : decode cX4_lower 40 = .ok (.iadd, 1) := by decide +kernel
theorem dX4_lower_41 : decode cX4_lower 41 = .ok (.bipush 8, 2) := by decide +kernel
theorem dX4_lower_43 : decode cX4_lower 43 = .ok (.if_icmp .ge 14, 3) := by decide +kernel
theorem dX4_lower_46 : decode cX4_lower 46 = .ok (.aload_n 0, 1) := by decide +kernel
theorem dX4_lower_47 : decode cX4_lower 47 = .ok (.getfield 9, 3) := by decide +kernel
theorem dX4_lower_50 : decode cX4_lower 50 = .ok (.iload_n 2, 1) := by decide +kernel
theorem dX4_lower_51 : decode cX4_lower 51 = .ok (.iload_n 1, 1) := by decide +kernel
theorem dX4_lower_52 : decode cX4_lower 52 = .ok (.iadd, 1) := by decide +kernel
theorem dX4_lower_53 : decode cX4_lower 53 = .ok (.laload, 1) := by decide +kernel
theorem dX4_lower_54 : decode cX4_lower 54 = .ok (.goto 4, 3) := by decide +kernel
theorem dX4_lower_57 : decode cX4_lower 57 = .ok (.lconst 0, 1) := by decide +kernel
theorem dX4_lower_58 : decode cX4_lower 58 = .ok (.lastore, 1) := by decide +kernel
theorem dX4_lower_59 : decode cX4_lower 59 = .ok (.iinc 2 1, 3) := by decide +kernel
theorem dX4_lower_62 : decode cX4_lower 62 = .ok (.goto (-35), 3) := by decide +kernel
theorem dX4_lower_65 : decode cX4_lower 65 = .ok (.return_, 1) := by decide +kernel
theorem dX4_reckonSets_0 : decode cX4_reckonSets 0 = .ok (.lconst 0, 1) := by decide +kernel
theorem dX4_reckonSets_1 : decode cX4_reckonSets 1 = .ok (.lstore_n 1, 1) := by decide +kernel
theorem dX4_reckonSets_2 : decode cX4_reckonSets 2 = .ok (.bipush 7, 2) := by decide +kernel
theorem dX4_reckonSets_4 : decode cX4_reckonSets 4 = .ok (.istore_n 3, 1) := by decide +kernel
theorem dX4_reckonSets_5 : decode cX4_reckonSets 5 = .ok (.iload_n 3, 1) := by decide +kernel
theorem dX4_reckonSets_6 : decode cX4_reckonSets 6 = .ok (.ifCond .le 66, 3) := by decide +kernel
theorem dX4_reckonSets_9 : decode cX4_reckonSets 9 = .ok (.aload_n 0, 1) := by decide +kernel
theorem dX4_reckonSets_10 : decode cX4_reckonSets 10 = .ok (.getfield 9, 3) := by decide +kernel
theorem dX4_reckonSets_13 : decode cX4_reckonSets 13 = .ok (.iload_n 3, 1) := by decide +kernel
theorem dX4_reckonSets_14 : decode cX4_reckonSets 14 = .ok (.iconst 1, 1) := by decide +kernel
theorem dX4_reckonSets_15 : decode cX4_reckonSets 15 = .ok (.isub, 1) := by decide +kernel
theorem dX4_reckonSets_16 : decode cX4_reckonSets 16 = .ok (.laload, 1) := by decide +kernel
theorem dX4_reckonSets_17 : decode cX4_reckonSets 17 = .ok (.lstore 4, 2) := by decide +kernel
theorem dX4_reckonSets_19 : decode cX4_reckonSets 19 = .ok (.aload_n 0, 1) := by decide +kernel
theorem dX4_reckonSets_20 : decode cX4_reckonSets 20 = .ok (.getfield 15, 3) := by decide +kernel
theorem dX4_reckonSets_23 : decode cX4_reckonSets 23 = .ok (.iload_n 3, 1) := by decide +kernel
theorem dX4_reckonSets_24 : decode cX4_reckonSets 24 = .ok (.aload_n 0, 1) := by decide +kernel
theorem dX4_reckonSets_25 : decode cX4_reckonSets 25 = .ok (.getfield 9, 3) := by decide +kernel
theorem dX4_reckonSets_28 : decode cX4_reckonSets 28 = .ok (.iload_n 3, 1) := by decide +kernel
theorem dX4_reckonSets_29 : decode cX4_reckonSets 29 = .ok (.laload, 1) := by decide +kernel
theorem dX4_reckonSets_30 : decode cX4_reckonSets 30 = .ok (.lload 4, 2) := by decide +kernel
theorem dX4_reckonSets_32 : decode cX4_reckonSets 32 = .ok (.invokestatic 47, 3) := by decide +kernel
theorem dX4_reckonSets_35 : decode cX4_reckonSets 35 = .ok (.ldc2_w 51, 3) := by decide +kernel
theorem dX4_reckonSets_38 : decode cX4_reckonSets 38 = .ok (.lxor, 1) := by decide +kernel
theorem dX4_reckonSets_39 : decode cX4_reckonSets 39 = .ok (.land, 1) := by decide +kernel
theorem dX4_reckonSets_40 : decode cX4_reckonSets 40 = .ok (.lastore, 1) := by decide +kernel
theorem dX4_reckonSets_41 : decode cX4_reckonSets 41 = .ok (.lload_n 1, 1) := by decide +kernel
theorem dX4_reckonSets_42 : decode cX4_reckonSets 42 = .ok (.aload_n 0, 1) := by decide +kernel
theorem dX4_reckonSets_43 : decode cX4_reckonSets 43 = .ok (.getfield 15, 3) := by decide +kernel
theorem dX4_reckonSets_46 : decode cX4_reckonSets 46 = .ok (.iload_n 3, 1) := by decide +kernel
theorem dX4_reckonSets_47 : decode cX4_reckonSets 47 = .ok (.laload, 1) := by decide +kernel
theorem dX4_reckonSets_48 : decode cX4_reckonSets 48 = .ok (.lor, 1) := by decide +kernel
theorem dX4_reckonSets_49 : decode cX4_reckonSets 49 = .ok (.lload 4, 2) := by decide +kernel
theorem dX4_reckonSets_51 : decode cX4_reckonSets 51 = .ok (.ldc2_w 51, 3) := by decide +kernel
theorem dX4_reckonSets_54 : decode cX4_reckonSets 54 = .ok (.lxor, 1) := by decide +kernel
theorem dX4_reckonSets_55 : decode cX4_reckonSets 55 = .ok (.land, 1) := by decide +kernel
theorem dX4_reckonSets_56 : decode cX4_reckonSets 56 = .ok (.lstore_n 1, 1) := by decide +kernel
theorem dX4_reckonSets_57 : decode cX4_reckonSets 57 = .ok (.aload_n 0, 1) := by decide +kernel
theorem dX4_reckonSets_58 : decode cX4_reckonSets 58 = .ok (.getfield 18, 3) := by decide +kernel
theorem dX4_reckonSets_61 : decode cX4_reckonSets 61 = .ok (.iload_n 3, 1) := by decide +kernel
theorem dX4_reckonSets_62 : decode cX4_reckonSets 62 = .ok (.iconst 1, 1) := by decide +kernel
theorem dX4_reckonSets_63 : decode cX4_reckonSets 63 = .ok (.isub, 1) := by decide +kernel
theorem dX4_reckonSets_64 : decode cX4_reckonSets 64 = .ok (.lload_n 1, 1) := by decide +kernel
theorem dX4_reckonSets_65 : decode cX4_reckonSets 65 = .ok (.lastore, 1) := by decide +kernel
theorem dX4_reckonSets_66 : decode cX4_reckonSets 66 = .ok (.iinc 3 (-1), 3) := by decide +kernel
theorem dX4_reckonSets_69 : decode cX4_reckonSets 69 = .ok (.goto (-64), 3) := by decide +kernel
theorem dX4_reckonSets_72 : decode cX4_reckonSets 72 = .ok (.return_, 1) := by decide +kernel
theorem dX4_height_0 : decode cX4_height 0 = .ok (.bipush 8, 2) := by decide +kernel
theorem dX4_height_2 : decode cX4_height 2 = .ok (.istore_n 1, 1) := by decide +kernel
theorem dX4_height_3 : decode cX4_height 3 = .ok (.iload_n 1, 1) := by decide +kernel
theorem dX4_height_4 : decode cX4_height 4 = .ok (.ifCond .le 22, 3) := by decide +kernel
theorem dX4_height_7 : decode cX4_height 7 = .ok (.aload_n 0, 1) := by decide +kernel
theorem dX4_height_8 : decode cX4_height 8 = .ok (.getfield 9, 3) := by decide +kernel
theorem dX4_height_11 : decode cX4_height 11 = .ok (.iload_n 1, 1) := by decide +kernel
theorem dX4_height_12 : decode cX4_height 12 = .ok (.iconst 1, 1) := by decide +kernel
theorem dX4_height_13 : decode cX4_height 13 = .ok (.isub, 1) := by decide +kernel
theorem dX4_height_14 : decode cX4_height 14 = .ok (.laload, 1) := by decide +kernel
theorem dX4_height_15 : decode cX4_height 15 = .ok (.lconst 0, 1) := by decide +kernel
theorem dX4_height_16 : decode cX4_height 16 = .ok (.lcmp, 1) := by decide +kernel
theorem dX4_height_17 : decode cX4_height 17 = .ok (.ifCond .ne 9, 3) := by decide +kernel
theorem dX4_height_20 : decode cX4_height 20 = .ok (.iinc 1 (-1), 3) := by decide +kernel
theorem dX4_height_23 : decode cX4_height 23 = .ok (.goto (-20), 3) := by decide +kernel
theorem dX4_height_26 : decode cX4_height 26 = .ok (.iload_n 1, 1) := by decide +kernel
theorem dX4_height_27 : decode cX4_height 27 = .ok (.ireturn, 1) := by decide +kernel
theorem dX4_gramsOf_0 : decode cX4_gramsOf 0 = .ok (.aload_n 0, 1) := by decide +kernel
theorem dX4_gramsOf_1 : decode cX4_gramsOf 1 = .ok (.getfield 9, 3) := by decide +kernel
theorem dX4_gramsOf_4 : decode cX4_gramsOf 4 = .ok (.iload_n 1, 1) := by decide +kernel
theorem dX4_gramsOf_5 : decode cX4_gramsOf 5 = .ok (.laload, 1) := by decide +kernel
theorem dX4_gramsOf_6 : decode cX4_gramsOf 6 = .ok (.invokestatic 53, 3) := by decide +kernel
theorem dX4_gramsOf_9 : decode cX4_gramsOf 9 = .ok (.aload_n 0, 1) := by decide +kernel
theorem dX4_gramsOf_10 : decode cX4_gramsOf 10 = .ok (.getfield 18, 3) := by decide +kernel
theorem dX4_gramsOf_13 : decode cX4_gramsOf 13 = .ok (.iload_n 1, 1) := by decide +kernel
theorem dX4_gramsOf_14 : decode cX4_gramsOf 14 = .ok (.laload, 1) := by decide +kernel
theorem dX4_gramsOf_15 : decode cX4_gramsOf 15 = .ok (.invokestatic 53, 3) := by decide +kernel
theorem dX4_gramsOf_18 : decode cX4_gramsOf 18 = .ok (.iadd, 1) := by decide +kernel
theorem dX4_gramsOf_19 : decode cX4_gramsOf 19 = .ok (.ireturn, 1) := by decide +kernel
theorem dX4_cellCount_0 : decode cX4_cellCount 0 = .ok (.aload_n 0, 1) := by decide +kernel
theorem dX4_cellCount_1 : decode cX4_cellCount 1 = .ok (.getfield 9, 3) := by decide +kernel
theorem dX4_cellCount_4 : decode cX4_cellCount 4 = .ok (.invokestatic 59, 3) := by decide +kernel
theorem dX4_cellCount_7 : decode cX4_cellCount 7 = .ok (.ireturn, 1) := by decide +kernel
theorem dX4_hangingCount_0 : decode cX4_hangingCount 0 = .ok (.aload_n 0, 1) := by decide +kernel
theorem dX4_hangingCount_1 : decode cX4_hangingCount 1 = .ok (.getfield 15, 3) := by decide +kernel
theorem dX4_hangingCount_4 : decode cX4_hangingCount 4 = .ok (.invokestatic 59, 3) := by decide +kernel
theorem dX4_hangingCount_7 : decode cX4_hangingCount 7 = .ok (.ireturn, 1) := by decide +kernel
theorem dX4_supportCount_0 : decode cX4_supportCount 0 = .ok (.aload_n 0, 1) := by decide +kernel
theorem dX4_supportCount_1 : decode cX4_supportCount 1 = .ok (.getfield 18, 3) := by decide +kernel
theorem dX4_supportCount_4 : decode cX4_supportCount 4 = .ok (.invokestatic 59, 3) := by decide +kernel
theorem dX4_supportCount_7 : decode cX4_supportCount 7 = .ok (.ireturn, 1) := by decide +kernel
theorem dX4_islandCount_0 : decode cX4_islandCount 0 = .ok (.iconst 0, 1) := by decide +kernel
theorem dX4_islandCount_1 : decode cX4_islandCount 1 = .ok (.istore_n 1, 1) := by decide +kernel
theorem dX4_islandCount_2 : decode cX4_islandCount 2 = .ok (.iconst 1, 1) := by decide +kernel
theorem dX4_islandCount_3 : decode cX4_islandCount 3 = .ok (.istore_n 2, 1) := by decide +kernel
theorem dX4_islandCount_4 : decode cX4_islandCount 4 = .ok (.iload_n 2, 1) := by decide +kernel
theorem dX4_islandCount_5 : decode cX4_islandCount 5 = .ok (.bipush 8, 2) := by decide +kernel
theorem dX4_islandCount_7 : decode cX4_islandCount 7 = .ok (.if_icmp .ge 29, 3) := by decide +kernel
theorem dX4_islandCount_10 : decode cX4_islandCount 10 = .ok (.iload_n 1, 1) := by decide +kernel
theorem dX4_islandCount_11 : decode cX4_islandCount 11 = .ok (.aload_n 0, 1) := by decide +kernel
theorem dX4_islandCount_12 : decode cX4_islandCount 12 = .ok (.getfield 9, 3) := by decide +kernel
theorem dX4_islandCount_15 : decode cX4_islandCount 15 = .ok (.iload_n 2, 1) := by decide +kernel
theorem dX4_islandCount_16 : decode cX4_islandCount 16 = .ok (.laload, 1) := by decide +kernel
theorem dX4_islandCount_17 : decode cX4_islandCount 17 = .ok (.aload_n 0, 1) := by decide +kernel
theorem dX4_islandCount_18 : decode cX4_islandCount 18 = .ok (.getfield 9, 3) := by decide +kernel
theorem dX4_islandCount_21 : decode cX4_islandCount 21 = .ok (.iload_n 2, 1) := by decide +kernel
theorem dX4_islandCount_22 : decode cX4_islandCount 22 = .ok (.iconst 1, 1) := by decide +kernel
theorem dX4_islandCount_23 : decode cX4_islandCount 23 = .ok (.isub, 1) := by decide +kernel
theorem dX4_islandCount_24 : decode cX4_islandCount 24 = .ok (.laload, 1) := by decide +kernel
theorem dX4_islandCount_25 : decode cX4_islandCount 25 = .ok (.invokestatic 63, 3) := by decide +kernel
theorem dX4_islandCount_28 : decode cX4_islandCount 28 = .ok (.iadd, 1) := by decide +kernel
theorem dX4_islandCount_29 : decode cX4_islandCount 29 = .ok (.istore_n 1, 1) := by decide +kernel
theorem dX4_islandCount_30 : decode cX4_islandCount 30 = .ok (.iinc 2 1, 3) := by decide +kernel
theorem dX4_islandCount_33 : decode cX4_islandCount 33 = .ok (.goto (-29), 3) := by decide +kernel
theorem dX4_islandCount_36 : decode cX4_islandCount 36 = .ok (.iload_n 1, 1) := by decide +kernel
theorem dX4_islandCount_37 : decode cX4_islandCount 37 = .ok (.ireturn, 1) := by decide +kernel
theorem dX4_islandsOf_0 : decode cX4_islandsOf 0 = .ok (.iconst 0, 1) := by decide +kernel
theorem dX4_islandsOf_1 : decode cX4_islandsOf 1 = .ok (.istore 4, 2) := by decide +kernel
theorem dX4_islandsOf_3 : decode cX4_islandsOf 3 = .ok (.lload_n 0, 1) := by decide +kernel
theorem dX4_islandsOf_4 : decode cX4_islandsOf 4 = .ok (.lstore 5, 2) := by decide +kernel
theorem dX4_islandsOf_6 : decode cX4_islandsOf 6 = .ok (.iconst 0, 1) := by decide +kernel
theorem dX4_islandsOf_7 : decode cX4_islandsOf 7 = .ok (.istore 7, 2) := by decide +kernel
theorem dX4_islandsOf_9 : decode cX4_islandsOf 9 = .ok (.iload 7, 2) := by decide +kernel
theorem dX4_islandsOf_11 : decode cX4_islandsOf 11 = .ok (.bipush 64, 2) := by decide +kernel
theorem dX4_islandsOf_13 : decode cX4_islandsOf 13 = .ok (.if_icmp .ge 51, 3) := by decide +kernel
theorem dX4_islandsOf_16 : decode cX4_islandsOf 16 = .ok (.lload 5, 2) := by decide +kernel
theorem dX4_islandsOf_18 : decode cX4_islandsOf 18 = .ok (.lconst 0, 1) := by decide +kernel
theorem dX4_islandsOf_19 : decode cX4_islandsOf 19 = .ok (.lcmp, 1) := by decide +kernel
theorem dX4_islandsOf_20 : decode cX4_islandsOf 20 = .ok (.ifCond .eq 44, 3) := by decide +kernel
theorem dX4_islandsOf_23 : decode cX4_islandsOf 23 = .ok (.lload_n 0, 1) := by decide +kernel
theorem dX4_islandsOf_24 : decode cX4_islandsOf 24 = .ok (.lload 5, 2) := by decide +kernel
theorem dX4_islandsOf_26 : decode cX4_islandsOf 26 = .ok (.lload 5, 2) := by decide +kernel
theorem dX4_islandsOf_28 : decode cX4_islandsOf 28 = .ok (.lneg, 1) := by decide +kernel
theorem dX4_islandsOf_29 : decode cX4_islandsOf 29 = .ok (.land, 1) := by decide +kernel
theorem dX4_islandsOf_30 : decode cX4_islandsOf 30 = .ok (.invokestatic 67, 3) := by decide +kernel
theorem dX4_islandsOf_33 : decode cX4_islandsOf 33 = .ok (.lstore 8, 2) := by decide +kernel
theorem dX4_islandsOf_35 : decode cX4_islandsOf 35 = .ok (.lload 8, 2) := by decide +kernel
theorem dX4_islandsOf_37 : decode cX4_islandsOf 37 = .ok (.lload_n 2, 1) := by decide +kernel
theorem dX4_islandsOf_38 : decode cX4_islandsOf 38 = .ok (.land, 1) := by decide +kernel
theorem dX4_islandsOf_39 : decode cX4_islandsOf 39 = .ok (.lconst 0, 1) := by decide +kernel
theorem dX4_islandsOf_40 : decode cX4_islandsOf 40 = .ok (.lcmp, 1) := by decide +kernel
theorem dX4_islandsOf_41 : decode cX4_islandsOf 41 = .ok (.ifCond .ne 6, 3) := by decide +kernel
theorem dX4_islandsOf_44 : decode cX4_islandsOf 44 = .ok (.iinc 4 1, 3) := by decide +kernel
theorem dX4_islandsOf_47 : decode cX4_islandsOf 47 = .ok (.lload 5, 2) := by decide +kernel
theorem dX4_islandsOf_49 : decode cX4_islandsOf 49 = .ok (.lload 8, 2) := by decide +kernel
theorem dX4_islandsOf_51 : decode cX4_islandsOf 51 = .ok (.ldc2_w 51, 3) := by decide +kernel
theorem dX4_islandsOf_54 : decode cX4_islandsOf 54 = .ok (.lxor, 1) := by decide +kernel
theorem dX4_islandsOf_55 : decode cX4_islandsOf 55 = .ok (.land, 1) := by decide +kernel
theorem dX4_islandsOf_56 : decode cX4_islandsOf 56 = .ok (.lstore 5, 2) := by decide +kernel
theorem dX4_islandsOf_58 : decode cX4_islandsOf 58 = .ok (.iinc 7 1, 3) := by decide +kernel
theorem dX4_islandsOf_61 : decode cX4_islandsOf 61 = .ok (.goto (-52), 3) := by decide +kernel
theorem dX4_islandsOf_64 : decode cX4_islandsOf 64 = .ok (.iload 4, 2) := by decide +kernel
theorem dX4_islandsOf_66 : decode cX4_islandsOf 66 = .ok (.ireturn, 1) := by decide +kernel
theorem dX4_partOf_0 : decode cX4_partOf 0 = .ok (.lload_n 2, 1) := by decide +kernel
theorem dX4_partOf_1 : decode cX4_partOf 1 = .ok (.lstore 4, 2) := by decide +kernel
theorem dX4_partOf_3 : decode cX4_partOf 3 = .ok (.iconst 0, 1) := by decide +kernel
theorem dX4_partOf_4 : decode cX4_partOf 4 = .ok (.istore 6, 2) := by decide +kernel
theorem dX4_partOf_6 : decode cX4_partOf 6 = .ok (.iload 6, 2) := by decide +kernel
theorem dX4_partOf_8 : decode cX4_partOf 8 = .ok (.bipush 64, 2) := by decide +kernel
theorem dX4_partOf_10 : decode cX4_partOf 10 = .ok (.if_icmp .ge 33, 3) := by decide +kernel
theorem dX4_partOf_13 : decode cX4_partOf 13 = .ok (.lload 4, 2) := by decide +kernel
theorem dX4_partOf_15 : decode cX4_partOf 15 = .ok (.invokestatic 47, 3) := by decide +kernel
theorem dX4_partOf_18 : decode cX4_partOf 18 = .ok (.lload_n 0, 1) := by decide +kernel
theorem dX4_partOf_19 : decode cX4_partOf 19 = .ok (.land, 1) := by decide +kernel
theorem dX4_partOf_20 : decode cX4_partOf 20 = .ok (.lstore 7, 2) := by decide +kernel
theorem dX4_partOf_22 : decode cX4_partOf 22 = .ok (.lload 7, 2) := by decide +kernel
theorem dX4_partOf_24 : decode cX4_partOf 24 = .ok (.lload 4, 2) := by decide +kernel
theorem dX4_partOf_26 : decode cX4_partOf 26 = .ok (.lcmp, 1) := by decide +kernel
theorem dX4_partOf_27 : decode cX4_partOf 27 = .ok (.ifCond .ne 6, 3) := by decide +kernel
theorem dX4_partOf_30 : decode cX4_partOf 30 = .ok (.goto 13, 3) := by decide +kernel
theorem dX4_partOf_33 : decode cX4_partOf 33 = .ok (.lload 7, 2) := by decide +kernel
theorem dX4_partOf_35 : decode cX4_partOf 35 = .ok (.lstore 4, 2) := by decide +kernel
theorem dX4_partOf_37 : decode cX4_partOf 37 = .ok (.iinc 6 1, 3) := by decide +kernel
theorem dX4_partOf_40 : decode cX4_partOf 40 = .ok (.goto (-34), 3) := by decide +kernel
theorem dX4_partOf_43 : decode cX4_partOf 43 = .ok (.lload 4, 2) := by decide +kernel
theorem dX4_partOf_45 : decode cX4_partOf 45 = .ok (.lreturn, 1) := by decide +kernel
theorem dX4_withNeighbours_0 : decode cX4_withNeighbours 0 = .ok (.lload_n 0, 1) := by decide +kernel
theorem dX4_withNeighbours_1 : decode cX4_withNeighbours 1 = .ok (.lload_n 0, 1) := by decide +kernel
theorem dX4_withNeighbours_2 : decode cX4_withNeighbours 2 = .ok (.ldc2_w 71, 3) := by decide +kernel
theorem dX4_withNeighbours_5 : decode cX4_withNeighbours 5 = .ok (.land, 1) := by decide +kernel
theorem dX4_withNeighbours_6 : decode cX4_withNeighbours 6 = .ok (.iconst 1, 1) := by decide +kernel
theorem dX4_withNeighbours_7 : decode cX4_withNeighbours 7 = .ok (.lshl, 1) := by decide +kernel
theorem dX4_withNeighbours_8 : decode cX4_withNeighbours 8 = .ok (.lor, 1) := by decide +kernel
theorem dX4_withNeighbours_9 : decode cX4_withNeighbours 9 = .ok (.lload_n 0, 1) := by decide +kernel
theorem dX4_withNeighbours_10 : decode cX4_withNeighbours 10 = .ok (.ldc2_w 73, 3) := by decide +kernel
theorem dX4_withNeighbours_13 : decode cX4_withNeighbours 13 = .ok (.land, 1) := by decide +kernel
theorem dX4_withNeighbours_14 : decode cX4_withNeighbours 14 = .ok (.iconst 1, 1) := by decide +kernel
theorem dX4_withNeighbours_15 : decode cX4_withNeighbours 15 = .ok (.lushr, 1) := by decide +kernel
theorem dX4_withNeighbours_16 : decode cX4_withNeighbours 16 = .ok (.lor, 1) := by decide +kernel
theorem dX4_withNeighbours_17 : decode cX4_withNeighbours 17 = .ok (.lload_n 0, 1) := by decide +kernel
theorem dX4_withNeighbours_18 : decode cX4_withNeighbours 18 = .ok (.bipush 8, 2) := by decide +kernel
theorem dX4_withNeighbours_20 : decode cX4_withNeighbours 20 = .ok (.lshl, 1) := by decide +kernel
theorem dX4_withNeighbours_21 : decode cX4_withNeighbours 21 = .ok (.lor, 1) := by decide +kernel
theorem dX4_withNeighbours_22 : decode cX4_withNeighbours 22 = .ok (.lload_n 0, 1) := by decide +kernel
theorem dX4_withNeighbours_23 : decode cX4_withNeighbours 23 = .ok (.bipush 8, 2) := by decide +kernel
theorem dX4_withNeighbours_25 : decode cX4_withNeighbours 25 = .ok (.lushr, 1) := by decide +kernel
theorem dX4_withNeighbours_26 : decode cX4_withNeighbours 26 = .ok (.lor, 1) := by decide +kernel
theorem dX4_withNeighbours_27 : decode cX4_withNeighbours 27 = .ok (.lreturn, 1) := by decide +kernel
theorem dX4_countOf_0 : decode cX4_countOf 0 = .ok (.iconst 0, 1) := by decide +kernel
theorem dX4_countOf_1 : decode cX4_countOf 1 = .ok (.istore_n 1, 1) := by decide +kernel
theorem dX4_countOf_2 : decode cX4_countOf 2 = .ok (.iconst 0, 1) := by decide +kernel
theorem dX4_countOf_3 : decode cX4_countOf 3 = .ok (.istore_n 2, 1) := by decide +kernel
theorem dX4_countOf_4 : decode cX4_countOf 4 = .ok (.iload_n 2, 1) := by decide +kernel
theorem dX4_countOf_5 : decode cX4_countOf 5 = .ok (.bipush 8, 2) := by decide +kernel
theorem dX4_countOf_7 : decode cX4_countOf 7 = .ok (.if_icmp .ge 18, 3) := by decide +kernel
theorem dX4_countOf_10 : decode cX4_countOf 10 = .ok (.iload_n 1, 1) := by decide +kernel
theorem dX4_countOf_11 : decode cX4_countOf 11 = .ok (.aload_n 0, 1) := by decide +kernel
theorem dX4_countOf_12 : decode cX4_countOf 12 = .ok (.iload_n 2, 1) := by decide +kernel
theorem dX4_countOf_13 : decode cX4_countOf 13 = .ok (.laload, 1) := by decide +kernel
theorem dX4_countOf_14 : decode cX4_countOf 14 = .ok (.invokestatic 53, 3) := by decide +kernel
theorem dX4_countOf_17 : decode cX4_countOf 17 = .ok (.iadd, 1) := by decide +kernel
theorem dX4_countOf_18 : decode cX4_countOf 18 = .ok (.istore_n 1, 1) := by decide +kernel
theorem dX4_countOf_19 : decode cX4_countOf 19 = .ok (.iinc 2 1, 3) := by decide +kernel
theorem dX4_countOf_22 : decode cX4_countOf 22 = .ok (.goto (-18), 3) := by decide +kernel
theorem dX4_countOf_25 : decode cX4_countOf 25 = .ok (.iload_n 1, 1) := by decide +kernel
theorem dX4_countOf_26 : decode cX4_countOf 26 = .ok (.ireturn, 1) := by decide +kernel
theorem dX5_init_0 : decode cX5_init 0 = .ok (.aload_n 0, 1) := by decide +kernel
theorem dX5_init_1 : decode cX5_init 1 = .ok (.invokespecial 1, 3) := by decide +kernel
theorem dX5_init_4 : decode cX5_init 4 = .ok (.aload_n 0, 1) := by decide +kernel
theorem dX5_init_5 : decode cX5_init 5 = .ok (.iconst 4, 1) := by decide +kernel
theorem dX5_init_6 : decode cX5_init 6 = .ok (.anewarray 9, 3) := by decide +kernel
theorem dX5_init_9 : decode cX5_init 9 = .ok (.putfield 11, 3) := by decide +kernel
theorem dX5_init_12 : decode cX5_init 12 = .ok (.aload_n 0, 1) := by decide +kernel
theorem dX5_init_13 : decode cX5_init 13 = .ok (.bipush 6, 2) := by decide +kernel
theorem dX5_init_15 : decode cX5_init 15 = .ok (.anewarray 15, 3) := by decide +kernel
theorem dX5_init_18 : decode cX5_init 18 = .ok (.putfield 17, 3) := by decide +kernel
theorem dX5_init_21 : decode cX5_init 21 = .ok (.aload_n 0, 1) := by decide +kernel
theorem dX5_init_22 : decode cX5_init 22 = .ok (.iconst 2, 1) := by decide +kernel
theorem dX5_init_23 : decode cX5_init 23 = .ok (.anewarray 21, 3) := by decide +kernel
theorem dX5_init_26 : decode cX5_init 26 = .ok (.putfield 23, 3) := by decide +kernel
theorem dX5_init_29 : decode cX5_init 29 = .ok (.aload_n 0, 1) := by decide +kernel
theorem dX5_init_30 : decode cX5_init 30 = .ok (.new 27, 3) := by decide +kernel
theorem dX5_init_33 : decode cX5_init 33 = .ok (.dup, 1) := by decide +kernel
theorem dX5_init_34 : decode cX5_init 34 = .ok (.invokespecial 29, 3) := by decide +kernel
theorem dX5_init_37 : decode cX5_init 37 = .ok (.putfield 30, 3) := by decide +kernel
theorem dX5_init_40 : decode cX5_init 40 = .ok (.aload_n 0, 1) := by decide +kernel
theorem dX5_init_41 : decode cX5_init 41 = .ok (.new 34, 3) := by decide +kernel
theorem dX5_init_44 : decode cX5_init 44 = .ok (.dup, 1) := by decide +kernel
theorem dX5_init_45 : decode cX5_init 45 = .ok (.invokespecial 36, 3) := by decide +kernel
theorem dX5_init_48 : decode cX5_init 48 = .ok (.putfield 37, 3) := by decide +kernel
theorem dX5_init_51 : decode cX5_init 51 = .ok (.iconst 0, 1) := by decide +kernel
theorem dX5_init_52 : decode cX5_init 52 = .ok (.istore_n 1, 1) := by decide +kernel
theorem dX5_init_53 : decode cX5_init 53 = .ok (.iload_n 1, 1) := by decide +kernel
theorem dX5_init_54 : decode cX5_init 54 = .ok (.iconst 4, 1) := by decide +kernel
theorem dX5_init_55 : decode cX5_init 55 = .ok (.if_icmp .ge 23, 3) := by decide +kernel
theorem dX5_init_58 : decode cX5_init 58 = .ok (.aload_n 0, 1) := by decide +kernel
theorem dX5_init_59 : decode cX5_init 59 = .ok (.getfield 11, 3) := by decide +kernel
theorem dX5_init_62 : decode cX5_init 62 = .ok (.iload_n 1, 1) := by decide +kernel
theorem dX5_init_63 : decode cX5_init 63 = .ok (.new 9, 3) := by decide +kernel
theorem dX5_init_66 : decode cX5_init 66 = .ok (.dup, 1) := by decide +kernel
theorem dX5_init_67 : decode cX5_init 67 = .ok (.iload_n 1, 1) := by decide +kernel
theorem dX5_init_68 : decode cX5_init 68 = .ok (.invokespecial 41, 3) := by decide +kernel
theorem dX5_init_71 : decode cX5_init 71 = .ok (.aastore, 1) := by decide +kernel
theorem dX5_init_72 : decode cX5_init 72 = .ok (.iinc 1 1, 3) := by decide +kernel
theorem dX5_init_75 : decode cX5_init 75 = .ok (.goto (-22), 3) := by decide +kernel
theorem dX5_init_78 : decode cX5_init 78 = .ok (.iconst 0, 1) := by decide +kernel
theorem dX5_init_79 : decode cX5_init 79 = .ok (.istore_n 1, 1) := by decide +kernel
theorem dX5_init_80 : decode cX5_init 80 = .ok (.iload_n 1, 1) := by decide +kernel
theorem dX5_init_81 : decode cX5_init 81 = .ok (.bipush 6, 2) := by decide +kernel
theorem dX5_init_83 : decode cX5_init 83 = .ok (.if_icmp .ge 23, 3) := by decide +kernel
theorem dX5_init_86 : decode cX5_init 86 = .ok (.aload_n 0, 1) := by decide +kernel
theorem dX5_init_87 : decode cX5_init 87 = .ok (.getfield 17, 3) := by decide +kernel
theorem dX5_init_90 : decode cX5_init 90 = .ok (.iload_n 1, 1) := by decide +kernel
theorem dX5_init_91 : decode cX5_init 91 = .ok (.new 15, 3) := by decide +kernel
theorem dX5_init_94 : decode cX5_init 94 = .ok (.dup, 1) := by decide +kernel
theorem dX5_init_95 : decode cX5_init 95 = .ok (.iload_n 1, 1) := by decide +kernel
theorem dX5_init_96 : decode cX5_init 96 = .ok (.invokespecial 44, 3) := by decide +kernel
theorem dX5_init_99 : decode cX5_init 99 = .ok (.aastore, 1) := by decide +kernel
theorem dX5_init_100 : decode cX5_init 100 = .ok (.iinc 1 1, 3) := by decide +kernel
theorem dX5_init_103 : decode cX5_init 103 = .ok (.goto (-23), 3) := by decide +kernel
theorem dX5_init_106 : decode cX5_init 106 = .ok (.iconst 0, 1) := by decide +kernel
theorem dX5_init_107 : decode cX5_init 107 = .ok (.istore_n 1, 1) := by decide +kernel
theorem dX5_init_108 : decode cX5_init 108 = .ok (.iload_n 1, 1) := by decide +kernel
theorem dX5_init_109 : decode cX5_init 109 = .ok (.iconst 2, 1) := by decide +kernel
theorem dX5_init_110 : decode cX5_init 110 = .ok (.if_icmp .ge 23, 3) := by decide +kernel
theorem dX5_init_113 : decode cX5_init 113 = .ok (.aload_n 0, 1) := by decide +kernel
theorem dX5_init_114 : decode cX5_init 114 = .ok (.getfield 23, 3) := by decide +kernel
theorem dX5_init_117 : decode cX5_init 117 = .ok (.iload_n 1, 1) := by decide +kernel
theorem dX5_init_118 : decode cX5_init 118 = .ok (.new 21, 3) := by decide +kernel
theorem dX5_init_121 : decode cX5_init 121 = .ok (.dup, 1) := by decide +kernel
theorem dX5_init_122 : decode cX5_init 122 = .ok (.iload_n 1, 1) := by decide +kernel
theorem dX5_init_123 : decode cX5_init 123 = .ok (.invokespecial 45, 3) := by decide +kernel
theorem dX5_init_126 : decode cX5_init 126 = .ok (.aastore, 1) := by decide +kernel
theorem dX5_init_127 : decode cX5_init 127 = .ok (.iinc 1 1, 3) := by decide +kernel
theorem dX5_init_130 : decode cX5_init 130 = .ok (.goto (-22), 3) := by decide +kernel
theorem dX5_init_133 : decode cX5_init 133 = .ok (.return_, 1) := by decide +kernel
theorem dX5_piece_0 : decode cX5_piece 0 = .ok (.aload_n 0, 1) := by decide +kernel
theorem dX5_piece_1 : decode cX5_piece 1 = .ok (.getfield 46, 3) := by decide +kernel
theorem dX5_piece_4 : decode cX5_piece 4 = .ok (.iconst 4, 1) := by decide +kernel
theorem dX5_piece_5 : decode cX5_piece 5 = .ok (.if_icmp .lt 13, 3) := by decide +kernel
theorem dX5_piece_8 : decode cX5_piece 8 = .ok (.new 50, 3) := by decide +kernel
theorem dX5_piece_11 : decode cX5_piece 11 = .ok (.dup, 1) := by decide +kernel
theorem dX5_piece_12 : decode cX5_piece 12 = .ok (.ldc 52, 2) := by decide +kernel
theorem dX5_piece_14 : decode cX5_piece 14 = .ok (.invokespecial 54, 3) := by decide +kernel
theorem dX5_piece_17 : decode cX5_piece 17 = .ok (.athrow, 1) := by decide +kernel
theorem dX5_piece_18 : decode cX5_piece 18 = .ok (.aload_n 0, 1) := by decide +kernel
theorem dX5_piece_19 : decode cX5_piece 19 = .ok (.dup, 1) := by decide +kernel
theorem dX5_piece_20 : decode cX5_piece 20 = .ok (.getfield 46, 3) := by decide +kernel
theorem dX5_piece_23 : decode cX5_piece 23 = .ok (.iconst 1, 1) := by decide +kernel
theorem dX5_piece_24 : decode cX5_piece 24 = .ok (.iadd, 1) := by decide +kernel
theorem dX5_piece_25 : decode cX5_piece 25 = .ok (.putfield 46, 3) := by decide +kernel
theorem dX5_piece_28 : decode cX5_piece 28 = .ok (.aload_n 0, 1) := by decide +kernel
theorem dX5_piece_29 : decode cX5_piece 29 = .ok (.getfield 46, 3) := by decide +kernel
theorem dX5_piece_32 : decode cX5_piece 32 = .ok (.iconst 1, 1) := by decide +kernel
theorem dX5_piece_33 : decode cX5_piece 33 = .ok (.isub, 1) := by decide +kernel
theorem dX5_piece_34 : decode cX5_piece 34 = .ok (.ireturn, 1) := by decide +kernel
theorem dX5_layer_0 : decode cX5_layer 0 = .ok (.aload_n 0, 1) := by decide +kernel
theorem dX5_layer_1 : decode cX5_layer 1 = .ok (.iload_n 1, 1) := by decide +kernel
theorem dX5_layer_2 : decode cX5_layer 2 = .ok (.invokevirtual 57, 3) := by decide +kernel
theorem dX5_layer_5 : decode cX5_layer 5 = .ok (.astore 5, 2) := by decide +kernel
theorem dX5_layer_7 : decode cX5_layer 7 = .ok (.iload_n 2, 1) := by decide +kernel
theorem dX5_layer_8 : decode cX5_layer 8 = .ok (.invokestatic 61, 3) := by decide +kernel
theorem dX5_layer_11 : decode cX5_layer 11 = .ok (.aload 5, 2) := by decide +kernel
theorem dX5_layer_13 : decode cX5_layer 13 = .ok (.invokestatic 64, 3) := by decide +kernel
theorem dX5_layer_16 : decode cX5_layer 16 = .ok (.aload 5, 2) := by decide +kernel
theorem dX5_layer_18 : decode cX5_layer 18 = .ok (.getfield 68, 3) := by decide +kernel
theorem dX5_layer_21 : decode cX5_layer 21 = .ok (.iload_n 2, 1) := by decide +kernel
theorem dX5_layer_22 : decode cX5_layer 22 = .ok (.lload_n 3, 1) := by decide +kernel
theorem dX5_layer_23 : decode cX5_layer 23 = .ok (.invokevirtual 71, 3) := by decide +kernel
theorem dX5_layer_26 : decode cX5_layer 26 = .ok (.lload_n 3, 1) := by decide +kernel
theorem dX5_layer_27 : decode cX5_layer 27 = .ok (.invokestatic 75, 3) := by decide +kernel
theorem dX5_layer_30 : decode cX5_layer 30 = .ok (.ireturn, 1) := by decide +kernel
theorem dX5_lay_0 : decode cX5_lay 0 = .ok (.aload_n 0, 1) := by decide +kernel
theorem dX5_lay_1 : decode cX5_lay 1 = .ok (.iload_n 1, 1) := by decide +kernel
theorem dX5_lay_2 : decode cX5_lay 2 = .ok (.invokevirtual 57, 3) := by decide +kernel
theorem dX5_lay_5 : decode cX5_lay 5 = .ok (.astore_n 3, 1) := by decide +kernel
theorem dX5_lay_6 : decode cX5_lay 6 = .ok (.iload_n 2, 1) := by decide +kernel
theorem dX5_lay_7 : decode cX5_lay 7 = .ok (.invokestatic 81, 3) := by decide +kernel
theorem dX5_lay_10 : decode cX5_lay 10 = .ok (.aload_n 3, 1) := by decide +kernel
theorem dX5_lay_11 : decode cX5_lay 11 = .ok (.invokestatic 64, 3) := by decide +kernel
theorem dX5_lay_14 : decode cX5_lay 14 = .ok (.aload_n 0, 1) := by decide +kernel
theorem dX5_lay_15 : decode cX5_lay 15 = .ok (.getfield 30, 3) := by decide +kernel
theorem dX5_lay_18 : decode cX5_lay 18 = .ok (.aload_n 3, 1) := by decide +kernel
theorem dX5_lay_19 : decode cX5_lay 19 = .ok (.getfield 68, 3) := by decide +kernel
theorem dX5_lay_22 : decode cX5_lay 22 = .ok (.iload_n 2, 1) := by decide +kernel
theorem dX5_lay_23 : decode cX5_lay 23 = .ok (.invokevirtual 84, 3) := by decide +kernel
theorem dX5_lay_26 : decode cX5_lay 26 = .ok (.aload_n 3, 1) := by decide +kernel
theorem dX5_lay_27 : decode cX5_lay 27 = .ok (.getfield 68, 3) := by decide +kernel
theorem dX5_lay_30 : decode cX5_lay 30 = .ok (.aload_n 0, 1) := by decide +kernel
theorem dX5_lay_31 : decode cX5_lay 31 = .ok (.getfield 30, 3) := by decide +kernel
theorem dX5_lay_34 : decode cX5_lay 34 = .ok (.invokevirtual 88, 3) := by decide +kernel
theorem dX5_lay_37 : decode cX5_lay 37 = .ok (.aload_n 3, 1) := by decide +kernel
theorem dX5_lay_38 : decode cX5_lay 38 = .ok (.getfield 68, 3) := by decide +kernel
theorem dX5_lay_41 : decode cX5_lay 41 = .ok (.invokevirtual 92, 3) := by decide +kernel
theorem dX5_lay_44 : decode cX5_lay 44 = .ok (.ireturn, 1) := by decide +kernel
theorem dX5_powder_0 : decode cX5_powder 0 = .ok (.iload_n 1, 1) := by decide +kernel
theorem dX5_powder_1 : decode cX5_powder 1 = .ok (.ifCond .lt 8, 3) := by decide +kernel
theorem dX5_powder_4 : decode cX5_powder 4 = .ok (.iload_n 1, 1) := by decide +kernel
theorem dX5_powder_5 : decode cX5_powder 5 = .ok (.iconst 3, 1) := by decide +kernel
theorem dX5_powder_6 : decode cX5_powder 6 = .ok (.if_icmp .lt 13, 3) := by decide +kernel
theorem dX5_powder_9 : decode cX5_powder 9 = .ok (.new 96, 3) := by decide +kernel
theorem dX5_powder_12 : decode cX5_powder 12 = .ok (.dup, 1) := by decide +kernel
theorem dX5_powder_13 : decode cX5_powder 13 = .ok (.ldc 98, 2) := by decide +kernel
theorem dX5_powder_15 : decode cX5_powder 15 = .ok (.invokespecial 100, 3) := by decide +kernel
theorem dX5_powder_18 : decode cX5_powder 18 = .ok (.athrow, 1) := by decide +kernel
theorem dX5_powder_19 : decode cX5_powder 19 = .ok (.iload_n 2, 1) := by decide +kernel
theorem dX5_powder_20 : decode cX5_powder 20 = .ok (.iconst 1, 1) := by decide +kernel
theorem dX5_powder_21 : decode cX5_powder 21 = .ok (.if_icmp .lt 10, 3) := by decide +kernel
theorem dX5_powder_24 : decode cX5_powder 24 = .ok (.iload_n 2, 1) := by decide +kernel
theorem dX5_powder_25 : decode cX5_powder 25 = .ok (.sipush 2000, 3) := by decide +kernel
theorem dX5_powder_28 : decode cX5_powder 28 = .ok (.if_icmp .le 13, 3) := by decide +kernel
theorem dX5_powder_31 : decode cX5_powder 31 = .ok (.new 96, 3) := by decide +kernel
theorem dX5_powder_34 : decode cX5_powder 34 = .ok (.dup, 1) := by decide +kernel
theorem dX5_powder_35 : decode cX5_powder 35 = .ok (.ldc 101, 2) := by decide +kernel
theorem dX5_powder_37 : decode cX5_powder 37 = .ok (.invokespecial 100, 3) := by decide +kernel
theorem dX5_powder_40 : decode cX5_powder 40 = .ok (.athrow, 1) := by decide +kernel
theorem dX5_powder_41 : decode cX5_powder 41 = .ok (.aload_n 0, 1) := by decide +kernel
theorem dX5_powder_42 : decode cX5_powder 42 = .ok (.getfield 103, 3) := by decide +kernel
theorem dX5_powder_45 : decode cX5_powder 45 = .ok (.bipush 6, 2) := by decide +kernel
theorem dX5_powder_47 : decode cX5_powder 47 = .ok (.if_icmp .lt 13, 3) := by decide +kernel
theorem dX5_powder_50 : decode cX5_powder 50 = .ok (.new 50, 3) := by decide +kernel
theorem dX5_powder_53 : decode cX5_powder 53 = .ok (.dup, 1) := by decide +kernel
theorem dX5_powder_54 : decode cX5_powder 54 = .ok (.ldc 106, 2) := by decide +kernel
theorem dX5_powder_56 : decode cX5_powder 56 = .ok (.invokespecial 54, 3) := by decide +kernel
theorem dX5_powder_59 : decode cX5_powder 59 = .ok (.athrow, 1) := by decide +kernel
theorem dX5_powder_60 : decode cX5_powder 60 = .ok (.aload_n 0, 1) := by decide +kernel
theorem dX5_powder_61 : decode cX5_powder 61 = .ok (.getfield 17, 3) := by decide +kernel
theorem dX5_powder_64 : decode cX5_powder 64 = .ok (.aload_n 0, 1) := by decide +kernel
theorem dX5_powder_65 : decode cX5_powder 65 = .ok (.getfield 103, 3) := by decide +kernel
theorem dX5_powder_68 : decode cX5_powder 68 = .ok (.aaload, 1) := by decide +kernel
theorem dX5_powder_69 : decode cX5_powder 69 = .ok (.astore_n 3, 1) := by decide +kernel
theorem dX5_powder_70 : decode cX5_powder 70 = .ok (.aload_n 3, 1) := by decide +kernel
theorem dX5_powder_71 : decode cX5_powder 71 = .ok (.iload_n 1, 1) := by decide +kernel
theorem dX5_powder_72 : decode cX5_powder 72 = .ok (.putfield 108, 3) := by decide +kernel
theorem dX5_powder_75 : decode cX5_powder 75 = .ok (.aload_n 3, 1) := by decide +kernel
theorem dX5_powder_76 : decode cX5_powder 76 = .ok (.iload_n 2, 1) := by decide +kernel
theorem dX5_powder_77 : decode cX5_powder 77 = .ok (.putfield 111, 3) := by decide +kernel
theorem dX5_powder_80 : decode cX5_powder 80 = .ok (.aload_n 0, 1) := by decide +kernel
theorem dX5_powder_81 : decode cX5_powder 81 = .ok (.dup, 1) := by decide +kernel
theorem dX5_powder_82 : decode cX5_powder 82 = .ok (.getfield 103, 3) := by decide +kernel
theorem dX5_powder_85 : decode cX5_powder 85 = .ok (.iconst 1, 1) := by decide +kernel
theorem dX5_powder_86 : decode cX5_powder 86 = .ok (.iadd, 1) := by decide +kernel
theorem dX5_powder_87 : decode cX5_powder 87 = .ok (.putfield 103, 3) := by decide +kernel
theorem dX5_powder_90 : decode cX5_powder 90 = .ok (.aload_n 3, 1) := by decide +kernel
theorem dX5_powder_91 : decode cX5_powder 91 = .ok (.getfield 114, 3) := by decide +kernel
theorem dX5_powder_94 : decode cX5_powder 94 = .ok (.ireturn, 1) := by decide +kernel
theorem dX5_blend_0 : decode cX5_blend 0 = .ok (.aload_n 0, 1) := by decide +kernel
theorem dX5_blend_1 : decode cX5_blend 1 = .ok (.iload_n 1, 1) := by decide +kernel
theorem dX5_blend_2 : decode cX5_blend 2 = .ok (.invokevirtual 117, 3) := by decide +kernel
theorem dX5_blend_5 : decode cX5_blend 5 = .ok (.astore_n 3, 1) := by decide +kernel
theorem dX5_blend_6 : decode cX5_blend 6 = .ok (.aload_n 0, 1) := by decide +kernel
theorem dX5_blend_7 : decode cX5_blend 7 = .ok (.iload_n 2, 1) := by decide +kernel
theorem dX5_blend_8 : decode cX5_blend 8 = .ok (.invokevirtual 117, 3) := by decide +kernel
theorem dX5_blend_11 : decode cX5_blend 11 = .ok (.astore 4, 2) := by decide +kernel
theorem dX5_blend_13 : decode cX5_blend 13 = .ok (.iload_n 1, 1) := by decide +kernel
theorem dX5_blend_14 : decode cX5_blend 14 = .ok (.iload_n 2, 1) := by decide +kernel
theorem dX5_blend_15 : decode cX5_blend 15 = .ok (.if_icmp .ne 13, 3) := by decide +kernel
theorem dX5_blend_18 : decode cX5_blend 18 = .ok (.new 96, 3) := by decide +kernel
theorem dX5_blend_21 : decode cX5_blend 21 = .ok (.dup, 1) := by decide +kernel
theorem dX5_blend_22 : decode cX5_blend 22 = .ok (.ldc 121, 2) := by decide +kernel
theorem dX5_blend_24 : decode cX5_blend 24 = .ok (.invokespecial 100, 3) := by decide +kernel
theorem dX5_blend_27 : decode cX5_blend 27 = .ok (.athrow, 1) := by decide +kernel
theorem dX5_blend_28 : decode cX5_blend 28 = .ok (.aload_n 3, 1) := by decide +kernel
theorem dX5_blend_29 : decode cX5_blend 29 = .ok (.getfield 108, 3) := by decide +kernel
theorem dX5_blend_32 : decode cX5_blend 32 = .ok (.aload 4, 2) := by decide +kernel
theorem dX5_blend_34 : decode cX5_blend 34 = .ok (.getfield 108, 3) := by decide +kernel
theorem dX5_blend_37 : decode cX5_blend 37 = .ok (.if_icmp .eq 13, 3) := by decide +kernel
theorem dX5_blend_40 : decode cX5_blend 40 = .ok (.new 96, 3) := by decide +kernel
theorem dX5_blend_43 : decode cX5_blend 43 = .ok (.dup, 1) := by decide +kernel
theorem dX5_blend_44 : decode cX5_blend 44 = .ok (.ldc 123, 2) := by decide +kernel
theorem dX5_blend_46 : decode cX5_blend 46 = .ok (.invokespecial 100, 3) := by decide +kernel
theorem dX5_blend_49 : decode cX5_blend 49 = .ok (.athrow, 1) := by decide +kernel
theorem dX5_blend_50 : decode cX5_blend 50 = .ok (.aload_n 3, 1) := by decide +kernel
theorem dX5_blend_51 : decode cX5_blend 51 = .ok (.getfield 125, 3) := by decide +kernel
theorem dX5_blend_54 : decode cX5_blend 54 = .ok (.iconst (-1), 1) := by decide +kernel
theorem dX5_blend_55 : decode cX5_blend 55 = .ok (.if_icmp .ne 12, 3) := by decide +kernel
theorem dX5_blend_58 : decode cX5_blend 58 = .ok (.aload 4, 2) := by decide +kernel
theorem dX5_blend_60 : decode cX5_blend 60 = .ok (.getfield 125, 3) := by decide +kernel
theorem dX5_blend_63 : decode cX5_blend 63 = .ok (.iconst (-1), 1) := by decide +kernel
theorem dX5_blend_64 : decode cX5_blend 64 = .ok (.if_icmp .eq 13, 3) := by decide +kernel
theorem dX5_blend_67 : decode cX5_blend 67 = .ok (.new 50, 3) := by decide +kernel
theorem dX5_blend_70 : decode cX5_blend 70 = .ok (.dup, 1) := by decide +kernel
theorem dX5_blend_71 : decode cX5_blend 71 = .ok (.ldc 128, 2) := by decide +kernel
theorem dX5_blend_73 : decode cX5_blend 73 = .ok (.invokespecial 54, 3) := by decide +kernel
theorem dX5_blend_76 : decode cX5_blend 76 = .ok (.athrow, 1) := by decide +kernel
theorem dX5_blend_77 : decode cX5_blend 77 = .ok (.aload_n 3, 1) := by decide +kernel
theorem dX5_blend_78 : decode cX5_blend 78 = .ok (.aload 4, 2) := by decide +kernel
theorem dX5_blend_80 : decode cX5_blend 80 = .ok (.invokevirtual 130, 3) := by decide +kernel
theorem dX5_blend_83 : decode cX5_blend 83 = .ok (.aload_n 3, 1) := by decide +kernel
theorem dX5_blend_84 : decode cX5_blend 84 = .ok (.getfield 111, 3) := by decide +kernel
theorem dX5_blend_87 : decode cX5_blend 87 = .ok (.ireturn, 1) := by decide +kernel
theorem dX5_load_0 : decode cX5_load 0 = .ok (.aload_n 0, 1) := by decide +kernel
theorem dX5_load_1 : decode cX5_load 1 = .ok (.iload_n 1, 1) := by decide +kernel
theorem dX5_load_2 : decode cX5_load 2 = .ok (.invokevirtual 134, 3) := by decide +kernel
theorem dX5_load_5 : decode cX5_load 5 = .ok (.astore_n 3, 1) := by decide +kernel
theorem dX5_load_6 : decode cX5_load 6 = .ok (.aload_n 0, 1) := by decide +kernel
theorem dX5_load_7 : decode cX5_load 7 = .ok (.iload_n 2, 1) := by decide +kernel
theorem dX5_load_8 : decode cX5_load 8 = .ok (.invokevirtual 117, 3) := by decide +kernel
theorem dX5_load_11 : decode cX5_load 11 = .ok (.astore 4, 2) := by decide +kernel
theorem dX5_load_13 : decode cX5_load 13 = .ok (.aload_n 3, 1) := by decide +kernel
theorem dX5_load_14 : decode cX5_load 14 = .ok (.getfield 138, 3) := by decide +kernel
theorem dX5_load_17 : decode cX5_load 17 = .ok (.ifnull 13, 3) := by decide +kernel
theorem dX5_load_20 : decode cX5_load 20 = .ok (.new 50, 3) := by decide +kernel
theorem dX5_load_23 : decode cX5_load 23 = .ok (.dup, 1) := by decide +kernel
theorem dX5_load_24 : decode cX5_load 24 = .ok (.ldc 142, 2) := by decide +kernel
theorem dX5_load_26 : decode cX5_load 26 = .ok (.invokespecial 54, 3) := by decide +kernel
theorem dX5_load_29 : decode cX5_load 29 = .ok (.athrow, 1) := by decide +kernel
theorem dX5_load_30 : decode cX5_load 30 = .ok (.aload 4, 2) := by decide +kernel
theorem dX5_load_32 : decode cX5_load 32 = .ok (.getfield 125, 3) := by decide +kernel
theorem dX5_load_35 : decode cX5_load 35 = .ok (.iconst (-1), 1) := by decide +kernel
theorem dX5_load_36 : decode cX5_load 36 = .ok (.if_icmp .eq 13, 3) := by decide +kernel
theorem dX5_load_39 : decode cX5_load 39 = .ok (.new 50, 3) := by decide +kernel
theorem dX5_load_42 : decode cX5_load 42 = .ok (.dup, 1) := by decide +kernel
theorem dX5_load_43 : decode cX5_load 43 = .ok (.ldc 144, 2) := by decide +kernel
theorem dX5_load_45 : decode cX5_load 45 = .ok (.invokespecial 54, 3) := by decide +kernel
theorem dX5_load_48 : decode cX5_load 48 = .ok (.athrow, 1) := by decide +kernel
theorem dX5_load_49 : decode cX5_load 49 = .ok (.aload 4, 2) := by decide +kernel
theorem dX5_load_51 : decode cX5_load 51 = .ok (.getfield 111, 3) := by decide +kernel
theorem dX5_load_54 : decode cX5_load 54 = .ok (.ifCond .ne 13, 3) := by decide +kernel
theorem dX5_load_57 : decode cX5_load 57 = .ok (.new 50, 3) := by decide +kernel
theorem dX5_load_60 : decode cX5_load 60 = .ok (.dup, 1) := by decide +kernel
theorem dX5_load_61 : decode cX5_load 61 = .ok (.ldc 146, 2) := by decide +kernel
theorem dX5_load_63 : decode cX5_load 63 = .ok (.invokespecial 54, 3) := by decide +kernel
theorem dX5_load_66 : decode cX5_load 66 = .ok (.athrow, 1) := by decide +kernel
theorem dX5_load_67 : decode cX5_load 67 = .ok (.aload_n 3, 1) := by decide +kernel
theorem dX5_load_68 : decode cX5_load 68 = .ok (.getfield 148, 3) := by decide +kernel
theorem dX5_load_71 : decode cX5_load 71 = .ok (.iconst (-1), 1) := by decide +kernel
theorem dX5_load_72 : decode cX5_load 72 = .ok (.if_icmp .eq 18, 3) := by decide +kernel
theorem dX5_load_75 : decode cX5_load 75 = .ok (.aload_n 3, 1) := by decide +kernel
theorem dX5_load_76 : decode cX5_load 76 = .ok (.getfield 148, 3) := by decide +kernel
theorem dX5_load_79 : decode cX5_load 79 = .ok (.aload 4, 2) := by decide +kernel
theorem dX5_load_81 : decode cX5_load 81 = .ok (.getfield 108, 3) := by decide +kernel
theorem dX5_load_84 : decode cX5_load 84 = .ok (.if_icmp .eq 6, 3) := by decide +kernel
theorem dX5_load_87 : decode cX5_load 87 = .ok (.bipush (-2), 2) := by decide +kernel
theorem dX5_load_89 : decode cX5_load 89 = .ok (.ireturn, 1) := by decide +kernel
theorem dX5_load_90 : decode cX5_load 90 = .ok (.aload 4, 2) := by decide +kernel
theorem dX5_load_92 : decode cX5_load 92 = .ok (.getfield 151, 3) := by decide +kernel
theorem dX5_load_95 : decode cX5_load 95 = .ok (.iconst 4, 1) := by decide +kernel
theorem dX5_load_96 : decode cX5_load 96 = .ok (.if_icmp .le 6, 3) := by decide +kernel
theorem dX5_load_99 : decode cX5_load 99 = .ok (.bipush (-3), 2) := by decide +kernel
theorem dX5_load_101 : decode cX5_load 101 = .ok (.ireturn, 1) := by decide +kernel
theorem dX5_load_102 : decode cX5_load 102 = .ok (.aload_n 3, 1) := by decide +kernel
theorem dX5_load_103 : decode cX5_load 103 = .ok (.aload 4, 2) := by decide +kernel
theorem dX5_load_105 : decode cX5_load 105 = .ok (.invokevirtual 154, 3) := by decide +kernel
theorem dX5_load_108 : decode cX5_load 108 = .ok (.aload_n 3, 1) := by decide +kernel
theorem dX5_load_109 : decode cX5_load 109 = .ok (.getfield 157, 3) := by decide +kernel
theorem dX5_load_112 : decode cX5_load 112 = .ok (.ireturn, 1) := by decide +kernel
theorem dX5_unload_0 : decode cX5_unload 0 = .ok (.aload_n 0, 1) := by decide +kernel
theorem dX5_unload_1 : decode cX5_unload 1 = .ok (.iload_n 1, 1) := by decide +kernel
theorem dX5_unload_2 : decode cX5_unload 2 = .ok (.invokevirtual 134, 3) := by decide +kernel
theorem dX5_unload_5 : decode cX5_unload 5 = .ok (.astore_n 2, 1) := by decide +kernel
theorem dX5_unload_6 : decode cX5_unload 6 = .ok (.aload_n 2, 1) := by decide +kernel
theorem dX5_unload_7 : decode cX5_unload 7 = .ok (.getfield 138, 3) := by decide +kernel
theorem dX5_unload_10 : decode cX5_unload 10 = .ok (.astore_n 3, 1) := by decide +kernel
theorem dX5_unload_11 : decode cX5_unload 11 = .ok (.aload_n 3, 1) := by decide +kernel
theorem dX5_unload_12 : decode cX5_unload 12 = .ok (.ifnonnull 13, 3) := by decide +kernel
theorem dX5_unload_15 : decode cX5_unload 15 = .ok (.new 50, 3) := by decide +kernel
theorem dX5_unload_18 : decode cX5_unload 18 = .ok (.dup, 1) := by decide +kernel
theorem dX5_unload_19 : decode cX5_unload 19 = .ok (.ldc 160, 2) := by decide +kernel
theorem dX5_unload_21 : decode cX5_unload 21 = .ok (.invokespecial 54, 3) := by decide +kernel
theorem dX5_unload_24 : decode cX5_unload 24 = .ok (.athrow, 1) := by decide +kernel
theorem dX5_unload_25 : decode cX5_unload 25 = .ok (.aload_n 2, 1) := by decide +kernel
theorem dX5_unload_26 : decode cX5_unload 26 = .ok (.getfield 162, 3) := by decide +kernel
theorem dX5_unload_29 : decode cX5_unload 29 = .ok (.ifnull 13, 3) := by decide +kernel
theorem dX5_unload_32 : decode cX5_unload 32 = .ok (.new 50, 3) := by decide +kernel
theorem dX5_unload_35 : decode cX5_unload 35 = .ok (.dup, 1) := by decide +kernel
theorem dX5_unload_36 : decode cX5_unload 36 = .ok (.ldc 166, 2) := by decide +kernel
theorem dX5_unload_38 : decode cX5_unload 38 = .ok (.invokespecial 54, 3) := by decide +kernel
theorem dX5_unload_41 : decode cX5_unload 41 = .ok (.athrow, 1) := by decide +kernel
theorem dX5_unload_42 : decode cX5_unload 42 = .ok (.aload_n 2, 1) := by decide +kernel
theorem dX5_unload_43 : decode cX5_unload 43 = .ok (.aload_n 2, 1) := by decide +kernel
theorem dX5_unload_44 : decode cX5_unload 44 = .ok (.getfield 157, 3) := by decide +kernel
theorem dX5_unload_47 : decode cX5_unload 47 = .ok (.invokevirtual 168, 3) := by decide +kernel
theorem dX5_unload_50 : decode cX5_unload 50 = .ok (.aload_n 3, 1) := by decide +kernel
theorem dX5_unload_51 : decode cX5_unload 51 = .ok (.getfield 111, 3) := by decide +kernel
theorem dX5_unload_54 : decode cX5_unload 54 = .ok (.ireturn, 1) := by decide +kernel
theorem dX5_start_0 : decode cX5_start 0 = .ok (.aload_n 0, 1) := by decide +kernel
theorem dX5_start_1 : decode cX5_start 1 = .ok (.iload_n 1, 1) := by decide +kernel
theorem dX5_start_2 : decode cX5_start 2 = .ok (.invokevirtual 134, 3) := by decide +kernel
theorem dX5_start_5 : decode cX5_start 5 = .ok (.astore 5, 2) := by decide +kernel
theorem dX5_start_7 : decode cX5_start 7 = .ok (.aload_n 0, 1) := by decide +kernel
theorem dX5_start_8 : decode cX5_start 8 = .ok (.iload_n 2, 1) := by decide +kernel
theorem dX5_start_9 : decode cX5_start 9 = .ok (.invokevirtual 57, 3) := by decide +kernel
theorem dX5_start_12 : decode cX5_start 12 = .ok (.astore 6, 2) := by decide +kernel
theorem dX5_start_14 : decode cX5_start 14 = .ok (.iload_n 3, 1) := by decide +kernel
theorem dX5_start_15 : decode cX5_start 15 = .ok (.invokestatic 177, 3) := by decide +kernel
theorem dX5_start_18 : decode cX5_start 18 = .ok (.iload 4, 2) := by decide +kernel
theorem dX5_start_20 : decode cX5_start 20 = .ok (.iconst 1, 1) := by decide +kernel
theorem dX5_start_21 : decode cX5_start 21 = .ok (.if_icmp .lt 10, 3) := by decide +kernel
theorem dX5_start_24 : decode cX5_start 24 = .ok (.iload 4, 2) := by decide +kernel
theorem dX5_start_26 : decode cX5_start 26 = .ok (.bipush 20, 2) := by decide +kernel
theorem dX5_start_28 : decode cX5_start 28 = .ok (.if_icmp .le 13, 3) := by decide +kernel
theorem dX5_start_31 : decode cX5_start 31 = .ok (.new 96, 3) := by decide +kernel
theorem dX5_start_34 : decode cX5_start 34 = .ok (.dup, 1) := by decide +kernel
theorem dX5_start_35 : decode cX5_start 35 = .ok (.ldc 180, 2) := by decide +kernel
theorem dX5_start_37 : decode cX5_start 37 = .ok (.invokespecial 100, 3) := by decide +kernel
theorem dX5_start_40 : decode cX5_start 40 = .ok (.athrow, 1) := by decide +kernel
theorem dX5_start_41 : decode cX5_start 41 = .ok (.aload 6, 2) := by decide +kernel
theorem dX5_start_43 : decode cX5_start 43 = .ok (.invokestatic 64, 3) := by decide +kernel
theorem dX5_start_46 : decode cX5_start 46 = .ok (.aload 6, 2) := by decide +kernel
theorem dX5_start_48 : decode cX5_start 48 = .ok (.getfield 68, 3) := by decide +kernel
theorem dX5_start_51 : decode cX5_start 51 = .ok (.invokevirtual 92, 3) := by decide +kernel
theorem dX5_start_54 : decode cX5_start 54 = .ok (.ifCond .ne 13, 3) := by decide +kernel
theorem dX5_start_57 : decode cX5_start 57 = .ok (.new 50, 3) := by decide +kernel
theorem dX5_start_60 : decode cX5_start 60 = .ok (.dup, 1) := by decide +kernel
theorem dX5_start_61 : decode cX5_start 61 = .ok (.ldc 182, 2) := by decide +kernel
theorem dX5_start_63 : decode cX5_start 63 = .ok (.invokespecial 54, 3) := by decide +kernel
theorem dX5_start_66 : decode cX5_start 66 = .ok (.athrow, 1) := by decide +kernel
theorem dX5_start_67 : decode cX5_start 67 = .ok (.aload 5, 2) := by decide +kernel
theorem dX5_start_69 : decode cX5_start 69 = .ok (.getfield 162, 3) := by decide +kernel
theorem dX5_start_72 : decode cX5_start 72 = .ok (.ifnull 13, 3) := by decide +kernel
theorem dX5_start_75 : decode cX5_start 75 = .ok (.new 50, 3) := by decide +kernel
theorem dX5_start_78 : decode cX5_start 78 = .ok (.dup, 1) := by decide +kernel
theorem dX5_start_79 : decode cX5_start 79 = .ok (.ldc 166, 2) := by decide +kernel
theorem dX5_start_81 : decode cX5_start 81 = .ok (.invokespecial 54, 3) := by decide +kernel
theorem dX5_start_84 : decode cX5_start 84 = .ok (.athrow, 1) := by decide +kernel
theorem dX5_start_85 : decode cX5_start 85 = .ok (.aload 5, 2) := by decide +kernel
theorem dX5_start_87 : decode cX5_start 87 = .ok (.getfield 138, 3) := by decide +kernel
theorem dX5_start_90 : decode cX5_start 90 = .ok (.astore 7, 2) := by decide +kernel
theorem dX5_start_92 : decode cX5_start 92 = .ok (.aload 7, 2) := by decide +kernel
theorem dX5_start_94 : decode cX5_start 94 = .ok (.ifnonnull 13, 3) := by decide +kernel
theorem dX5_start_97 : decode cX5_start 97 = .ok (.new 50, 3) := by decide +kernel
theorem dX5_start_100 : decode cX5_start 100 = .ok (.dup, 1) := by decide +kernel
theorem dX5_start_101 : decode cX5_start 101 = .ok (.ldc 160, 2) := by decide +kernel
theorem dX5_start_103 : decode cX5_start 103 = .ok (.invokespecial 54, 3) := by decide +kernel
theorem dX5_start_106 : decode cX5_start 106 = .ok (.athrow, 1) := by decide +kernel
theorem dX5_start_107 : decode cX5_start 107 = .ok (.aload 6, 2) := by decide +kernel
theorem dX5_start_109 : decode cX5_start 109 = .ok (.aload 5, 2) := by decide +kernel
theorem dX5_start_111 : decode cX5_start 111 = .ok (.aload 7, 2) := by decide +kernel
theorem dX5_start_113 : decode cX5_start 113 = .ok (.iload_n 3, 1) := by decide +kernel
theorem dX5_start_114 : decode cX5_start 114 = .ok (.iload 4, 2) := by decide +kernel
theorem dX5_start_116 : decode cX5_start 116 = .ok (.invokevirtual 184, 3) := by decide +kernel
theorem dX5_start_119 : decode cX5_start 119 = .ok (.aload 5, 2) := by decide +kernel
theorem dX5_start_121 : decode cX5_start 121 = .ok (.aload 6, 2) := by decide +kernel
theorem dX5_start_123 : decode cX5_start 123 = .ok (.putfield 162, 3) := by decide +kernel
theorem dX5_start_126 : decode cX5_start 126 = .ok (.aload 6, 2) := by decide +kernel
theorem dX5_start_128 : decode cX5_start 128 = .ok (.getfield 68, 3) := by decide +kernel
theorem dX5_start_131 : decode cX5_start 131 = .ok (.invokevirtual 92, 3) := by decide +kernel
theorem dX5_start_134 : decode cX5_start 134 = .ok (.ireturn, 1) := by decide +kernel
theorem dX5_grow_0 : decode cX5_grow 0 = .ok (.aload_n 0, 1) := by decide +kernel
theorem dX5_grow_1 : decode cX5_grow 1 = .ok (.iload_n 1, 1) := by decide +kernel
theorem dX5_grow_2 : decode cX5_grow 2 = .ok (.invokevirtual 134, 3) := by decide +kernel
theorem dX5_grow_5 : decode cX5_grow 5 = .ok (.astore_n 3, 1) := by decide +kernel
theorem dX5_grow_6 : decode cX5_grow 6 = .ok (.iload_n 2, 1) := by decide +kernel
theorem dX5_grow_7 : decode cX5_grow 7 = .ok (.iconst 1, 1) := by decide +kernel
theorem dX5_grow_8 : decode cX5_grow 8 = .ok (.if_icmp .lt 9, 3) := by decide +kernel
theorem dX5_grow_11 : decode cX5_grow 11 = .ok (.iload_n 2, 1) := by decide +kernel
theorem dX5_grow_12 : decode cX5_grow 12 = .ok (.bipush 8, 2) := by decide +kernel
theorem dX5_grow_14 : decode cX5_grow 14 = .ok (.if_icmp .le 13, 3) := by decide +kernel
theorem dX5_grow_17 : decode cX5_grow 17 = .ok (.new 96, 3) := by decide +kernel
theorem dX5_grow_20 : decode cX5_grow 20 = .ok (.dup, 1) := by decide +kernel
theorem dX5_grow_21 : decode cX5_grow 21 = .ok (.ldc 188, 2) := by decide +kernel
theorem dX5_grow_23 : decode cX5_grow 23 = .ok (.invokespecial 100, 3) := by decide +kernel
theorem dX5_grow_26 : decode cX5_grow 26 = .ok (.athrow, 1) := by decide +kernel
theorem dX5_grow_27 : decode cX5_grow 27 = .ok (.aload_n 3, 1) := by decide +kernel
theorem dX5_grow_28 : decode cX5_grow 28 = .ok (.invokestatic 190, 3) := by decide +kernel
theorem dX5_grow_31 : decode cX5_grow 31 = .ok (.pop, 1) := by decide +kernel
theorem dX5_grow_32 : decode cX5_grow 32 = .ok (.iconst 0, 1) := by decide +kernel
theorem dX5_grow_33 : decode cX5_grow 33 = .ok (.istore 4, 2) := by decide +kernel
theorem dX5_grow_35 : decode cX5_grow 35 = .ok (.iload 4, 2) := by decide +kernel
theorem dX5_grow_37 : decode cX5_grow 37 = .ok (.iload_n 2, 1) := by decide +kernel
theorem dX5_grow_38 : decode cX5_grow 38 = .ok (.if_icmp .ge 17, 3) := by decide +kernel
theorem dX5_grow_41 : decode cX5_grow 41 = .ok (.aload_n 0, 1) := by decide +kernel
theorem dX5_grow_42 : decode cX5_grow 42 = .ok (.aload_n 3, 1) := by decide +kernel
theorem dX5_grow_43 : decode cX5_grow 43 = .ok (.invokevirtual 194, 3) := by decide +kernel
theorem dX5_grow_46 : decode cX5_grow 46 = .ok (.ifCond .eq 9, 3) := by decide +kernel
theorem dX5_grow_49 : decode cX5_grow 49 = .ok (.iinc 4 1, 3) := by decide +kernel
theorem dX5_grow_52 : decode cX5_grow 52 = .ok (.goto (-17), 3) := by decide +kernel
theorem dX5_grow_55 : decode cX5_grow 55 = .ok (.iload 4, 2) := by decide +kernel
theorem dX5_grow_57 : decode cX5_grow 57 = .ok (.ireturn, 1) := by decide +kernel
theorem dX5_growNext_0 : decode cX5_growNext 0 = .ok (.aload_n 1, 1) := by decide +kernel
theorem dX5_growNext_1 : decode cX5_growNext 1 = .ok (.getfield 162, 3) := by decide +kernel
theorem dX5_growNext_4 : decode cX5_growNext 4 = .ok (.astore_n 2, 1) := by decide +kernel
theorem dX5_growNext_5 : decode cX5_growNext 5 = .ok (.aload_n 2, 1) := by decide +kernel
theorem dX5_growNext_6 : decode cX5_growNext 6 = .ok (.ifnull 17, 3) := by decide +kernel
theorem dX5_growNext_9 : decode cX5_growNext 9 = .ok (.aload_n 2, 1) := by decide +kernel
theorem dX5_growNext_10 : decode cX5_growNext 10 = .ok (.getfield 207, 3) := by decide +kernel
theorem dX5_growNext_13 : decode cX5_growNext 13 = .ok (.aload_n 2, 1) := by decide +kernel
theorem dX5_growNext_14 : decode cX5_growNext 14 = .ok (.getfield 68, 3) := by decide +kernel
theorem dX5_growNext_17 : decode cX5_growNext 17 = .ok (.invokevirtual 92, 3) := by decide +kernel
theorem dX5_growNext_20 : decode cX5_growNext 20 = .ok (.if_icmp .lt 5, 3) := by decide +kernel
theorem dX5_growNext_23 : decode cX5_growNext 23 = .ok (.iconst 0, 1) := by decide +kernel
theorem dX5_growNext_24 : decode cX5_growNext 24 = .ok (.ireturn, 1) := by decide +kernel
theorem dX5_growNext_25 : decode cX5_growNext 25 = .ok (.aload_n 2, 1) := by decide +kernel
theorem dX5_growNext_26 : decode cX5_growNext 26 = .ok (.getfield 68, 3) := by decide +kernel
theorem dX5_growNext_29 : decode cX5_growNext 29 = .ok (.aload_n 2, 1) := by decide +kernel
theorem dX5_growNext_30 : decode cX5_growNext 30 = .ok (.getfield 207, 3) := by decide +kernel
theorem dX5_growNext_33 : decode cX5_growNext 33 = .ok (.invokevirtual 210, 3) := by decide +kernel
theorem dX5_growNext_36 : decode cX5_growNext 36 = .ok (.istore_n 3, 1) := by decide +kernel
theorem dX5_growNext_37 : decode cX5_growNext 37 = .ok (.aload_n 1, 1) := by decide +kernel
theorem dX5_growNext_38 : decode cX5_growNext 38 = .ok (.getfield 157, 3) := by decide +kernel
theorem dX5_growNext_41 : decode cX5_growNext 41 = .ok (.iload_n 3, 1) := by decide +kernel
theorem dX5_growNext_42 : decode cX5_growNext 42 = .ok (.if_icmp .ge 5, 3) := by decide +kernel
theorem dX5_growNext_45 : decode cX5_growNext 45 = .ok (.iconst 0, 1) := by decide +kernel
theorem dX5_growNext_46 : decode cX5_growNext 46 = .ok (.ireturn, 1) := by decide +kernel
theorem dX5_growNext_47 : decode cX5_growNext 47 = .ok (.aload_n 1, 1) := by decide +kernel
theorem dX5_growNext_48 : decode cX5_growNext 48 = .ok (.dup, 1) := by decide +kernel
theorem dX5_growNext_49 : decode cX5_growNext 49 = .ok (.getfield 157, 3) := by decide +kernel
theorem dX5_growNext_52 : decode cX5_growNext 52 = .ok (.iload_n 3, 1) := by decide +kernel
theorem dX5_growNext_53 : decode cX5_growNext 53 = .ok (.isub, 1) := by decide +kernel
theorem dX5_growNext_54 : decode cX5_growNext 54 = .ok (.putfield 157, 3) := by decide +kernel
theorem dX5_growNext_57 : decode cX5_growNext 57 = .ok (.aload_n 2, 1) := by decide +kernel
theorem dX5_growNext_58 : decode cX5_growNext 58 = .ok (.invokevirtual 214, 3) := by decide +kernel
theorem dX5_growNext_61 : decode cX5_growNext 61 = .ok (.aload_n 0, 1) := by decide +kernel
theorem dX5_growNext_62 : decode cX5_growNext 62 = .ok (.dup, 1) := by decide +kernel
theorem dX5_growNext_63 : decode cX5_growNext 63 = .ok (.getfield 217, 3) := by decide +kernel
theorem dX5_growNext_66 : decode cX5_growNext 66 = .ok (.iconst 1, 1) := by decide +kernel
theorem dX5_growNext_67 : decode cX5_growNext 67 = .ok (.iadd, 1) := by decide +kernel
theorem dX5_growNext_68 : decode cX5_growNext 68 = .ok (.putfield 217, 3) := by decide +kernel
theorem dX5_growNext_71 : decode cX5_growNext 71 = .ok (.aload_n 2, 1) := by decide +kernel
theorem dX5_growNext_72 : decode cX5_growNext 72 = .ok (.invokevirtual 220, 3) := by decide +kernel
theorem dX5_growNext_75 : decode cX5_growNext 75 = .ok (.ifCond .eq 27, 3) := by decide +kernel
theorem dX5_growNext_78 : decode cX5_growNext 78 = .ok (.aload_n 0, 1) := by decide +kernel
theorem dX5_growNext_79 : decode cX5_growNext 79 = .ok (.dup, 1) := by decide +kernel
theorem dX5_growNext_80 : decode cX5_growNext 80 = .ok (.getfield 224, 3) := by decide +kernel
theorem dX5_growNext_83 : decode cX5_growNext 83 = .ok (.iconst 1, 1) := by decide +kernel
theorem dX5_growNext_84 : decode cX5_growNext 84 = .ok (.iadd, 1) := by decide +kernel
theorem dX5_growNext_85 : decode cX5_growNext 85 = .ok (.putfield 224, 3) := by decide +kernel
theorem dX5_growNext_88 : decode cX5_growNext 88 = .ok (.aload_n 2, 1) := by decide +kernel
theorem dX5_growNext_89 : decode cX5_growNext 89 = .ok (.bipush 6, 2) := by decide +kernel
theorem dX5_growNext_91 : decode cX5_growNext 91 = .ok (.putfield 171, 3) := by decide +kernel
theorem dX5_growNext_94 : decode cX5_growNext 94 = .ok (.aload_n 1, 1) := by decide +kernel
theorem dX5_growNext_95 : decode cX5_growNext 95 = .ok (.aconst_null, 1) := by decide +kernel
theorem dX5_growNext_96 : decode cX5_growNext 96 = .ok (.putfield 162, 3) := by decide +kernel
theorem dX5_growNext_99 : decode cX5_growNext 99 = .ok (.goto 27, 3) := by decide +kernel
theorem dX5_growNext_102 : decode cX5_growNext 102 = .ok (.aload_n 2, 1) := by decide +kernel
theorem dX5_growNext_103 : decode cX5_growNext 103 = .ok (.getfield 207, 3) := by decide +kernel
theorem dX5_growNext_106 : decode cX5_growNext 106 = .ok (.aload_n 2, 1) := by decide +kernel
theorem dX5_growNext_107 : decode cX5_growNext 107 = .ok (.getfield 68, 3) := by decide +kernel
theorem dX5_growNext_110 : decode cX5_growNext 110 = .ok (.invokevirtual 92, 3) := by decide +kernel
theorem dX5_growNext_113 : decode cX5_growNext 113 = .ok (.if_icmp .lt 13, 3) := by decide +kernel
theorem dX5_growNext_116 : decode cX5_growNext 116 = .ok (.aload_n 2, 1) := by decide +kernel
theorem dX5_growNext_117 : decode cX5_growNext 117 = .ok (.iconst 2, 1) := by decide +kernel
theorem dX5_growNext_118 : decode cX5_growNext 118 = .ok (.putfield 171, 3) := by decide +kernel
theorem dX5_growNext_121 : decode cX5_growNext 121 = .ok (.aload_n 1, 1) := by decide +kernel
theorem dX5_growNext_122 : decode cX5_growNext 122 = .ok (.aconst_null, 1) := by decide +kernel
theorem dX5_growNext_123 : decode cX5_growNext 123 = .ok (.putfield 162, 3) := by decide +kernel
theorem dX5_growNext_126 : decode cX5_growNext 126 = .ok (.iconst 1, 1) := by decide +kernel
theorem dX5_growNext_127 : decode cX5_growNext 127 = .ok (.ireturn, 1) := by decide +kernel
theorem dX5_ofPiece_0 : decode cX5_ofPiece 0 = .ok (.aload_n 0, 1) := by decide +kernel
theorem dX5_ofPiece_1 : decode cX5_ofPiece 1 = .ok (.iload_n 1, 1) := by decide +kernel
theorem dX5_ofPiece_2 : decode cX5_ofPiece 2 = .ok (.invokevirtual 57, 3) := by decide +kernel
theorem dX5_ofPiece_5 : decode cX5_ofPiece 5 = .ok (.astore_n 3, 1) := by decide +kernel
theorem dX5_ofPiece_6 : decode cX5_ofPiece 6 = .ok (.iload_n 2, 1) := by decide +kernel
theorem dX5_ofPiece_7 : decode cX5_ofPiece 7 = .ok (.tableswitch 183 0 14 #[73, 78, 86, 94, 102, 110, 118, 123, 131, 139, 144, 163, 168, 173, 178], 73) := by decide +kernel
theorem dX5_ofPiece_80 : decode cX5_ofPiece 80 = .ok (.aload_n 3, 1) := by decide +kernel
theorem dX5_ofPiece_81 : decode cX5_ofPiece 81 = .ok (.getfield 171, 3) := by decide +kernel
theorem dX5_ofPiece_84 : decode cX5_ofPiece 84 = .ok (.ireturn, 1) := by decide +kernel
theorem dX5_ofPiece_85 : decode cX5_ofPiece 85 = .ok (.aload_n 3, 1) := by decide +kernel
theorem dX5_ofPiece_86 : decode cX5_ofPiece 86 = .ok (.getfield 68, 3) := by decide +kernel
theorem dX5_ofPiece_89 : decode cX5_ofPiece 89 = .ok (.invokevirtual 92, 3) := by decide +kernel
theorem dX5_ofPiece_92 : decode cX5_ofPiece 92 = .ok (.ireturn, 1) := by decide +kernel
theorem dX5_ofPiece_93 : decode cX5_ofPiece 93 = .ok (.aload_n 3, 1) := by decide +kernel
theorem dX5_ofPiece_94 : decode cX5_ofPiece 94 = .ok (.getfield 68, 3) := by decide +kernel
theorem dX5_ofPiece_97 : decode cX5_ofPiece 97 = .ok (.invokevirtual 255, 3) := by decide +kernel
theorem dX5_ofPiece_100 : decode cX5_ofPiece 100 = .ok (.ireturn, 1) := by decide +kernel
theorem dX5_ofPiece_101 : decode cX5_ofPiece 101 = .ok (.aload_n 3, 1) := by decide +kernel
theorem dX5_ofPiece_102 : decode cX5_ofPiece 102 = .ok (.getfield 68, 3) := by decide +kernel
theorem dX5_ofPiece_105 : decode cX5_ofPiece 105 = .ok (.invokevirtual 258, 3) := by decide +kernel
theorem dX5_ofPiece_108 : decode cX5_ofPiece 108 = .ok (.ireturn, 1) := by decide +kernel
theorem dX5_ofPiece_109 : decode cX5_ofPiece 109 = .ok (.aload_n 3, 1) := by decide +kernel
theorem dX5_ofPiece_110 : decode cX5_ofPiece 110 = .ok (.getfield 68, 3) := by decide +kernel
theorem dX5_ofPiece_113 : decode cX5_ofPiece 113 = .ok (.invokevirtual 261, 3) := by decide +kernel
theorem dX5_ofPiece_116 : decode cX5_ofPiece 116 = .ok (.ireturn, 1) := by decide +kernel
theorem dX5_ofPiece_117 : decode cX5_ofPiece 117 = .ok (.aload_n 3, 1) := by decide +kernel
theorem dX5_ofPiece_118 : decode cX5_ofPiece 118 = .ok (.getfield 68, 3) := by decide +kernel
theorem dX5_ofPiece_121 : decode cX5_ofPiece 121 = .ok (.invokevirtual 264, 3) := by decide +kernel
theorem dX5_ofPiece_124 : decode cX5_ofPiece 124 = .ok (.ireturn, 1) := by decide +kernel
theorem dX5_ofPiece_125 : decode cX5_ofPiece 125 = .ok (.aload_n 3, 1) := by decide +kernel
theorem dX5_ofPiece_126 : decode cX5_ofPiece 126 = .ok (.getfield 207, 3) := by decide +kernel
theorem dX5_ofPiece_129 : decode cX5_ofPiece 129 = .ok (.ireturn, 1) := by decide +kernel
theorem dX5_ofPiece_130 : decode cX5_ofPiece 130 = .ok (.aload_n 3, 1) := by decide +kernel
theorem dX5_ofPiece_131 : decode cX5_ofPiece 131 = .ok (.getfield 198, 3) := by decide +kernel
theorem dX5_ofPiece_134 : decode cX5_ofPiece 134 = .ok (.getfield 229, 3) := by decide +kernel
theorem dX5_ofPiece_137 : decode cX5_ofPiece 137 = .ok (.ireturn, 1) := by decide +kernel
theorem dX5_ofPiece_138 : decode cX5_ofPiece 138 = .ok (.aload_n 3, 1) := by decide +kernel
theorem dX5_ofPiece_139 : decode cX5_ofPiece 139 = .ok (.getfield 198, 3) := by decide +kernel
theorem dX5_ofPiece_142 : decode cX5_ofPiece 142 = .ok (.getfield 267, 3) := by decide +kernel
theorem dX5_ofPiece_145 : decode cX5_ofPiece 145 = .ok (.ireturn, 1) := by decide +kernel
theorem dX5_ofPiece_146 : decode cX5_ofPiece 146 = .ok (.aload_n 3, 1) := by decide +kernel
theorem dX5_ofPiece_147 : decode cX5_ofPiece 147 = .ok (.getfield 204, 3) := by decide +kernel
theorem dX5_ofPiece_150 : decode cX5_ofPiece 150 = .ok (.ireturn, 1) := by decide +kernel
theorem dX5_ofPiece_151 : decode cX5_ofPiece 151 = .ok (.aload_n 3, 1) := by decide +kernel
theorem dX5_ofPiece_152 : decode cX5_ofPiece 152 = .ok (.getfield 239, 3) := by decide +kernel
theorem dX5_ofPiece_155 : decode cX5_ofPiece 155 = .ok (.ifnonnull 7, 3) := by decide +kernel
theorem dX5_ofPiece_158 : decode cX5_ofPiece 158 = .ok (.iconst (-1), 1) := by decide +kernel
theorem dX5_ofPiece_159 : decode cX5_ofPiece 159 = .ok (.goto 10, 3) := by decide +kernel
theorem dX5_ofPiece_162 : decode cX5_ofPiece 162 = .ok (.aload_n 3, 1) := by decide +kernel
theorem dX5_ofPiece_163 : decode cX5_ofPiece 163 = .ok (.getfield 239, 3) := by decide +kernel
theorem dX5_ofPiece_166 : decode cX5_ofPiece 166 = .ok (.getfield 270, 3) := by decide +kernel
theorem dX5_ofPiece_169 : decode cX5_ofPiece 169 = .ok (.ireturn, 1) := by decide +kernel
theorem dX5_ofPiece_170 : decode cX5_ofPiece 170 = .ok (.aload_n 3, 1) := by decide +kernel
theorem dX5_ofPiece_171 : decode cX5_ofPiece 171 = .ok (.getfield 271, 3) := by decide +kernel
theorem dX5_ofPiece_174 : decode cX5_ofPiece 174 = .ok (.ireturn, 1) := by decide +kernel
theorem dX5_ofPiece_175 : decode cX5_ofPiece 175 = .ok (.aload_n 3, 1) := by decide +kernel
theorem dX5_ofPiece_176 : decode cX5_ofPiece 176 = .ok (.getfield 274, 3) := by decide +kernel
theorem dX5_ofPiece_179 : decode cX5_ofPiece 179 = .ok (.ireturn, 1) := by decide +kernel
theorem dX5_ofPiece_180 : decode cX5_ofPiece 180 = .ok (.aload_n 3, 1) := by decide +kernel
theorem dX5_ofPiece_181 : decode cX5_ofPiece 181 = .ok (.getfield 277, 3) := by decide +kernel
theorem dX5_ofPiece_184 : decode cX5_ofPiece 184 = .ok (.ireturn, 1) := by decide +kernel
theorem dX5_ofPiece_185 : decode cX5_ofPiece 185 = .ok (.aload_n 3, 1) := by decide +kernel
theorem dX5_ofPiece_186 : decode cX5_ofPiece 186 = .ok (.getfield 278, 3) := by decide +kernel
theorem dX5_ofPiece_189 : decode cX5_ofPiece 189 = .ok (.ireturn, 1) := by decide +kernel
theorem dX5_ofPiece_190 : decode cX5_ofPiece 190 = .ok (.new 96, 3) := by decide +kernel
theorem dX5_ofPiece_193 : decode cX5_ofPiece 193 = .ok (.dup, 1) := by decide +kernel
theorem dX5_ofPiece_194 : decode cX5_ofPiece 194 = .ok (.ldc_w 281, 3) := by decide +kernel
theorem dX5_ofPiece_197 : decode cX5_ofPiece 197 = .ok (.invokespecial 100, 3) := by decide +kernel
theorem dX5_ofPiece_200 : decode cX5_ofPiece 200 = .ok (.athrow, 1) := by decide +kernel
theorem dX5_ofLayer_0 : decode cX5_ofLayer 0 = .ok (.aload_n 0, 1) := by decide +kernel
theorem dX5_ofLayer_1 : decode cX5_ofLayer 1 = .ok (.iload_n 1, 1) := by decide +kernel
theorem dX5_ofLayer_2 : decode cX5_ofLayer 2 = .ok (.invokevirtual 57, 3) := by decide +kernel
theorem dX5_ofLayer_5 : decode cX5_ofLayer 5 = .ok (.astore 4, 2) := by decide +kernel
theorem dX5_ofLayer_7 : decode cX5_ofLayer 7 = .ok (.iload_n 2, 1) := by decide +kernel
theorem dX5_ofLayer_8 : decode cX5_ofLayer 8 = .ok (.invokestatic 61, 3) := by decide +kernel
theorem dX5_ofLayer_11 : decode cX5_ofLayer 11 = .ok (.iload_n 3, 1) := by decide +kernel
theorem dX5_ofLayer_12 : decode cX5_ofLayer 12 = .ok (.tableswitch 61 0 2 #[28, 39, 50], 28) := by decide +kernel
theorem dX5_ofLayer_40 : decode cX5_ofLayer 40 = .ok (.aload 4, 2) := by decide +kernel
theorem dX5_ofLayer_42 : decode cX5_ofLayer 42 = .ok (.getfield 68, 3) := by decide +kernel
theorem dX5_ofLayer_45 : decode cX5_ofLayer 45 = .ok (.getfield 283, 3) := by decide +kernel
theorem dX5_ofLayer_48 : decode cX5_ofLayer 48 = .ok (.iload_n 2, 1) := by decide +kernel
theorem dX5_ofLayer_49 : decode cX5_ofLayer 49 = .ok (.laload, 1) := by decide +kernel
theorem dX5_ofLayer_50 : decode cX5_ofLayer 50 = .ok (.lreturn, 1) := by decide +kernel
theorem dX5_ofLayer_51 : decode cX5_ofLayer 51 = .ok (.aload 4, 2) := by decide +kernel
theorem dX5_ofLayer_53 : decode cX5_ofLayer 53 = .ok (.getfield 68, 3) := by decide +kernel
theorem dX5_ofLayer_56 : decode cX5_ofLayer 56 = .ok (.getfield 287, 3) := by decide +kernel
theorem dX5_ofLayer_59 : decode cX5_ofLayer 59 = .ok (.iload_n 2, 1) := by decide +kernel
theorem dX5_ofLayer_60 : decode cX5_ofLayer 60 = .ok (.laload, 1) := by decide +kernel
theorem dX5_ofLayer_61 : decode cX5_ofLayer 61 = .ok (.lreturn, 1) := by decide +kernel
theorem dX5_ofLayer_62 : decode cX5_ofLayer 62 = .ok (.aload 4, 2) := by decide +kernel
theorem dX5_ofLayer_64 : decode cX5_ofLayer 64 = .ok (.getfield 68, 3) := by decide +kernel
theorem dX5_ofLayer_67 : decode cX5_ofLayer 67 = .ok (.getfield 290, 3) := by decide +kernel
theorem dX5_ofLayer_70 : decode cX5_ofLayer 70 = .ok (.iload_n 2, 1) := by decide +kernel
theorem dX5_ofLayer_71 : decode cX5_ofLayer 71 = .ok (.laload, 1) := by decide +kernel
theorem dX5_ofLayer_72 : decode cX5_ofLayer 72 = .ok (.lreturn, 1) := by decide +kernel
theorem dX5_ofLayer_73 : decode cX5_ofLayer 73 = .ok (.new 96, 3) := by decide +kernel
theorem dX5_ofLayer_76 : decode cX5_ofLayer 76 = .ok (.dup, 1) := by decide +kernel
theorem dX5_ofLayer_77 : decode cX5_ofLayer 77 = .ok (.ldc_w 293, 3) := by decide +kernel
theorem dX5_ofLayer_80 : decode cX5_ofLayer 80 = .ok (.invokespecial 100, 3) := by decide +kernel
theorem dX5_ofLayer_83 : decode cX5_ofLayer 83 = .ok (.athrow, 1) := by decide +kernel
theorem dX5_ofPowder_0 : decode cX5_ofPowder 0 = .ok (.aload_n 0, 1) := by decide +kernel
theorem dX5_ofPowder_1 : decode cX5_ofPowder 1 = .ok (.iload_n 1, 1) := by decide +kernel
theorem dX5_ofPowder_2 : decode cX5_ofPowder 2 = .ok (.invokevirtual 117, 3) := by decide +kernel
theorem dX5_ofPowder_5 : decode cX5_ofPowder 5 = .ok (.astore_n 3, 1) := by decide +kernel
theorem dX5_ofPowder_6 : decode cX5_ofPowder 6 = .ok (.iload_n 2, 1) := by decide +kernel
theorem dX5_ofPowder_7 : decode cX5_ofPowder 7 = .ok (.tableswitch 58 0 4 #[33, 38, 43, 48, 53], 33) := by decide +kernel
theorem dX5_ofPowder_40 : decode cX5_ofPowder 40 = .ok (.aload_n 3, 1) := by decide +kernel
theorem dX5_ofPowder_41 : decode cX5_ofPowder 41 = .ok (.getfield 108, 3) := by decide +kernel
theorem dX5_ofPowder_44 : decode cX5_ofPowder 44 = .ok (.ireturn, 1) := by decide +kernel
theorem dX5_ofPowder_45 : decode cX5_ofPowder 45 = .ok (.aload_n 3, 1) := by decide +kernel
theorem dX5_ofPowder_46 : decode cX5_ofPowder 46 = .ok (.getfield 111, 3) := by decide +kernel
theorem dX5_ofPowder_49 : decode cX5_ofPowder 49 = .ok (.ireturn, 1) := by decide +kernel
theorem dX5_ofPowder_50 : decode cX5_ofPowder 50 = .ok (.aload_n 3, 1) := by decide +kernel
theorem dX5_ofPowder_51 : decode cX5_ofPowder 51 = .ok (.getfield 151, 3) := by decide +kernel
theorem dX5_ofPowder_54 : decode cX5_ofPowder 54 = .ok (.ireturn, 1) := by decide +kernel
theorem dX5_ofPowder_55 : decode cX5_ofPowder 55 = .ok (.aload_n 3, 1) := by decide +kernel
theorem dX5_ofPowder_56 : decode cX5_ofPowder 56 = .ok (.getfield 295, 3) := by decide +kernel
theorem dX5_ofPowder_59 : decode cX5_ofPowder 59 = .ok (.ireturn, 1) := by decide +kernel
theorem dX5_ofPowder_60 : decode cX5_ofPowder 60 = .ok (.aload_n 3, 1) := by decide +kernel
theorem dX5_ofPowder_61 : decode cX5_ofPowder 61 = .ok (.getfield 125, 3) := by decide +kernel
theorem dX5_ofPowder_64 : decode cX5_ofPowder 64 = .ok (.ireturn, 1) := by decide +kernel
theorem dX5_ofPowder_65 : decode cX5_ofPowder 65 = .ok (.new 96, 3) := by decide +kernel
theorem dX5_ofPowder_68 : decode cX5_ofPowder 68 = .ok (.dup, 1) := by decide +kernel
theorem dX5_ofPowder_69 : decode cX5_ofPowder 69 = .ok (.ldc_w 296, 3) := by decide +kernel
theorem dX5_ofPowder_72 : decode cX5_ofPowder 72 = .ok (.invokespecial 100, 3) := by decide +kernel
theorem dX5_ofPowder_75 : decode cX5_ofPowder 75 = .ok (.athrow, 1) := by decide +kernel
theorem dX5_ofMachine_0 : decode cX5_ofMachine 0 = .ok (.aload_n 0, 1) := by decide +kernel
theorem dX5_ofMachine_1 : decode cX5_ofMachine 1 = .ok (.iload_n 1, 1) := by decide +kernel
theorem dX5_ofMachine_2 : decode cX5_ofMachine 2 = .ok (.invokevirtual 134, 3) := by decide +kernel
theorem dX5_ofMachine_5 : decode cX5_ofMachine 5 = .ok (.astore_n 3, 1) := by decide +kernel
theorem dX5_ofMachine_6 : decode cX5_ofMachine 6 = .ok (.iload_n 2, 1) := by decide +kernel
theorem dX5_ofMachine_7 : decode cX5_ofMachine 7 = .ok (.tableswitch 86 0 4 #[33, 38, 57, 62, 81], 33) := by decide +kernel
theorem dX5_ofMachine_40 : decode cX5_ofMachine 40 = .ok (.aload_n 3, 1) := by decide +kernel
theorem dX5_ofMachine_41 : decode cX5_ofMachine 41 = .ok (.getfield 148, 3) := by decide +kernel
theorem dX5_ofMachine_44 : decode cX5_ofMachine 44 = .ok (.ireturn, 1) := by decide +kernel
theorem dX5_ofMachine_45 : decode cX5_ofMachine 45 = .ok (.aload_n 3, 1) := by decide +kernel
theorem dX5_ofMachine_46 : decode cX5_ofMachine 46 = .ok (.getfield 138, 3) := by decide +kernel
theorem dX5_ofMachine_49 : decode cX5_ofMachine 49 = .ok (.ifnonnull 7, 3) := by decide +kernel
theorem dX5_ofMachine_52 : decode cX5_ofMachine 52 = .ok (.iconst (-1), 1) := by decide +kernel
theorem dX5_ofMachine_53 : decode cX5_ofMachine 53 = .ok (.goto 10, 3) := by decide +kernel
theorem dX5_ofMachine_56 : decode cX5_ofMachine 56 = .ok (.aload_n 3, 1) := by decide +kernel
theorem dX5_ofMachine_57 : decode cX5_ofMachine 57 = .ok (.getfield 138, 3) := by decide +kernel
theorem dX5_ofMachine_60 : decode cX5_ofMachine 60 = .ok (.getfield 114, 3) := by decide +kernel
theorem dX5_ofMachine_63 : decode cX5_ofMachine 63 = .ok (.ireturn, 1) := by decide +kernel
theorem dX5_ofMachine_64 : decode cX5_ofMachine 64 = .ok (.aload_n 3, 1) := by decide +kernel
theorem dX5_ofMachine_65 : decode cX5_ofMachine 65 = .ok (.getfield 157, 3) := by decide +kernel
theorem dX5_ofMachine_68 : decode cX5_ofMachine 68 = .ok (.ireturn, 1) := by decide +kernel
theorem dX5_ofMachine_69 : decode cX5_ofMachine 69 = .ok (.aload_n 3, 1) := by decide +kernel
theorem dX5_ofMachine_70 : decode cX5_ofMachine 70 = .ok (.getfield 162, 3) := by decide +kernel
theorem dX5_ofMachine_73 : decode cX5_ofMachine 73 = .ok (.ifnonnull 7, 3) := by decide +kernel
theorem dX5_ofMachine_76 : decode cX5_ofMachine 76 = .ok (.iconst (-1), 1) := by decide +kernel
theorem dX5_ofMachine_77 : decode cX5_ofMachine 77 = .ok (.goto 10, 3) := by decide +kernel
theorem dX5_ofMachine_80 : decode cX5_ofMachine 80 = .ok (.aload_n 3, 1) := by decide +kernel
theorem dX5_ofMachine_81 : decode cX5_ofMachine 81 = .ok (.getfield 162, 3) := by decide +kernel
theorem dX5_ofMachine_84 : decode cX5_ofMachine 84 = .ok (.getfield 298, 3) := by decide +kernel
theorem dX5_ofMachine_87 : decode cX5_ofMachine 87 = .ok (.ireturn, 1) := by decide +kernel
theorem dX5_ofMachine_88 : decode cX5_ofMachine 88 = .ok (.aload_n 3, 1) := by decide +kernel
theorem dX5_ofMachine_89 : decode cX5_ofMachine 89 = .ok (.getfield 174, 3) := by decide +kernel
theorem dX5_ofMachine_92 : decode cX5_ofMachine 92 = .ok (.ireturn, 1) := by decide +kernel
theorem dX5_ofMachine_93 : decode cX5_ofMachine 93 = .ok (.new 96, 3) := by decide +kernel
theorem dX5_ofMachine_96 : decode cX5_ofMachine 96 = .ok (.dup, 1) := by decide +kernel
theorem dX5_ofMachine_97 : decode cX5_ofMachine 97 = .ok (.ldc_w 296, 3) := by decide +kernel
theorem dX5_ofMachine_100 : decode cX5_ofMachine 100 = .ok (.invokespecial 100, 3) := by decide +kernel
theorem dX5_ofMachine_103 : decode cX5_ofMachine 103 = .ok (.athrow, 1) := by decide +kernel
theorem dX5_measure_0 : decode cX5_measure 0 = .ok (.aload_n 0, 1) := by decide +kernel
theorem dX5_measure_1 : decode cX5_measure 1 = .ok (.iload_n 1, 1) := by decide +kernel
theorem dX5_measure_2 : decode cX5_measure 2 = .ok (.invokevirtual 57, 3) := by decide +kernel
theorem dX5_measure_5 : decode cX5_measure 5 = .ok (.astore_n 3, 1) := by decide +kernel
theorem dX5_measure_6 : decode cX5_measure 6 = .ok (.iload_n 2, 1) := by decide +kernel
theorem dX5_measure_7 : decode cX5_measure 7 = .ok (.lookupswitch 35 #[(0, 25), (1, 30)], 25) := by decide +kernel
theorem dX5_measure_32 : decode cX5_measure 32 = .ok (.aload_n 3, 1) := by decide +kernel
theorem dX5_measure_33 : decode cX5_measure 33 = .ok (.invokevirtual 308, 3) := by decide +kernel
theorem dX5_measure_36 : decode cX5_measure 36 = .ok (.dreturn, 1) := by decide +kernel
theorem dX5_measure_37 : decode cX5_measure 37 = .ok (.aload_n 3, 1) := by decide +kernel
theorem dX5_measure_38 : decode cX5_measure 38 = .ok (.getfield 312, 3) := by decide +kernel
theorem dX5_measure_41 : decode cX5_measure 41 = .ok (.dreturn, 1) := by decide +kernel
theorem dX5_measure_42 : decode cX5_measure 42 = .ok (.new 96, 3) := by decide +kernel
theorem dX5_measure_45 : decode cX5_measure 45 = .ok (.dup, 1) := by decide +kernel
theorem dX5_measure_46 : decode cX5_measure 46 = .ok (.ldc_w 316, 3) := by decide +kernel
theorem dX5_measure_49 : decode cX5_measure 49 = .ok (.invokespecial 100, 3) := by decide +kernel
theorem dX5_measure_52 : decode cX5_measure 52 = .ok (.athrow, 1) := by decide +kernel
theorem dX5_recall_0 : decode cX5_recall 0 = .ok (.aload_n 0, 1) := by decide +kernel
theorem dX5_recall_1 : decode cX5_recall 1 = .ok (.iload_n 1, 1) := by decide +kernel
theorem dX5_recall_2 : decode cX5_recall 2 = .ok (.invokevirtual 117, 3) := by decide +kernel
theorem dX5_recall_5 : decode cX5_recall 5 = .ok (.astore_n 2, 1) := by decide +kernel
theorem dX5_recall_6 : decode cX5_recall 6 = .ok (.iconst 0, 1) := by decide +kernel
theorem dX5_recall_7 : decode cX5_recall 7 = .ok (.istore_n 3, 1) := by decide +kernel
theorem dX5_recall_8 : decode cX5_recall 8 = .ok (.iconst 0, 1) := by decide +kernel
theorem dX5_recall_9 : decode cX5_recall 9 = .ok (.istore 4, 2) := by decide +kernel
theorem dX5_recall_11 : decode cX5_recall 11 = .ok (.iload 4, 2) := by decide +kernel
theorem dX5_recall_13 : decode cX5_recall 13 = .ok (.aload_n 0, 1) := by decide +kernel
theorem dX5_recall_14 : decode cX5_recall 14 = .ok (.getfield 46, 3) := by decide +kernel
theorem dX5_recall_17 : decode cX5_recall 17 = .ok (.if_icmp .ge 49, 3) := by decide +kernel
theorem dX5_recall_20 : decode cX5_recall 20 = .ok (.aload_n 0, 1) := by decide +kernel
theorem dX5_recall_21 : decode cX5_recall 21 = .ok (.getfield 11, 3) := by decide +kernel
theorem dX5_recall_24 : decode cX5_recall 24 = .ok (.iload 4, 2) := by decide +kernel
theorem dX5_recall_26 : decode cX5_recall 26 = .ok (.aaload, 1) := by decide +kernel
theorem dX5_recall_27 : decode cX5_recall 27 = .ok (.getfield 239, 3) := by decide +kernel
theorem dX5_recall_30 : decode cX5_recall 30 = .ok (.ifnull 30, 3) := by decide +kernel
theorem dX5_recall_33 : decode cX5_recall 33 = .ok (.aload_n 0, 1) := by decide +kernel
theorem dX5_recall_34 : decode cX5_recall 34 = .ok (.getfield 11, 3) := by decide +kernel
theorem dX5_recall_37 : decode cX5_recall 37 = .ok (.iload 4, 2) := by decide +kernel
theorem dX5_recall_39 : decode cX5_recall 39 = .ok (.aaload, 1) := by decide +kernel
theorem dX5_recall_40 : decode cX5_recall 40 = .ok (.getfield 278, 3) := by decide +kernel
theorem dX5_recall_43 : decode cX5_recall 43 = .ok (.iconst 1, 1) := by decide +kernel
theorem dX5_recall_44 : decode cX5_recall 44 = .ok (.aload_n 2, 1) := by decide +kernel
theorem dX5_recall_45 : decode cX5_recall 45 = .ok (.getfield 114, 3) := by decide +kernel
theorem dX5_recall_48 : decode cX5_recall 48 = .ok (.ishl, 1) := by decide +kernel
theorem dX5_recall_49 : decode cX5_recall 49 = .ok (.iand, 1) := by decide +kernel
theorem dX5_recall_50 : decode cX5_recall 50 = .ok (.ifCond .eq 10, 3) := by decide +kernel
theorem dX5_recall_53 : decode cX5_recall 53 = .ok (.iload_n 3, 1) := by decide +kernel
theorem dX5_recall_54 : decode cX5_recall 54 = .ok (.iconst 1, 1) := by decide +kernel
theorem dX5_recall_55 : decode cX5_recall 55 = .ok (.iload 4, 2) := by decide +kernel
theorem dX5_recall_57 : decode cX5_recall 57 = .ok (.ishl, 1) := by decide +kernel
theorem dX5_recall_58 : decode cX5_recall 58 = .ok (.ior, 1) := by decide +kernel
theorem dX5_recall_59 : decode cX5_recall 59 = .ok (.istore_n 3, 1) := by decide +kernel
theorem dX5_recall_60 : decode cX5_recall 60 = .ok (.iinc 4 1, 3) := by decide +kernel
theorem dX5_recall_63 : decode cX5_recall 63 = .ok (.goto (-52), 3) := by decide +kernel
theorem dX5_recall_66 : decode cX5_recall 66 = .ok (.iload_n 3, 1) := by decide +kernel
theorem dX5_recall_67 : decode cX5_recall 67 = .ok (.ireturn, 1) := by decide +kernel
theorem dX5_many_0 : decode cX5_many 0 = .ok (.iload_n 1, 1) := by decide +kernel
theorem dX5_many_1 : decode cX5_many 1 = .ok (.tableswitch 90 0 7 #[47, 52, 57, 62, 68, 75, 80, 85], 47) := by decide +kernel
theorem dX5_many_48 : decode cX5_many 48 = .ok (.aload_n 0, 1) := by decide +kernel
theorem dX5_many_49 : decode cX5_many 49 = .ok (.getfield 46, 3) := by decide +kernel
theorem dX5_many_52 : decode cX5_many 52 = .ok (.ireturn, 1) := by decide +kernel
theorem dX5_many_53 : decode cX5_many 53 = .ok (.aload_n 0, 1) := by decide +kernel
theorem dX5_many_54 : decode cX5_many 54 = .ok (.getfield 103, 3) := by decide +kernel
theorem dX5_many_57 : decode cX5_many 57 = .ok (.ireturn, 1) := by decide +kernel
theorem dX5_many_58 : decode cX5_many 58 = .ok (.aload_n 0, 1) := by decide +kernel
theorem dX5_many_59 : decode cX5_many 59 = .ok (.invokevirtual 318, 3) := by decide +kernel
theorem dX5_many_62 : decode cX5_many 62 = .ok (.ireturn, 1) := by decide +kernel
theorem dX5_many_63 : decode cX5_many 63 = .ok (.aload_n 0, 1) := by decide +kernel
theorem dX5_many_64 : decode cX5_many 64 = .ok (.iconst 5, 1) := by decide +kernel
theorem dX5_many_65 : decode cX5_many 65 = .ok (.invokevirtual 321, 3) := by decide +kernel
theorem dX5_many_68 : decode cX5_many 68 = .ok (.ireturn, 1) := by decide +kernel
theorem dX5_many_69 : decode cX5_many 69 = .ok (.aload_n 0, 1) := by decide +kernel
theorem dX5_many_70 : decode cX5_many 70 = .ok (.bipush 6, 2) := by decide +kernel
theorem dX5_many_72 : decode cX5_many 72 = .ok (.invokevirtual 321, 3) := by decide +kernel
theorem dX5_many_75 : decode cX5_many 75 = .ok (.ireturn, 1) := by decide +kernel
theorem dX5_many_76 : decode cX5_many 76 = .ok (.aload_n 0, 1) := by decide +kernel
theorem dX5_many_77 : decode cX5_many 77 = .ok (.invokevirtual 324, 3) := by decide +kernel
theorem dX5_many_80 : decode cX5_many 80 = .ok (.ireturn, 1) := by decide +kernel
theorem dX5_many_81 : decode cX5_many 81 = .ok (.aload_n 0, 1) := by decide +kernel
theorem dX5_many_82 : decode cX5_many 82 = .ok (.getfield 224, 3) := by decide +kernel
theorem dX5_many_85 : decode cX5_many 85 = .ok (.ireturn, 1) := by decide +kernel
theorem dX5_many_86 : decode cX5_many 86 = .ok (.aload_n 0, 1) := by decide +kernel
theorem dX5_many_87 : decode cX5_many 87 = .ok (.getfield 217, 3) := by decide +kernel
theorem dX5_many_90 : decode cX5_many 90 = .ok (.ireturn, 1) := by decide +kernel
theorem dX5_many_91 : decode cX5_many 91 = .ok (.new 96, 3) := by decide +kernel
theorem dX5_many_94 : decode cX5_many 94 = .ok (.dup, 1) := by decide +kernel
theorem dX5_many_95 : decode cX5_many 95 = .ok (.ldc_w 327, 3) := by decide +kernel
theorem dX5_many_98 : decode cX5_many 98 = .ok (.invokespecial 100, 3) := by decide +kernel
theorem dX5_many_101 : decode cX5_many 101 = .ok (.athrow, 1) := by decide +kernel
theorem dX5_proofsOfAll_0 : decode cX5_proofsOfAll 0 = .ok (.iconst 0, 1) := by decide +kernel
theorem dX5_proofsOfAll_1 : decode cX5_proofsOfAll 1 = .ok (.istore_n 1, 1) := by decide +kernel
theorem dX5_proofsOfAll_2 : decode cX5_proofsOfAll 2 = .ok (.iconst 0, 1) := by decide +kernel
theorem dX5_proofsOfAll_3 : decode cX5_proofsOfAll 3 = .ok (.istore_n 2, 1) := by decide +kernel
theorem dX5_proofsOfAll_4 : decode cX5_proofsOfAll 4 = .ok (.iload_n 2, 1) := by decide +kernel
theorem dX5_proofsOfAll_5 : decode cX5_proofsOfAll 5 = .ok (.iconst 2, 1) := by decide +kernel
theorem dX5_proofsOfAll_6 : decode cX5_proofsOfAll 6 = .ok (.if_icmp .ge 21, 3) := by decide +kernel
theorem dX5_proofsOfAll_9 : decode cX5_proofsOfAll 9 = .ok (.iload_n 1, 1) := by decide +kernel
theorem dX5_proofsOfAll_10 : decode cX5_proofsOfAll 10 = .ok (.aload_n 0, 1) := by decide +kernel
theorem dX5_proofsOfAll_11 : decode cX5_proofsOfAll 11 = .ok (.getfield 23, 3) := by decide +kernel
theorem dX5_proofsOfAll_14 : decode cX5_proofsOfAll 14 = .ok (.iload_n 2, 1) := by decide +kernel
theorem dX5_proofsOfAll_15 : decode cX5_proofsOfAll 15 = .ok (.aaload, 1) := by decide +kernel
theorem dX5_proofsOfAll_16 : decode cX5_proofsOfAll 16 = .ok (.getfield 174, 3) := by decide +kernel
theorem dX5_proofsOfAll_19 : decode cX5_proofsOfAll 19 = .ok (.iadd, 1) := by decide +kernel
theorem dX5_proofsOfAll_20 : decode cX5_proofsOfAll 20 = .ok (.istore_n 1, 1) := by decide +kernel
theorem dX5_proofsOfAll_21 : decode cX5_proofsOfAll 21 = .ok (.iinc 2 1, 3) := by decide +kernel
theorem dX5_proofsOfAll_24 : decode cX5_proofsOfAll 24 = .ok (.goto (-20), 3) := by decide +kernel
theorem dX5_proofsOfAll_27 : decode cX5_proofsOfAll 27 = .ok (.iload_n 1, 1) := by decide +kernel
theorem dX5_proofsOfAll_28 : decode cX5_proofsOfAll 28 = .ok (.ireturn, 1) := by decide +kernel
theorem dX5_piecesThatAre_0 : decode cX5_piecesThatAre 0 = .ok (.iconst 0, 1) := by decide +kernel
theorem dX5_piecesThatAre_1 : decode cX5_piecesThatAre 1 = .ok (.istore_n 2, 1) := by decide +kernel
theorem dX5_piecesThatAre_2 : decode cX5_piecesThatAre 2 = .ok (.iconst 0, 1) := by decide +kernel
theorem dX5_piecesThatAre_3 : decode cX5_piecesThatAre 3 = .ok (.istore_n 3, 1) := by decide +kernel
theorem dX5_piecesThatAre_4 : decode cX5_piecesThatAre 4 = .ok (.iload_n 3, 1) := by decide +kernel
theorem dX5_piecesThatAre_5 : decode cX5_piecesThatAre 5 = .ok (.aload_n 0, 1) := by decide +kernel
theorem dX5_piecesThatAre_6 : decode cX5_piecesThatAre 6 = .ok (.getfield 46, 3) := by decide +kernel
theorem dX5_piecesThatAre_9 : decode cX5_piecesThatAre 9 = .ok (.if_icmp .ge 25, 3) := by decide +kernel
theorem dX5_piecesThatAre_12 : decode cX5_piecesThatAre 12 = .ok (.aload_n 0, 1) := by decide +kernel
theorem dX5_piecesThatAre_13 : decode cX5_piecesThatAre 13 = .ok (.getfield 11, 3) := by decide +kernel
theorem dX5_piecesThatAre_16 : decode cX5_piecesThatAre 16 = .ok (.iload_n 3, 1) := by decide +kernel
theorem dX5_piecesThatAre_17 : decode cX5_piecesThatAre 17 = .ok (.aaload, 1) := by decide +kernel
theorem dX5_piecesThatAre_18 : decode cX5_piecesThatAre 18 = .ok (.getfield 171, 3) := by decide +kernel
theorem dX5_piecesThatAre_21 : decode cX5_piecesThatAre 21 = .ok (.iload_n 1, 1) := by decide +kernel
theorem dX5_piecesThatAre_22 : decode cX5_piecesThatAre 22 = .ok (.if_icmp .ne 6, 3) := by decide +kernel
theorem dX5_piecesThatAre_25 : decode cX5_piecesThatAre 25 = .ok (.iinc 2 1, 3) := by decide +kernel
theorem dX5_piecesThatAre_28 : decode cX5_piecesThatAre 28 = .ok (.iinc 3 1, 3) := by decide +kernel
theorem dX5_piecesThatAre_31 : decode cX5_piecesThatAre 31 = .ok (.goto (-27), 3) := by decide +kernel
theorem dX5_piecesThatAre_34 : decode cX5_piecesThatAre 34 = .ok (.iload_n 2, 1) := by decide +kernel
theorem dX5_piecesThatAre_35 : decode cX5_piecesThatAre 35 = .ok (.ireturn, 1) := by decide +kernel
theorem dX5_gramsOfAll_0 : decode cX5_gramsOfAll 0 = .ok (.iconst 0, 1) := by decide +kernel
theorem dX5_gramsOfAll_1 : decode cX5_gramsOfAll 1 = .ok (.istore_n 1, 1) := by decide +kernel
theorem dX5_gramsOfAll_2 : decode cX5_gramsOfAll 2 = .ok (.iconst 0, 1) := by decide +kernel
theorem dX5_gramsOfAll_3 : decode cX5_gramsOfAll 3 = .ok (.istore_n 2, 1) := by decide +kernel
theorem dX5_gramsOfAll_4 : decode cX5_gramsOfAll 4 = .ok (.iload_n 2, 1) := by decide +kernel
theorem dX5_gramsOfAll_5 : decode cX5_gramsOfAll 5 = .ok (.aload_n 0, 1) := by decide +kernel
theorem dX5_gramsOfAll_6 : decode cX5_gramsOfAll 6 = .ok (.getfield 103, 3) := by decide +kernel
theorem dX5_gramsOfAll_9 : decode cX5_gramsOfAll 9 = .ok (.if_icmp .ge 21, 3) := by decide +kernel
theorem dX5_gramsOfAll_12 : decode cX5_gramsOfAll 12 = .ok (.iload_n 1, 1) := by decide +kernel
theorem dX5_gramsOfAll_13 : decode cX5_gramsOfAll 13 = .ok (.aload_n 0, 1) := by decide +kernel
theorem dX5_gramsOfAll_14 : decode cX5_gramsOfAll 14 = .ok (.getfield 17, 3) := by decide +kernel
theorem dX5_gramsOfAll_17 : decode cX5_gramsOfAll 17 = .ok (.iload_n 2, 1) := by decide +kernel
theorem dX5_gramsOfAll_18 : decode cX5_gramsOfAll 18 = .ok (.aaload, 1) := by decide +kernel
theorem dX5_gramsOfAll_19 : decode cX5_gramsOfAll 19 = .ok (.getfield 111, 3) := by decide +kernel
theorem dX5_gramsOfAll_22 : decode cX5_gramsOfAll 22 = .ok (.iadd, 1) := by decide +kernel
theorem dX5_gramsOfAll_23 : decode cX5_gramsOfAll 23 = .ok (.istore_n 1, 1) := by decide +kernel
theorem dX5_gramsOfAll_24 : decode cX5_gramsOfAll 24 = .ok (.iinc 2 1, 3) := by decide +kernel
theorem dX5_gramsOfAll_27 : decode cX5_gramsOfAll 27 = .ok (.goto (-23), 3) := by decide +kernel
theorem dX5_gramsOfAll_30 : decode cX5_gramsOfAll 30 = .ok (.iconst 0, 1) := by decide +kernel
theorem dX5_gramsOfAll_31 : decode cX5_gramsOfAll 31 = .ok (.istore_n 2, 1) := by decide +kernel
theorem dX5_gramsOfAll_32 : decode cX5_gramsOfAll 32 = .ok (.iload_n 2, 1) := by decide +kernel
theorem dX5_gramsOfAll_33 : decode cX5_gramsOfAll 33 = .ok (.iconst 2, 1) := by decide +kernel
theorem dX5_gramsOfAll_34 : decode cX5_gramsOfAll 34 = .ok (.if_icmp .ge 21, 3) := by decide +kernel
theorem dX5_gramsOfAll_37 : decode cX5_gramsOfAll 37 = .ok (.iload_n 1, 1) := by decide +kernel
theorem dX5_gramsOfAll_38 : decode cX5_gramsOfAll 38 = .ok (.aload_n 0, 1) := by decide +kernel
theorem dX5_gramsOfAll_39 : decode cX5_gramsOfAll 39 = .ok (.getfield 23, 3) := by decide +kernel
theorem dX5_gramsOfAll_42 : decode cX5_gramsOfAll 42 = .ok (.iload_n 2, 1) := by decide +kernel
theorem dX5_gramsOfAll_43 : decode cX5_gramsOfAll 43 = .ok (.aaload, 1) := by decide +kernel
theorem dX5_gramsOfAll_44 : decode cX5_gramsOfAll 44 = .ok (.getfield 157, 3) := by decide +kernel
theorem dX5_gramsOfAll_47 : decode cX5_gramsOfAll 47 = .ok (.iadd, 1) := by decide +kernel
theorem dX5_gramsOfAll_48 : decode cX5_gramsOfAll 48 = .ok (.istore_n 1, 1) := by decide +kernel
theorem dX5_gramsOfAll_49 : decode cX5_gramsOfAll 49 = .ok (.iinc 2 1, 3) := by decide +kernel
theorem dX5_gramsOfAll_52 : decode cX5_gramsOfAll 52 = .ok (.goto (-20), 3) := by decide +kernel
theorem dX5_gramsOfAll_55 : decode cX5_gramsOfAll 55 = .ok (.iload_n 1, 1) := by decide +kernel
theorem dX5_gramsOfAll_56 : decode cX5_gramsOfAll 56 = .ok (.ireturn, 1) := by decide +kernel
theorem dX5_wouldHold_0 : decode cX5_wouldHold 0 = .ok (.aload_n 0, 1) := by decide +kernel
theorem dX5_wouldHold_1 : decode cX5_wouldHold 1 = .ok (.iload_n 1, 1) := by decide +kernel
theorem dX5_wouldHold_2 : decode cX5_wouldHold 2 = .ok (.invokevirtual 57, 3) := by decide +kernel
theorem dX5_wouldHold_5 : decode cX5_wouldHold 5 = .ok (.astore_n 3, 1) := by decide +kernel
theorem dX5_wouldHold_6 : decode cX5_wouldHold 6 = .ok (.iload_n 2, 1) := by decide +kernel
theorem dX5_wouldHold_7 : decode cX5_wouldHold 7 = .ok (.invokestatic 81, 3) := by decide +kernel
theorem dX5_wouldHold_10 : decode cX5_wouldHold 10 = .ok (.aload_n 0, 1) := by decide +kernel
theorem dX5_wouldHold_11 : decode cX5_wouldHold 11 = .ok (.getfield 30, 3) := by decide +kernel
theorem dX5_wouldHold_14 : decode cX5_wouldHold 14 = .ok (.aload_n 3, 1) := by decide +kernel
theorem dX5_wouldHold_15 : decode cX5_wouldHold 15 = .ok (.getfield 68, 3) := by decide +kernel
theorem dX5_wouldHold_18 : decode cX5_wouldHold 18 = .ok (.iload_n 2, 1) := by decide +kernel
theorem dX5_wouldHold_19 : decode cX5_wouldHold 19 = .ok (.invokevirtual 84, 3) := by decide +kernel
theorem dX5_wouldHold_22 : decode cX5_wouldHold 22 = .ok (.aload_n 0, 1) := by decide +kernel
theorem dX5_wouldHold_23 : decode cX5_wouldHold 23 = .ok (.getfield 30, 3) := by decide +kernel
theorem dX5_wouldHold_26 : decode cX5_wouldHold 26 = .ok (.invokevirtual 264, 3) := by decide +kernel
theorem dX5_wouldHold_29 : decode cX5_wouldHold 29 = .ok (.ireturn, 1) := by decide +kernel
theorem dX5_bestWay_0 : decode cX5_bestWay 0 = .ok (.aload_n 0, 1) := by decide +kernel
theorem dX5_bestWay_1 : decode cX5_bestWay 1 = .ok (.iload_n 1, 1) := by decide +kernel
theorem dX5_bestWay_2 : decode cX5_bestWay 2 = .ok (.invokevirtual 57, 3) := by decide +kernel
theorem dX5_bestWay_5 : decode cX5_bestWay 5 = .ok (.astore_n 2, 1) := by decide +kernel
theorem dX5_bestWay_6 : decode cX5_bestWay 6 = .ok (.iconst 0, 1) := by decide +kernel
theorem dX5_bestWay_7 : decode cX5_bestWay 7 = .ok (.istore_n 3, 1) := by decide +kernel
theorem dX5_bestWay_8 : decode cX5_bestWay 8 = .ok (.iconst 0, 1) := by decide +kernel
theorem dX5_bestWay_9 : decode cX5_bestWay 9 = .ok (.istore 4, 2) := by decide +kernel
theorem dX5_bestWay_11 : decode cX5_bestWay 11 = .ok (.iconst 0, 1) := by decide +kernel
theorem dX5_bestWay_12 : decode cX5_bestWay 12 = .ok (.istore 5, 2) := by decide +kernel
theorem dX5_bestWay_14 : decode cX5_bestWay 14 = .ok (.iconst 0, 1) := by decide +kernel
theorem dX5_bestWay_15 : decode cX5_bestWay 15 = .ok (.istore 6, 2) := by decide +kernel
theorem dX5_bestWay_17 : decode cX5_bestWay 17 = .ok (.iload 6, 2) := by decide +kernel
theorem dX5_bestWay_19 : decode cX5_bestWay 19 = .ok (.bipush 6, 2) := by decide +kernel
theorem dX5_bestWay_21 : decode cX5_bestWay 21 = .ok (.if_icmp .ge 77, 3) := by decide +kernel
theorem dX5_bestWay_24 : decode cX5_bestWay 24 = .ok (.aload_n 0, 1) := by decide +kernel
theorem dX5_bestWay_25 : decode cX5_bestWay 25 = .ok (.getfield 30, 3) := by decide +kernel
theorem dX5_bestWay_28 : decode cX5_bestWay 28 = .ok (.aload_n 2, 1) := by decide +kernel
theorem dX5_bestWay_29 : decode cX5_bestWay 29 = .ok (.getfield 68, 3) := by decide +kernel
theorem dX5_bestWay_32 : decode cX5_bestWay 32 = .ok (.iload 6, 2) := by decide +kernel
theorem dX5_bestWay_34 : decode cX5_bestWay 34 = .ok (.invokevirtual 84, 3) := by decide +kernel
theorem dX5_bestWay_37 : decode cX5_bestWay 37 = .ok (.aload_n 0, 1) := by decide +kernel
theorem dX5_bestWay_38 : decode cX5_bestWay 38 = .ok (.getfield 30, 3) := by decide +kernel
theorem dX5_bestWay_41 : decode cX5_bestWay 41 = .ok (.invokevirtual 264, 3) := by decide +kernel
theorem dX5_bestWay_44 : decode cX5_bestWay 44 = .ok (.istore 7, 2) := by decide +kernel
theorem dX5_bestWay_46 : decode cX5_bestWay 46 = .ok (.aload_n 0, 1) := by decide +kernel
theorem dX5_bestWay_47 : decode cX5_bestWay 47 = .ok (.getfield 30, 3) := by decide +kernel
theorem dX5_bestWay_50 : decode cX5_bestWay 50 = .ok (.invokevirtual 92, 3) := by decide +kernel
theorem dX5_bestWay_53 : decode cX5_bestWay 53 = .ok (.istore 8, 2) := by decide +kernel
theorem dX5_bestWay_55 : decode cX5_bestWay 55 = .ok (.iload 6, 2) := by decide +kernel
theorem dX5_bestWay_57 : decode cX5_bestWay 57 = .ok (.ifCond .eq 24, 3) := by decide +kernel
theorem dX5_bestWay_60 : decode cX5_bestWay 60 = .ok (.iload 7, 2) := by decide +kernel
theorem dX5_bestWay_62 : decode cX5_bestWay 62 = .ok (.iload 4, 2) := by decide +kernel
theorem dX5_bestWay_64 : decode cX5_bestWay 64 = .ok (.if_icmp .lt 17, 3) := by decide +kernel
theorem dX5_bestWay_67 : decode cX5_bestWay 67 = .ok (.iload 7, 2) := by decide +kernel
theorem dX5_bestWay_69 : decode cX5_bestWay 69 = .ok (.iload 4, 2) := by decide +kernel
theorem dX5_bestWay_71 : decode cX5_bestWay 71 = .ok (.if_icmp .ne 21, 3) := by decide +kernel
theorem dX5_bestWay_74 : decode cX5_bestWay 74 = .ok (.iload 8, 2) := by decide +kernel
theorem dX5_bestWay_76 : decode cX5_bestWay 76 = .ok (.iload 5, 2) := by decide +kernel
theorem dX5_bestWay_78 : decode cX5_bestWay 78 = .ok (.if_icmp .ge 14, 3) := by decide +kernel
theorem dX5_bestWay_81 : decode cX5_bestWay 81 = .ok (.iload 6, 2) := by decide +kernel
theorem dX5_bestWay_83 : decode cX5_bestWay 83 = .ok (.istore_n 3, 1) := by decide +kernel
theorem dX5_bestWay_84 : decode cX5_bestWay 84 = .ok (.iload 7, 2) := by decide +kernel
theorem dX5_bestWay_86 : decode cX5_bestWay 86 = .ok (.istore 4, 2) := by decide +kernel
theorem dX5_bestWay_88 : decode cX5_bestWay 88 = .ok (.iload 8, 2) := by decide +kernel
theorem dX5_bestWay_90 : decode cX5_bestWay 90 = .ok (.istore 5, 2) := by decide +kernel
theorem dX5_bestWay_92 : decode cX5_bestWay 92 = .ok (.iinc 6 1, 3) := by decide +kernel
theorem dX5_bestWay_95 : decode cX5_bestWay 95 = .ok (.goto (-78), 3) := by decide +kernel
theorem dX5_bestWay_98 : decode cX5_bestWay 98 = .ok (.iload_n 3, 1) := by decide +kernel
theorem dX5_bestWay_99 : decode cX5_bestWay 99 = .ok (.ireturn, 1) := by decide +kernel
theorem dX5_bestSpeed_0 : decode cX5_bestSpeed 0 = .ok (.aload_n 0, 1) := by decide +kernel
theorem dX5_bestSpeed_1 : decode cX5_bestSpeed 1 = .ok (.iload_n 1, 1) := by decide +kernel
theorem dX5_bestSpeed_2 : decode cX5_bestSpeed 2 = .ok (.invokevirtual 57, 3) := by decide +kernel
theorem dX5_bestSpeed_5 : decode cX5_bestSpeed 5 = .ok (.astore_n 3, 1) := by decide +kernel
theorem dX5_bestSpeed_6 : decode cX5_bestSpeed 6 = .ok (.iload_n 2, 1) := by decide +kernel
theorem dX5_bestSpeed_7 : decode cX5_bestSpeed 7 = .ok (.invokestatic 177, 3) := by decide +kernel
theorem dX5_bestSpeed_10 : decode cX5_bestSpeed 10 = .ok (.iconst 1, 1) := by decide +kernel
theorem dX5_bestSpeed_11 : decode cX5_bestSpeed 11 = .ok (.istore 4, 2) := by decide +kernel
theorem dX5_bestSpeed_13 : decode cX5_bestSpeed 13 = .ok (.iconst 0, 1) := by decide +kernel
theorem dX5_bestSpeed_14 : decode cX5_bestSpeed 14 = .ok (.istore 5, 2) := by decide +kernel
theorem dX5_bestSpeed_16 : decode cX5_bestSpeed 16 = .ok (.iconst 1, 1) := by decide +kernel
theorem dX5_bestSpeed_17 : decode cX5_bestSpeed 17 = .ok (.istore 6, 2) := by decide +kernel
theorem dX5_bestSpeed_19 : decode cX5_bestSpeed 19 = .ok (.iload 6, 2) := by decide +kernel
theorem dX5_bestSpeed_21 : decode cX5_bestSpeed 21 = .ok (.bipush 20, 2) := by decide +kernel
theorem dX5_bestSpeed_23 : decode cX5_bestSpeed 23 = .ok (.if_icmp .gt 46, 3) := by decide +kernel
theorem dX5_bestSpeed_26 : decode cX5_bestSpeed 26 = .ok (.aload_n 0, 1) := by decide +kernel
theorem dX5_bestSpeed_27 : decode cX5_bestSpeed 27 = .ok (.aload_n 3, 1) := by decide +kernel
theorem dX5_bestSpeed_28 : decode cX5_bestSpeed 28 = .ok (.getfield 68, 3) := by decide +kernel
theorem dX5_bestSpeed_31 : decode cX5_bestSpeed 31 = .ok (.iload_n 2, 1) := by decide +kernel
theorem dX5_bestSpeed_32 : decode cX5_bestSpeed 32 = .ok (.iload 6, 2) := by decide +kernel
theorem dX5_bestSpeed_34 : decode cX5_bestSpeed 34 = .ok (.invokestatic 329, 3) := by decide +kernel
theorem dX5_bestSpeed_37 : decode cX5_bestSpeed 37 = .ok (.invokevirtual 333, 3) := by decide +kernel
theorem dX5_bestSpeed_40 : decode cX5_bestSpeed 40 = .ok (.istore 7, 2) := by decide +kernel
theorem dX5_bestSpeed_42 : decode cX5_bestSpeed 42 = .ok (.iload 6, 2) := by decide +kernel
theorem dX5_bestSpeed_44 : decode cX5_bestSpeed 44 = .ok (.iconst 1, 1) := by decide +kernel
theorem dX5_bestSpeed_45 : decode cX5_bestSpeed 45 = .ok (.if_icmp .eq 10, 3) := by decide +kernel
theorem dX5_bestSpeed_48 : decode cX5_bestSpeed 48 = .ok (.iload 7, 2) := by decide +kernel
theorem dX5_bestSpeed_50 : decode cX5_bestSpeed 50 = .ok (.iload 5, 2) := by decide +kernel
theorem dX5_bestSpeed_52 : decode cX5_bestSpeed 52 = .ok (.if_icmp .gt 11, 3) := by decide +kernel
theorem dX5_bestSpeed_55 : decode cX5_bestSpeed 55 = .ok (.iload 6, 2) := by decide +kernel
theorem dX5_bestSpeed_57 : decode cX5_bestSpeed 57 = .ok (.istore 4, 2) := by decide +kernel
theorem dX5_bestSpeed_59 : decode cX5_bestSpeed 59 = .ok (.iload 7, 2) := by decide +kernel
theorem dX5_bestSpeed_61 : decode cX5_bestSpeed 61 = .ok (.istore 5, 2) := by decide +kernel
theorem dX5_bestSpeed_63 : decode cX5_bestSpeed 63 = .ok (.iinc 6 1, 3) := by decide +kernel
theorem dX5_bestSpeed_66 : decode cX5_bestSpeed 66 = .ok (.goto (-47), 3) := by decide +kernel
theorem dX5_bestSpeed_69 : decode cX5_bestSpeed 69 = .ok (.iload 4, 2) := by decide +kernel
theorem dX5_bestSpeed_71 : decode cX5_bestSpeed 71 = .ok (.ireturn, 1) := by decide +kernel
theorem dX5_flawsAt_0 : decode cX5_flawsAt 0 = .ok (.aload_n 1, 1) := by decide +kernel
theorem dX5_flawsAt_1 : decode cX5_flawsAt 1 = .ok (.invokevirtual 92, 3) := by decide +kernel
theorem dX5_flawsAt_4 : decode cX5_flawsAt 4 = .ok (.istore 4, 2) := by decide +kernel
theorem dX5_flawsAt_6 : decode cX5_flawsAt 6 = .ok (.aload_n 0, 1) := by decide +kernel
theorem dX5_flawsAt_7 : decode cX5_flawsAt 7 = .ok (.getfield 37, 3) := by decide +kernel
theorem dX5_flawsAt_10 : decode cX5_flawsAt 10 = .ok (.invokevirtual 201, 3) := by decide +kernel
theorem dX5_flawsAt_13 : decode cX5_flawsAt 13 = .ok (.aload_n 0, 1) := by decide +kernel
theorem dX5_flawsAt_14 : decode cX5_flawsAt 14 = .ok (.getfield 37, 3) := by decide +kernel
theorem dX5_flawsAt_17 : decode cX5_flawsAt 17 = .ok (.iconst 0, 1) := by decide +kernel
theorem dX5_flawsAt_18 : decode cX5_flawsAt 18 = .ok (.putfield 229, 3) := by decide +kernel
theorem dX5_flawsAt_21 : decode cX5_flawsAt 21 = .ok (.aload_n 0, 1) := by decide +kernel
theorem dX5_flawsAt_22 : decode cX5_flawsAt 22 = .ok (.getfield 37, 3) := by decide +kernel
theorem dX5_flawsAt_25 : decode cX5_flawsAt 25 = .ok (.iconst 0, 1) := by decide +kernel
theorem dX5_flawsAt_26 : decode cX5_flawsAt 26 = .ok (.putfield 267, 3) := by decide +kernel
theorem dX5_flawsAt_29 : decode cX5_flawsAt 29 = .ok (.iconst 0, 1) := by decide +kernel
theorem dX5_flawsAt_30 : decode cX5_flawsAt 30 = .ok (.istore 5, 2) := by decide +kernel
theorem dX5_flawsAt_32 : decode cX5_flawsAt 32 = .ok (.iload 5, 2) := by decide +kernel
theorem dX5_flawsAt_34 : decode cX5_flawsAt 34 = .ok (.iload 4, 2) := by decide +kernel
theorem dX5_flawsAt_36 : decode cX5_flawsAt 36 = .ok (.if_icmp .ge 31, 3) := by decide +kernel
theorem dX5_flawsAt_39 : decode cX5_flawsAt 39 = .ok (.aload_n 0, 1) := by decide +kernel
theorem dX5_flawsAt_40 : decode cX5_flawsAt 40 = .ok (.getfield 37, 3) := by decide +kernel
theorem dX5_flawsAt_43 : decode cX5_flawsAt 43 = .ok (.aload_n 1, 1) := by decide +kernel
theorem dX5_flawsAt_44 : decode cX5_flawsAt 44 = .ok (.getfield 283, 3) := by decide +kernel
theorem dX5_flawsAt_47 : decode cX5_flawsAt 47 = .ok (.iload 5, 2) := by decide +kernel
theorem dX5_flawsAt_49 : decode cX5_flawsAt 49 = .ok (.laload, 1) := by decide +kernel
theorem dX5_flawsAt_50 : decode cX5_flawsAt 50 = .ok (.aload_n 1, 1) := by decide +kernel
theorem dX5_flawsAt_51 : decode cX5_flawsAt 51 = .ok (.getfield 287, 3) := by decide +kernel
theorem dX5_flawsAt_54 : decode cX5_flawsAt 54 = .ok (.iload 5, 2) := by decide +kernel
theorem dX5_flawsAt_56 : decode cX5_flawsAt 56 = .ok (.laload, 1) := by decide +kernel
theorem dX5_flawsAt_57 : decode cX5_flawsAt 57 = .ok (.dload_n 2, 1) := by decide +kernel
theorem dX5_flawsAt_58 : decode cX5_flawsAt 58 = .ok (.invokevirtual 337, 3) := by decide +kernel
theorem dX5_flawsAt_61 : decode cX5_flawsAt 61 = .ok (.iinc 5 1, 3) := by decide +kernel
theorem dX5_flawsAt_64 : decode cX5_flawsAt 64 = .ok (.goto (-32), 3) := by decide +kernel
theorem dX5_flawsAt_67 : decode cX5_flawsAt 67 = .ok (.aload_n 0, 1) := by decide +kernel
theorem dX5_flawsAt_68 : decode cX5_flawsAt 68 = .ok (.getfield 37, 3) := by decide +kernel
theorem dX5_flawsAt_71 : decode cX5_flawsAt 71 = .ok (.getfield 229, 3) := by decide +kernel
theorem dX5_flawsAt_74 : decode cX5_flawsAt 74 = .ok (.aload_n 0, 1) := by decide +kernel
theorem dX5_flawsAt_75 : decode cX5_flawsAt 75 = .ok (.getfield 37, 3) := by decide +kernel
theorem dX5_flawsAt_78 : decode cX5_flawsAt 78 = .ok (.getfield 267, 3) := by decide +kernel
theorem dX5_flawsAt_81 : decode cX5_flawsAt 81 = .ok (.iadd, 1) := by decide +kernel
theorem dX5_flawsAt_82 : decode cX5_flawsAt 82 = .ok (.ireturn, 1) := by decide +kernel
theorem dX5_digest_0 : decode cX5_digest 0 = .ok (.ldc2_w 341, 3) := by decide +kernel
theorem dX5_digest_3 : decode cX5_digest 3 = .ok (.lstore_n 1, 1) := by decide +kernel
theorem dX5_digest_4 : decode cX5_digest 4 = .ok (.iconst 0, 1) := by decide +kernel
theorem dX5_digest_5 : decode cX5_digest 5 = .ok (.istore_n 3, 1) := by decide +kernel
theorem dX5_digest_6 : decode cX5_digest 6 = .ok (.iload_n 3, 1) := by decide +kernel
theorem dX5_digest_7 : decode cX5_digest 7 = .ok (.bipush 8, 2) := by decide +kernel
theorem dX5_digest_9 : decode cX5_digest 9 = .ok (.if_icmp .ge 22, 3) := by decide +kernel
theorem dX5_digest_12 : decode cX5_digest 12 = .ok (.lload_n 1, 1) := by decide +kernel
theorem dX5_digest_13 : decode cX5_digest 13 = .ok (.ldc2_w 343, 3) := by decide +kernel
theorem dX5_digest_16 : decode cX5_digest 16 = .ok (.lmul, 1) := by decide +kernel
theorem dX5_digest_17 : decode cX5_digest 17 = .ok (.aload_n 0, 1) := by decide +kernel
theorem dX5_digest_18 : decode cX5_digest 18 = .ok (.iload_n 3, 1) := by decide +kernel
theorem dX5_digest_19 : decode cX5_digest 19 = .ok (.invokevirtual 345, 3) := by decide +kernel
theorem dX5_digest_22 : decode cX5_digest 22 = .ok (.i2l, 1) := by decide +kernel
theorem dX5_digest_23 : decode cX5_digest 23 = .ok (.ladd, 1) := by decide +kernel
theorem dX5_digest_24 : decode cX5_digest 24 = .ok (.lstore_n 1, 1) := by decide +kernel
theorem dX5_digest_25 : decode cX5_digest 25 = .ok (.iinc 3 1, 3) := by decide +kernel
theorem dX5_digest_28 : decode cX5_digest 28 = .ok (.goto (-22), 3) := by decide +kernel
theorem dX5_digest_31 : decode cX5_digest 31 = .ok (.iconst 0, 1) := by decide +kernel
theorem dX5_digest_32 : decode cX5_digest 32 = .ok (.istore_n 3, 1) := by decide +kernel
theorem dX5_digest_33 : decode cX5_digest 33 = .ok (.iload_n 3, 1) := by decide +kernel
theorem dX5_digest_34 : decode cX5_digest 34 = .ok (.aload_n 0, 1) := by decide +kernel
theorem dX5_digest_35 : decode cX5_digest 35 = .ok (.getfield 46, 3) := by decide +kernel
theorem dX5_digest_38 : decode cX5_digest 38 = .ok (.if_icmp .ge 16, 3) := by decide +kernel
theorem dX5_digest_41 : decode cX5_digest 41 = .ok (.aload_n 0, 1) := by decide +kernel
theorem dX5_digest_42 : decode cX5_digest 42 = .ok (.lload_n 1, 1) := by decide +kernel
theorem dX5_digest_43 : decode cX5_digest 43 = .ok (.iload_n 3, 1) := by decide +kernel
theorem dX5_digest_44 : decode cX5_digest 44 = .ok (.invokevirtual 348, 3) := by decide +kernel
theorem dX5_digest_47 : decode cX5_digest 47 = .ok (.lstore_n 1, 1) := by decide +kernel
theorem dX5_digest_48 : decode cX5_digest 48 = .ok (.iinc 3 1, 3) := by decide +kernel
theorem dX5_digest_51 : decode cX5_digest 51 = .ok (.goto (-18), 3) := by decide +kernel
theorem dX5_digest_54 : decode cX5_digest 54 = .ok (.iconst 0, 1) := by decide +kernel
theorem dX5_digest_55 : decode cX5_digest 55 = .ok (.istore_n 3, 1) := by decide +kernel
theorem dX5_digest_56 : decode cX5_digest 56 = .ok (.iload_n 3, 1) := by decide +kernel
theorem dX5_digest_57 : decode cX5_digest 57 = .ok (.aload_n 0, 1) := by decide +kernel
theorem dX5_digest_58 : decode cX5_digest 58 = .ok (.getfield 103, 3) := by decide +kernel
theorem dX5_digest_61 : decode cX5_digest 61 = .ok (.if_icmp .ge 52, 3) := by decide +kernel
theorem dX5_digest_64 : decode cX5_digest 64 = .ok (.iconst 0, 1) := by decide +kernel
theorem dX5_digest_65 : decode cX5_digest 65 = .ok (.istore 4, 2) := by decide +kernel
theorem dX5_digest_67 : decode cX5_digest 67 = .ok (.iload 4, 2) := by decide +kernel
theorem dX5_digest_69 : decode cX5_digest 69 = .ok (.iconst 5, 1) := by decide +kernel
theorem dX5_digest_70 : decode cX5_digest 70 = .ok (.if_icmp .ge 24, 3) := by decide +kernel
theorem dX5_digest_73 : decode cX5_digest 73 = .ok (.lload_n 1, 1) := by decide +kernel
theorem dX5_digest_74 : decode cX5_digest 74 = .ok (.ldc2_w 343, 3) := by decide +kernel
theorem dX5_digest_77 : decode cX5_digest 77 = .ok (.lmul, 1) := by decide +kernel
theorem dX5_digest_78 : decode cX5_digest 78 = .ok (.aload_n 0, 1) := by decide +kernel
theorem dX5_digest_79 : decode cX5_digest 79 = .ok (.iload_n 3, 1) := by decide +kernel
theorem dX5_digest_80 : decode cX5_digest 80 = .ok (.iload 4, 2) := by decide +kernel
theorem dX5_digest_82 : decode cX5_digest 82 = .ok (.invokevirtual 352, 3) := by decide +kernel
theorem dX5_digest_85 : decode cX5_digest 85 = .ok (.i2l, 1) := by decide +kernel
theorem dX5_digest_86 : decode cX5_digest 86 = .ok (.ladd, 1) := by decide +kernel
theorem dX5_digest_87 : decode cX5_digest 87 = .ok (.lstore_n 1, 1) := by decide +kernel
theorem dX5_digest_88 : decode cX5_digest 88 = .ok (.iinc 4 1, 3) := by decide +kernel
theorem dX5_digest_91 : decode cX5_digest 91 = .ok (.goto (-24), 3) := by decide +kernel
theorem dX5_digest_94 : decode cX5_digest 94 = .ok (.lload_n 1, 1) := by decide +kernel
theorem dX5_digest_95 : decode cX5_digest 95 = .ok (.ldc2_w 343, 3) := by decide +kernel
theorem dX5_digest_98 : decode cX5_digest 98 = .ok (.lmul, 1) := by decide +kernel
theorem dX5_digest_99 : decode cX5_digest 99 = .ok (.aload_n 0, 1) := by decide +kernel
theorem dX5_digest_100 : decode cX5_digest 100 = .ok (.iload_n 3, 1) := by decide +kernel
theorem dX5_digest_101 : decode cX5_digest 101 = .ok (.invokevirtual 356, 3) := by decide +kernel
theorem dX5_digest_104 : decode cX5_digest 104 = .ok (.i2l, 1) := by decide +kernel
theorem dX5_digest_105 : decode cX5_digest 105 = .ok (.ladd, 1) := by decide +kernel
theorem dX5_digest_106 : decode cX5_digest 106 = .ok (.lstore_n 1, 1) := by decide +kernel
theorem dX5_digest_107 : decode cX5_digest 107 = .ok (.iinc 3 1, 3) := by decide +kernel
theorem dX5_digest_110 : decode cX5_digest 110 = .ok (.goto (-54), 3) := by decide +kernel
theorem dX5_digest_113 : decode cX5_digest 113 = .ok (.iconst 0, 1) := by decide +kernel
theorem dX5_digest_114 : decode cX5_digest 114 = .ok (.istore_n 3, 1) := by decide +kernel
theorem dX5_digest_115 : decode cX5_digest 115 = .ok (.iload_n 3, 1) := by decide +kernel
theorem dX5_digest_116 : decode cX5_digest 116 = .ok (.iconst 2, 1) := by decide +kernel
theorem dX5_digest_117 : decode cX5_digest 117 = .ok (.if_icmp .ge 39, 3) := by decide +kernel
theorem dX5_digest_120 : decode cX5_digest 120 = .ok (.iconst 0, 1) := by decide +kernel
theorem dX5_digest_121 : decode cX5_digest 121 = .ok (.istore 4, 2) := by decide +kernel
theorem dX5_digest_123 : decode cX5_digest 123 = .ok (.iload 4, 2) := by decide +kernel
theorem dX5_digest_125 : decode cX5_digest 125 = .ok (.iconst 5, 1) := by decide +kernel
theorem dX5_digest_126 : decode cX5_digest 126 = .ok (.if_icmp .ge 24, 3) := by decide +kernel
theorem dX5_digest_129 : decode cX5_digest 129 = .ok (.lload_n 1, 1) := by decide +kernel
theorem dX5_digest_130 : decode cX5_digest 130 = .ok (.ldc2_w 343, 3) := by decide +kernel
theorem dX5_digest_133 : decode cX5_digest 133 = .ok (.lmul, 1) := by decide +kernel
theorem dX5_digest_134 : decode cX5_digest 134 = .ok (.aload_n 0, 1) := by decide +kernel
theorem dX5_digest_135 : decode cX5_digest 135 = .ok (.iload_n 3, 1) := by decide +kernel
theorem dX5_digest_136 : decode cX5_digest 136 = .ok (.iload 4, 2) := by decide +kernel
theorem dX5_digest_138 : decode cX5_digest 138 = .ok (.invokevirtual 359, 3) := by decide +kernel
theorem dX5_digest_141 : decode cX5_digest 141 = .ok (.i2l, 1) := by decide +kernel
theorem dX5_digest_142 : decode cX5_digest 142 = .ok (.ladd, 1) := by decide +kernel
theorem dX5_digest_143 : decode cX5_digest 143 = .ok (.lstore_n 1, 1) := by decide +kernel
theorem dX5_digest_144 : decode cX5_digest 144 = .ok (.iinc 4 1, 3) := by decide +kernel
theorem dX5_digest_147 : decode cX5_digest 147 = .ok (.goto (-24), 3) := by decide +kernel
theorem dX5_digest_150 : decode cX5_digest 150 = .ok (.iinc 3 1, 3) := by decide +kernel
theorem dX5_digest_153 : decode cX5_digest 153 = .ok (.goto (-38), 3) := by decide +kernel
theorem dX5_digest_156 : decode cX5_digest 156 = .ok (.lload_n 1, 1) := by decide +kernel
theorem dX5_digest_157 : decode cX5_digest 157 = .ok (.lreturn, 1) := by decide +kernel
theorem dX5_digestPiece_0 : decode cX5_digestPiece 0 = .ok (.lload_n 1, 1) := by decide +kernel
theorem dX5_digestPiece_1 : decode cX5_digestPiece 1 = .ok (.lstore 4, 2) := by decide +kernel
theorem dX5_digestPiece_3 : decode cX5_digestPiece 3 = .ok (.iconst 0, 1) := by decide +kernel
theorem dX5_digestPiece_4 : decode cX5_digestPiece 4 = .ok (.istore 6, 2) := by decide +kernel
theorem dX5_digestPiece_6 : decode cX5_digestPiece 6 = .ok (.iload 6, 2) := by decide +kernel
theorem dX5_digestPiece_8 : decode cX5_digestPiece 8 = .ok (.bipush 15, 2) := by decide +kernel
theorem dX5_digestPiece_10 : decode cX5_digestPiece 10 = .ok (.if_icmp .ge 26, 3) := by decide +kernel
theorem dX5_digestPiece_13 : decode cX5_digestPiece 13 = .ok (.lload 4, 2) := by decide +kernel
theorem dX5_digestPiece_15 : decode cX5_digestPiece 15 = .ok (.ldc2_w 343, 3) := by decide +kernel
theorem dX5_digestPiece_18 : decode cX5_digestPiece 18 = .ok (.lmul, 1) := by decide +kernel
theorem dX5_digestPiece_19 : decode cX5_digestPiece 19 = .ok (.aload_n 0, 1) := by decide +kernel
theorem dX5_digestPiece_20 : decode cX5_digestPiece 20 = .ok (.iload_n 3, 1) := by decide +kernel
theorem dX5_digestPiece_21 : decode cX5_digestPiece 21 = .ok (.iload 6, 2) := by decide +kernel
theorem dX5_digestPiece_23 : decode cX5_digestPiece 23 = .ok (.invokevirtual 362, 3) := by decide +kernel
theorem dX5_digestPiece_26 : decode cX5_digestPiece 26 = .ok (.i2l, 1) := by decide +kernel
theorem dX5_digestPiece_27 : decode cX5_digestPiece 27 = .ok (.ladd, 1) := by decide +kernel
theorem dX5_digestPiece_28 : decode cX5_digestPiece 28 = .ok (.lstore 4, 2) := by decide +kernel
theorem dX5_digestPiece_30 : decode cX5_digestPiece 30 = .ok (.iinc 6 1, 3) := by decide +kernel
theorem dX5_digestPiece_33 : decode cX5_digestPiece 33 = .ok (.goto (-27), 3) := by decide +kernel
theorem dX5_digestPiece_36 : decode cX5_digestPiece 36 = .ok (.lload 4, 2) := by decide +kernel
theorem dX5_digestPiece_38 : decode cX5_digestPiece 38 = .ok (.ldc2_w 343, 3) := by decide +kernel
theorem dX5_digestPiece_41 : decode cX5_digestPiece 41 = .ok (.lmul, 1) := by decide +kernel
theorem dX5_digestPiece_42 : decode cX5_digestPiece 42 = .ok (.aload_n 0, 1) := by decide +kernel
theorem dX5_digestPiece_43 : decode cX5_digestPiece 43 = .ok (.iload_n 3, 1) := by decide +kernel
theorem dX5_digestPiece_44 : decode cX5_digestPiece 44 = .ok (.iconst 1, 1) := by decide +kernel
theorem dX5_digestPiece_45 : decode cX5_digestPiece 45 = .ok (.invokevirtual 365, 3) := by decide +kernel
theorem dX5_digestPiece_48 : decode cX5_digestPiece 48 = .ok (.ldc2_w 368, 3) := by decide +kernel
theorem dX5_digestPiece_51 : decode cX5_digestPiece 51 = .ok (.dmul, 1) := by decide +kernel
theorem dX5_digestPiece_52 : decode cX5_digestPiece 52 = .ok (.d2l, 1) := by decide +kernel
theorem dX5_digestPiece_53 : decode cX5_digestPiece 53 = .ok (.ladd, 1) := by decide +kernel
theorem dX5_digestPiece_54 : decode cX5_digestPiece 54 = .ok (.lstore 4, 2) := by decide +kernel
theorem dX5_digestPiece_56 : decode cX5_digestPiece 56 = .ok (.lload 4, 2) := by decide +kernel
theorem dX5_digestPiece_58 : decode cX5_digestPiece 58 = .ok (.ldc2_w 343, 3) := by decide +kernel
theorem dX5_digestPiece_61 : decode cX5_digestPiece 61 = .ok (.lmul, 1) := by decide +kernel
theorem dX5_digestPiece_62 : decode cX5_digestPiece 62 = .ok (.aload_n 0, 1) := by decide +kernel
theorem dX5_digestPiece_63 : decode cX5_digestPiece 63 = .ok (.iload_n 3, 1) := by decide +kernel
theorem dX5_digestPiece_64 : decode cX5_digestPiece 64 = .ok (.invokevirtual 370, 3) := by decide +kernel
theorem dX5_digestPiece_67 : decode cX5_digestPiece 67 = .ok (.i2l, 1) := by decide +kernel
theorem dX5_digestPiece_68 : decode cX5_digestPiece 68 = .ok (.ladd, 1) := by decide +kernel
theorem dX5_digestPiece_69 : decode cX5_digestPiece 69 = .ok (.lstore 4, 2) := by decide +kernel
theorem dX5_digestPiece_71 : decode cX5_digestPiece 71 = .ok (.lload 4, 2) := by decide +kernel
theorem dX5_digestPiece_73 : decode cX5_digestPiece 73 = .ok (.ldc2_w 343, 3) := by decide +kernel
theorem dX5_digestPiece_76 : decode cX5_digestPiece 76 = .ok (.lmul, 1) := by decide +kernel
theorem dX5_digestPiece_77 : decode cX5_digestPiece 77 = .ok (.aload_n 0, 1) := by decide +kernel
theorem dX5_digestPiece_78 : decode cX5_digestPiece 78 = .ok (.iload_n 3, 1) := by decide +kernel
theorem dX5_digestPiece_79 : decode cX5_digestPiece 79 = .ok (.sipush 200, 3) := by decide +kernel
theorem dX5_digestPiece_82 : decode cX5_digestPiece 82 = .ok (.invokevirtual 373, 3) := by decide +kernel
theorem dX5_digestPiece_85 : decode cX5_digestPiece 85 = .ok (.i2l, 1) := by decide +kernel
theorem dX5_digestPiece_86 : decode cX5_digestPiece 86 = .ok (.ladd, 1) := by decide +kernel
theorem dX5_digestPiece_87 : decode cX5_digestPiece 87 = .ok (.lstore 4, 2) := by decide +kernel
theorem dX5_digestPiece_89 : decode cX5_digestPiece 89 = .ok (.iconst 0, 1) := by decide +kernel
theorem dX5_digestPiece_90 : decode cX5_digestPiece 90 = .ok (.istore 6, 2) := by decide +kernel
theorem dX5_digestPiece_92 : decode cX5_digestPiece 92 = .ok (.iload 6, 2) := by decide +kernel
theorem dX5_digestPiece_94 : decode cX5_digestPiece 94 = .ok (.bipush 8, 2) := by decide +kernel
theorem dX5_digestPiece_96 : decode cX5_digestPiece 96 = .ok (.if_icmp .ge 42, 3) := by decide +kernel
theorem dX5_digestPiece_99 : decode cX5_digestPiece 99 = .ok (.iconst 0, 1) := by decide +kernel
theorem dX5_digestPiece_100 : decode cX5_digestPiece 100 = .ok (.istore 7, 2) := by decide +kernel
theorem dX5_digestPiece_102 : decode cX5_digestPiece 102 = .ok (.iload 7, 2) := by decide +kernel
theorem dX5_digestPiece_104 : decode cX5_digestPiece 104 = .ok (.iconst 3, 1) := by decide +kernel
theorem dX5_digestPiece_105 : decode cX5_digestPiece 105 = .ok (.if_icmp .ge 27, 3) := by decide +kernel
theorem dX5_digestPiece_108 : decode cX5_digestPiece 108 = .ok (.lload 4, 2) := by decide +kernel
theorem dX5_digestPiece_110 : decode cX5_digestPiece 110 = .ok (.ldc2_w 343, 3) := by decide +kernel
theorem dX5_digestPiece_113 : decode cX5_digestPiece 113 = .ok (.lmul, 1) := by decide +kernel
theorem dX5_digestPiece_114 : decode cX5_digestPiece 114 = .ok (.aload_n 0, 1) := by decide +kernel
theorem dX5_digestPiece_115 : decode cX5_digestPiece 115 = .ok (.iload_n 3, 1) := by decide +kernel
theorem dX5_digestPiece_116 : decode cX5_digestPiece 116 = .ok (.iload 6, 2) := by decide +kernel
theorem dX5_digestPiece_118 : decode cX5_digestPiece 118 = .ok (.iload 7, 2) := by decide +kernel
theorem dX5_digestPiece_120 : decode cX5_digestPiece 120 = .ok (.invokevirtual 376, 3) := by decide +kernel
theorem dX5_digestPiece_123 : decode cX5_digestPiece 123 = .ok (.ladd, 1) := by decide +kernel
theorem dX5_digestPiece_124 : decode cX5_digestPiece 124 = .ok (.lstore 4, 2) := by decide +kernel
theorem dX5_digestPiece_126 : decode cX5_digestPiece 126 = .ok (.iinc 7 1, 3) := by decide +kernel
theorem dX5_digestPiece_129 : decode cX5_digestPiece 129 = .ok (.goto (-27), 3) := by decide +kernel
theorem dX5_digestPiece_132 : decode cX5_digestPiece 132 = .ok (.iinc 6 1, 3) := by decide +kernel
theorem dX5_digestPiece_135 : decode cX5_digestPiece 135 = .ok (.goto (-43), 3) := by decide +kernel
theorem dX5_digestPiece_138 : decode cX5_digestPiece 138 = .ok (.lload 4, 2) := by decide +kernel
theorem dX5_digestPiece_140 : decode cX5_digestPiece 140 = .ok (.lreturn, 1) := by decide +kernel
theorem dX5_pieceAt_0 : decode cX5_pieceAt 0 = .ok (.iload_n 1, 1) := by decide +kernel
theorem dX5_pieceAt_1 : decode cX5_pieceAt 1 = .ok (.ifCond .lt 11, 3) := by decide +kernel
theorem dX5_pieceAt_4 : decode cX5_pieceAt 4 = .ok (.iload_n 1, 1) := by decide +kernel
theorem dX5_pieceAt_5 : decode cX5_pieceAt 5 = .ok (.aload_n 0, 1) := by decide +kernel
theorem dX5_pieceAt_6 : decode cX5_pieceAt 6 = .ok (.getfield 46, 3) := by decide +kernel
theorem dX5_pieceAt_9 : decode cX5_pieceAt 9 = .ok (.if_icmp .lt 14, 3) := by decide +kernel
theorem dX5_pieceAt_12 : decode cX5_pieceAt 12 = .ok (.new 299, 3) := by decide +kernel
theorem dX5_pieceAt_15 : decode cX5_pieceAt 15 = .ok (.dup, 1) := by decide +kernel
theorem dX5_pieceAt_16 : decode cX5_pieceAt 16 = .ok (.ldc_w 380, 3) := by decide +kernel
theorem dX5_pieceAt_19 : decode cX5_pieceAt 19 = .ok (.invokespecial 303, 3) := by decide +kernel
theorem dX5_pieceAt_22 : decode cX5_pieceAt 22 = .ok (.athrow, 1) := by decide +kernel
theorem dX5_pieceAt_23 : decode cX5_pieceAt 23 = .ok (.aload_n 0, 1) := by decide +kernel
theorem dX5_pieceAt_24 : decode cX5_pieceAt 24 = .ok (.getfield 11, 3) := by decide +kernel
theorem dX5_pieceAt_27 : decode cX5_pieceAt 27 = .ok (.iload_n 1, 1) := by decide +kernel
theorem dX5_pieceAt_28 : decode cX5_pieceAt 28 = .ok (.aaload, 1) := by decide +kernel
theorem dX5_pieceAt_29 : decode cX5_pieceAt 29 = .ok (.areturn, 1) := by decide +kernel
theorem dX5_powderAt_0 : decode cX5_powderAt 0 = .ok (.iload_n 1, 1) := by decide +kernel
theorem dX5_powderAt_1 : decode cX5_powderAt 1 = .ok (.ifCond .lt 11, 3) := by decide +kernel
theorem dX5_powderAt_4 : decode cX5_powderAt 4 = .ok (.iload_n 1, 1) := by decide +kernel
theorem dX5_powderAt_5 : decode cX5_powderAt 5 = .ok (.aload_n 0, 1) := by decide +kernel
theorem dX5_powderAt_6 : decode cX5_powderAt 6 = .ok (.getfield 103, 3) := by decide +kernel
theorem dX5_powderAt_9 : decode cX5_powderAt 9 = .ok (.if_icmp .lt 14, 3) := by decide +kernel
theorem dX5_powderAt_12 : decode cX5_powderAt 12 = .ok (.new 299, 3) := by decide +kernel
theorem dX5_powderAt_15 : decode cX5_powderAt 15 = .ok (.dup, 1) := by decide +kernel
theorem dX5_powderAt_16 : decode cX5_powderAt 16 = .ok (.ldc_w 382, 3) := by decide +kernel
theorem dX5_powderAt_19 : decode cX5_powderAt 19 = .ok (.invokespecial 303, 3) := by decide +kernel
theorem dX5_powderAt_22 : decode cX5_powderAt 22 = .ok (.athrow, 1) := by decide +kernel
theorem dX5_powderAt_23 : decode cX5_powderAt 23 = .ok (.aload_n 0, 1) := by decide +kernel
theorem dX5_powderAt_24 : decode cX5_powderAt 24 = .ok (.getfield 17, 3) := by decide +kernel
theorem dX5_powderAt_27 : decode cX5_powderAt 27 = .ok (.iload_n 1, 1) := by decide +kernel
theorem dX5_powderAt_28 : decode cX5_powderAt 28 = .ok (.aaload, 1) := by decide +kernel
theorem dX5_powderAt_29 : decode cX5_powderAt 29 = .ok (.areturn, 1) := by decide +kernel
theorem dX5_machineAt_0 : decode cX5_machineAt 0 = .ok (.iload_n 1, 1) := by decide +kernel
theorem dX5_machineAt_1 : decode cX5_machineAt 1 = .ok (.ifCond .lt 8, 3) := by decide +kernel
theorem dX5_machineAt_4 : decode cX5_machineAt 4 = .ok (.iload_n 1, 1) := by decide +kernel
theorem dX5_machineAt_5 : decode cX5_machineAt 5 = .ok (.iconst 2, 1) := by decide +kernel
theorem dX5_machineAt_6 : decode cX5_machineAt 6 = .ok (.if_icmp .lt 14, 3) := by decide +kernel
theorem dX5_machineAt_9 : decode cX5_machineAt 9 = .ok (.new 299, 3) := by decide +kernel
theorem dX5_machineAt_12 : decode cX5_machineAt 12 = .ok (.dup, 1) := by decide +kernel
theorem dX5_machineAt_13 : decode cX5_machineAt 13 = .ok (.ldc_w 384, 3) := by decide +kernel
theorem dX5_machineAt_16 : decode cX5_machineAt 16 = .ok (.invokespecial 303, 3) := by decide +kernel
theorem dX5_machineAt_19 : decode cX5_machineAt 19 = .ok (.athrow, 1) := by decide +kernel
theorem dX5_machineAt_20 : decode cX5_machineAt 20 = .ok (.aload_n 0, 1) := by decide +kernel
theorem dX5_machineAt_21 : decode cX5_machineAt 21 = .ok (.getfield 23, 3) := by decide +kernel
theorem dX5_machineAt_24 : decode cX5_machineAt 24 = .ok (.iload_n 1, 1) := by decide +kernel
theorem dX5_machineAt_25 : decode cX5_machineAt 25 = .ok (.aaload, 1) := by decide +kernel
theorem dX5_machineAt_26 : decode cX5_machineAt 26 = .ok (.areturn, 1) := by decide +kernel
theorem dX5_checkLayer_0 : decode cX5_checkLayer 0 = .ok (.iload_n 0, 1) := by decide +kernel
theorem dX5_checkLayer_1 : decode cX5_checkLayer 1 = .ok (.ifCond .lt 9, 3) := by decide +kernel
theorem dX5_checkLayer_4 : decode cX5_checkLayer 4 = .ok (.iload_n 0, 1) := by decide +kernel
theorem dX5_checkLayer_5 : decode cX5_checkLayer 5 = .ok (.bipush 8, 2) := by decide +kernel
theorem dX5_checkLayer_7 : decode cX5_checkLayer 7 = .ok (.if_icmp .lt 14, 3) := by decide +kernel
theorem dX5_checkLayer_10 : decode cX5_checkLayer 10 = .ok (.new 299, 3) := by decide +kernel
theorem dX5_checkLayer_13 : decode cX5_checkLayer 13 = .ok (.dup, 1) := by decide +kernel
theorem dX5_checkLayer_14 : decode cX5_checkLayer 14 = .ok (.ldc_w 386, 3) := by decide +kernel
theorem dX5_checkLayer_17 : decode cX5_checkLayer 17 = .ok (.invokespecial 303, 3) := by decide +kernel
theorem dX5_checkLayer_20 : decode cX5_checkLayer 20 = .ok (.athrow, 1) := by decide +kernel
theorem dX5_checkLayer_21 : decode cX5_checkLayer 21 = .ok (.return_, 1) := by decide +kernel
theorem dX5_checkWay_0 : decode cX5_checkWay 0 = .ok (.iload_n 0, 1) := by decide +kernel
theorem dX5_checkWay_1 : decode cX5_checkWay 1 = .ok (.ifCond .lt 9, 3) := by decide +kernel
theorem dX5_checkWay_4 : decode cX5_checkWay 4 = .ok (.iload_n 0, 1) := by decide +kernel
theorem dX5_checkWay_5 : decode cX5_checkWay 5 = .ok (.bipush 6, 2) := by decide +kernel
theorem dX5_checkWay_7 : decode cX5_checkWay 7 = .ok (.if_icmp .lt 14, 3) := by decide +kernel
theorem dX5_checkWay_10 : decode cX5_checkWay 10 = .ok (.new 96, 3) := by decide +kernel
theorem dX5_checkWay_13 : decode cX5_checkWay 13 = .ok (.dup, 1) := by decide +kernel
theorem dX5_checkWay_14 : decode cX5_checkWay 14 = .ok (.ldc_w 388, 3) := by decide +kernel
theorem dX5_checkWay_17 : decode cX5_checkWay 17 = .ok (.invokespecial 100, 3) := by decide +kernel
theorem dX5_checkWay_20 : decode cX5_checkWay 20 = .ok (.athrow, 1) := by decide +kernel
theorem dX5_checkWay_21 : decode cX5_checkWay 21 = .ok (.return_, 1) := by decide +kernel
theorem dX5_checkPower_0 : decode cX5_checkPower 0 = .ok (.iload_n 0, 1) := by decide +kernel
theorem dX5_checkPower_1 : decode cX5_checkPower 1 = .ok (.bipush 50, 2) := by decide +kernel
theorem dX5_checkPower_3 : decode cX5_checkPower 3 = .ok (.if_icmp .lt 10, 3) := by decide +kernel
theorem dX5_checkPower_6 : decode cX5_checkPower 6 = .ok (.iload_n 0, 1) := by decide +kernel
theorem dX5_checkPower_7 : decode cX5_checkPower 7 = .ok (.sipush 400, 3) := by decide +kernel
theorem dX5_checkPower_10 : decode cX5_checkPower 10 = .ok (.if_icmp .le 14, 3) := by decide +kernel
theorem dX5_checkPower_13 : decode cX5_checkPower 13 = .ok (.new 96, 3) := by decide +kernel
theorem dX5_checkPower_16 : decode cX5_checkPower 16 = .ok (.dup, 1) := by decide +kernel
theorem dX5_checkPower_17 : decode cX5_checkPower 17 = .ok (.ldc_w 390, 3) := by decide +kernel
theorem dX5_checkPower_20 : decode cX5_checkPower 20 = .ok (.invokespecial 100, 3) := by decide +kernel
theorem dX5_checkPower_23 : decode cX5_checkPower 23 = .ok (.athrow, 1) := by decide +kernel
theorem dX5_checkPower_24 : decode cX5_checkPower 24 = .ok (.return_, 1) := by decide +kernel
theorem dX5_checkSolid_0 : decode cX5_checkSolid 0 = .ok (.aload_n 0, 1) := by decide +kernel
theorem dX5_checkSolid_1 : decode cX5_checkSolid 1 = .ok (.getfield 171, 3) := by decide +kernel
theorem dX5_checkSolid_4 : decode cX5_checkSolid 4 = .ok (.ifCond .eq 14, 3) := by decide +kernel
theorem dX5_checkSolid_7 : decode cX5_checkSolid 7 = .ok (.new 50, 3) := by decide +kernel
theorem dX5_checkSolid_10 : decode cX5_checkSolid 10 = .ok (.dup, 1) := by decide +kernel
theorem dX5_checkSolid_11 : decode cX5_checkSolid 11 = .ok (.ldc_w 392, 3) := by decide +kernel
theorem dX5_checkSolid_14 : decode cX5_checkSolid 14 = .ok (.invokespecial 54, 3) := by decide +kernel
theorem dX5_checkSolid_17 : decode cX5_checkSolid 17 = .ok (.athrow, 1) := by decide +kernel
theorem dX5_checkSolid_18 : decode cX5_checkSolid 18 = .ok (.return_, 1) := by decide +kernel
theorem dX5_checkGrowing_0 : decode cX5_checkGrowing 0 = .ok (.aload_n 0, 1) := by decide +kernel
theorem dX5_checkGrowing_1 : decode cX5_checkGrowing 1 = .ok (.getfield 162, 3) := by decide +kernel
theorem dX5_checkGrowing_4 : decode cX5_checkGrowing 4 = .ok (.astore_n 1, 1) := by decide +kernel
theorem dX5_checkGrowing_5 : decode cX5_checkGrowing 5 = .ok (.aload_n 1, 1) := by decide +kernel
theorem dX5_checkGrowing_6 : decode cX5_checkGrowing 6 = .ok (.ifnonnull 14, 3) := by decide +kernel
theorem dX5_checkGrowing_9 : decode cX5_checkGrowing 9 = .ok (.new 50, 3) := by decide +kernel
theorem dX5_checkGrowing_12 : decode cX5_checkGrowing 12 = .ok (.dup, 1) := by decide +kernel
theorem dX5_checkGrowing_13 : decode cX5_checkGrowing 13 = .ok (.ldc_w 396, 3) := by decide +kernel
theorem dX5_checkGrowing_16 : decode cX5_checkGrowing 16 = .ok (.invokespecial 54, 3) := by decide +kernel
theorem dX5_checkGrowing_19 : decode cX5_checkGrowing 19 = .ok (.athrow, 1) := by decide +kernel
theorem dX5_checkGrowing_20 : decode cX5_checkGrowing 20 = .ok (.aload_n 1, 1) := by decide +kernel
theorem dX5_checkGrowing_21 : decode cX5_checkGrowing 21 = .ok (.areturn, 1) := by decide +kernel
theorem dX5_energyOf_0 : decode cX5_energyOf 0 = .ok (.iload_n 0, 1) := by decide +kernel
theorem dX5_energyOf_1 : decode cX5_energyOf 1 = .ok (.i2d, 1) := by decide +kernel
theorem dX5_energyOf_2 : decode cX5_energyOf 2 = .ok (.iload_n 1, 1) := by decide +kernel
theorem dX5_energyOf_3 : decode cX5_energyOf 3 = .ok (.i2d, 1) := by decide +kernel
theorem dX5_energyOf_4 : decode cX5_energyOf 4 = .ok (.ddiv, 1) := by decide +kernel
theorem dX5_energyOf_5 : decode cX5_energyOf 5 = .ok (.ldc2_w 398, 3) := by decide +kernel
theorem dX5_energyOf_8 : decode cX5_energyOf 8 = .ok (.ddiv, 1) := by decide +kernel
theorem dX5_energyOf_9 : decode cX5_energyOf 9 = .ok (.dreturn, 1) := by decide +kernel
theorem dX6_init_0 : decode cX6_init 0 = .ok (.aload_n 0, 1) := by decide +kernel
theorem dX6_init_1 : decode cX6_init 1 = .ok (.invokespecial 1, 3) := by decide +kernel
theorem dX6_init_4 : decode cX6_init 4 = .ok (.aload_n 0, 1) := by decide +kernel
theorem dX6_init_5 : decode cX6_init 5 = .ok (.new 7, 3) := by decide +kernel
theorem dX6_init_8 : decode cX6_init 8 = .ok (.dup, 1) := by decide +kernel
theorem dX6_init_9 : decode cX6_init 9 = .ok (.invokespecial 9, 3) := by decide +kernel
theorem dX6_init_12 : decode cX6_init 12 = .ok (.putfield 10, 3) := by decide +kernel
theorem dX6_init_15 : decode cX6_init 15 = .ok (.aload_n 0, 1) := by decide +kernel
theorem dX6_init_16 : decode cX6_init 16 = .ok (.iconst 0, 1) := by decide +kernel
theorem dX6_init_17 : decode cX6_init 17 = .ok (.anewarray 16, 3) := by decide +kernel
theorem dX6_init_20 : decode cX6_init 20 = .ok (.putfield 18, 3) := by decide +kernel
theorem dX6_init_23 : decode cX6_init 23 = .ok (.aload_n 0, 1) := by decide +kernel
theorem dX6_init_24 : decode cX6_init 24 = .ok (.iconst 0, 1) := by decide +kernel
theorem dX6_init_25 : decode cX6_init 25 = .ok (.anewarray 22, 3) := by decide +kernel
theorem dX6_init_28 : decode cX6_init 28 = .ok (.putfield 24, 3) := by decide +kernel
theorem dX6_init_31 : decode cX6_init 31 = .ok (.aload_n 0, 1) := by decide +kernel
theorem dX6_init_32 : decode cX6_init 32 = .ok (.iconst 4, 1) := by decide +kernel
theorem dX6_init_33 : decode cX6_init 33 = .ok (.newarray .double, 2) := by decide +kernel
theorem dX6_init_35 : decode cX6_init 35 = .ok (.putfield 28, 3) := by decide +kernel
theorem dX6_init_38 : decode cX6_init 38 = .ok (.aload_n 0, 1) := by decide +kernel
theorem dX6_init_39 : decode cX6_init 39 = .ok (.iconst 0, 1) := by decide +kernel
theorem dX6_init_40 : decode cX6_init 40 = .ok (.anewarray 22, 3) := by decide +kernel
theorem dX6_init_43 : decode cX6_init 43 = .ok (.putfield 32, 3) := by decide +kernel
theorem dX6_init_46 : decode cX6_init 46 = .ok (.aload_n 0, 1) := by decide +kernel
theorem dX6_init_47 : decode cX6_init 47 = .ok (.iconst 2, 1) := by decide +kernel
theorem dX6_init_48 : decode cX6_init 48 = .ok (.anewarray 22, 3) := by decide +kernel
theorem dX6_init_51 : decode cX6_init 51 = .ok (.dup, 1) := by decide +kernel
theorem dX6_init_52 : decode cX6_init 52 = .ok (.iconst 0, 1) := by decide +kernel
theorem dX6_init_53 : decode cX6_init 53 = .ok (.iconst 4, 1) := by decide +kernel
theorem dX6_init_54 : decode cX6_init 54 = .ok (.newarray .int, 2) := by decide +kernel
theorem dX6_init_56 : decode cX6_init 56 = .ok (.aastore, 1) := by decide +kernel
theorem dX6_init_57 : decode cX6_init 57 = .ok (.dup, 1) := by decide +kernel
theorem dX6_init_58 : decode cX6_init 58 = .ok (.iconst 1, 1) := by decide +kernel
theorem dX6_init_59 : decode cX6_init 59 = .ok (.iconst 4, 1) := by decide +kernel
theorem dX6_init_60 : decode cX6_init 60 = .ok (.newarray .int, 2) := by decide +kernel
theorem dX6_init_62 : decode cX6_init 62 = .ok (.aastore, 1) := by decide +kernel
theorem dX6_init_63 : decode cX6_init 63 = .ok (.putfield 35, 3) := by decide +kernel
theorem dX6_init_66 : decode cX6_init 66 = .ok (.aload_n 0, 1) := by decide +kernel
theorem dX6_init_67 : decode cX6_init 67 = .ok (.iconst 2, 1) := by decide +kernel
theorem dX6_init_68 : decode cX6_init 68 = .ok (.bipush 64, 2) := by decide +kernel
theorem dX6_init_70 : decode cX6_init 70 = .ok (.multianewarray 38 2, 4) := by decide +kernel
theorem dX6_init_74 : decode cX6_init 74 = .ok (.putfield 40, 3) := by decide +kernel
theorem dX6_init_77 : decode cX6_init 77 = .ok (.aload_n 0, 1) := by decide +kernel
theorem dX6_init_78 : decode cX6_init 78 = .ok (.iconst 0, 1) := by decide +kernel
theorem dX6_init_79 : decode cX6_init 79 = .ok (.anewarray 22, 3) := by decide +kernel
theorem dX6_init_82 : decode cX6_init 82 = .ok (.putfield 43, 3) := by decide +kernel
theorem dX6_init_85 : decode cX6_init 85 = .ok (.aload_n 0, 1) := by decide +kernel
theorem dX6_init_86 : decode cX6_init 86 = .ok (.iconst 2, 1) := by decide +kernel
theorem dX6_init_87 : decode cX6_init 87 = .ok (.newarray .int, 2) := by decide +kernel
theorem dX6_init_89 : decode cX6_init 89 = .ok (.putfield 46, 3) := by decide +kernel
theorem dX6_init_92 : decode cX6_init 92 = .ok (.aload_n 0, 1) := by decide +kernel
theorem dX6_init_93 : decode cX6_init 93 = .ok (.aload_n 1, 1) := by decide +kernel
theorem dX6_init_94 : decode cX6_init 94 = .ok (.putfield 49, 3) := by decide +kernel
theorem dX6_init_97 : decode cX6_init 97 = .ok (.aload_n 0, 1) := by decide +kernel
theorem dX6_init_98 : decode cX6_init 98 = .ok (.iload_n 2, 1) := by decide +kernel
theorem dX6_init_99 : decode cX6_init 99 = .ok (.putfield 52, 3) := by decide +kernel
theorem dX6_init_102 : decode cX6_init 102 = .ok (.aload_n 0, 1) := by decide +kernel
theorem dX6_init_103 : decode cX6_init 103 = .ok (.getfield 35, 3) := by decide +kernel
theorem dX6_init_106 : decode cX6_init 106 = .ok (.astore_n 3, 1) := by decide +kernel
theorem dX6_init_107 : decode cX6_init 107 = .ok (.aload_n 3, 1) := by decide +kernel
theorem dX6_init_108 : decode cX6_init 108 = .ok (.arraylength, 1) := by decide +kernel
theorem dX6_init_109 : decode cX6_init 109 = .ok (.istore 4, 2) := by decide +kernel
theorem dX6_init_111 : decode cX6_init 111 = .ok (.iconst 0, 1) := by decide +kernel
theorem dX6_init_112 : decode cX6_init 112 = .ok (.istore 5, 2) := by decide +kernel
theorem dX6_init_114 : decode cX6_init 114 = .ok (.iload 5, 2) := by decide +kernel
theorem dX6_init_116 : decode cX6_init 116 = .ok (.iload 4, 2) := by decide +kernel
theorem dX6_init_118 : decode cX6_init 118 = .ok (.if_icmp .ge 30, 3) := by decide +kernel
theorem dX6_init_121 : decode cX6_init 121 = .ok (.aload_n 3, 1) := by decide +kernel
theorem dX6_init_122 : decode cX6_init 122 = .ok (.iload 5, 2) := by decide +kernel
theorem dX6_init_124 : decode cX6_init 124 = .ok (.aaload, 1) := by decide +kernel
theorem dX6_init_125 : decode cX6_init 125 = .ok (.astore 6, 2) := by decide +kernel
theorem dX6_init_127 : decode cX6_init 127 = .ok (.aload 6, 2) := by decide +kernel
theorem dX6_init_129 : decode cX6_init 129 = .ok (.iconst 0, 1) := by decide +kernel
theorem dX6_init_130 : decode cX6_init 130 = .ok (.iconst (-1), 1) := by decide +kernel
theorem dX6_init_131 : decode cX6_init 131 = .ok (.iastore, 1) := by decide +kernel
theorem dX6_init_132 : decode cX6_init 132 = .ok (.aload 6, 2) := by decide +kernel
theorem dX6_init_134 : decode cX6_init 134 = .ok (.iconst 1, 1) := by decide +kernel
theorem dX6_init_135 : decode cX6_init 135 = .ok (.iconst (-1), 1) := by decide +kernel
theorem dX6_init_136 : decode cX6_init 136 = .ok (.iastore, 1) := by decide +kernel
theorem dX6_init_137 : decode cX6_init 137 = .ok (.aload 6, 2) := by decide +kernel
theorem dX6_init_139 : decode cX6_init 139 = .ok (.iconst 3, 1) := by decide +kernel
theorem dX6_init_140 : decode cX6_init 140 = .ok (.iconst (-1), 1) := by decide +kernel
theorem dX6_init_141 : decode cX6_init 141 = .ok (.iastore, 1) := by decide +kernel
theorem dX6_init_142 : decode cX6_init 142 = .ok (.iinc 5 1, 3) := by decide +kernel
theorem dX6_init_145 : decode cX6_init 145 = .ok (.goto (-31), 3) := by decide +kernel
theorem dX6_init_148 : decode cX6_init 148 = .ok (.return_, 1) := by decide +kernel
theorem dX6_draw_0 : decode cX6_draw 0 = .ok (.aload_n 0, 1) := by decide +kernel
theorem dX6_draw_1 : decode cX6_draw 1 = .ok (.getfield 49, 3) := by decide +kernel
theorem dX6_draw_4 : decode cX6_draw 4 = .ok (.aload_n 0, 1) := by decide +kernel
theorem dX6_draw_5 : decode cX6_draw 5 = .ok (.getfield 52, 3) := by decide +kernel
theorem dX6_draw_8 : decode cX6_draw 8 = .ok (.bipush 24, 2) := by decide +kernel
theorem dX6_draw_10 : decode cX6_draw 10 = .ok (.irem, 1) := by decide +kernel
theorem dX6_draw_11 : decode cX6_draw 11 = .ok (.invokestatic 56, 3) := by decide +kernel
theorem dX6_draw_14 : decode cX6_draw 14 = .ok (.aload_n 0, 1) := by decide +kernel
theorem dX6_draw_15 : decode cX6_draw 15 = .ok (.getfield 52, 3) := by decide +kernel
theorem dX6_draw_18 : decode cX6_draw 18 = .ok (.bipush 24, 2) := by decide +kernel
theorem dX6_draw_20 : decode cX6_draw 20 = .ok (.idiv, 1) := by decide +kernel
theorem dX6_draw_21 : decode cX6_draw 21 = .ok (.bipush 8, 2) := by decide +kernel
theorem dX6_draw_23 : decode cX6_draw 23 = .ok (.irem, 1) := by decide +kernel
theorem dX6_draw_24 : decode cX6_draw 24 = .ok (.ishr, 1) := by decide +kernel
theorem dX6_draw_25 : decode cX6_draw 25 = .ok (.sipush 397, 3) := by decide +kernel
theorem dX6_draw_28 : decode cX6_draw 28 = .ok (.aload_n 0, 1) := by decide +kernel
theorem dX6_draw_29 : decode cX6_draw 29 = .ok (.getfield 52, 3) := by decide +kernel
theorem dX6_draw_32 : decode cX6_draw 32 = .ok (.imul, 1) := by decide +kernel
theorem dX6_draw_33 : decode cX6_draw 33 = .ok (.iadd, 1) := by decide +kernel
theorem dX6_draw_34 : decode cX6_draw 34 = .ok (.iload_n 1, 1) := by decide +kernel
theorem dX6_draw_35 : decode cX6_draw 35 = .ok (.invokestatic 62, 3) := by decide +kernel
theorem dX6_draw_38 : decode cX6_draw 38 = .ok (.istore_n 2, 1) := by decide +kernel
theorem dX6_draw_39 : decode cX6_draw 39 = .ok (.aload_n 0, 1) := by decide +kernel
theorem dX6_draw_40 : decode cX6_draw 40 = .ok (.dup, 1) := by decide +kernel
theorem dX6_draw_41 : decode cX6_draw 41 = .ok (.getfield 52, 3) := by decide +kernel
theorem dX6_draw_44 : decode cX6_draw 44 = .ok (.iconst 1, 1) := by decide +kernel
theorem dX6_draw_45 : decode cX6_draw 45 = .ok (.iadd, 1) := by decide +kernel
theorem dX6_draw_46 : decode cX6_draw 46 = .ok (.putfield 52, 3) := by decide +kernel
theorem dX6_draw_49 : decode cX6_draw 49 = .ok (.iload_n 2, 1) := by decide +kernel
theorem dX6_draw_50 : decode cX6_draw 50 = .ok (.ireturn, 1) := by decide +kernel
theorem dX6_plus_0 : decode cX6_plus 0 = .ok (.aload_n 0, 1) := by decide +kernel
theorem dX6_plus_1 : decode cX6_plus 1 = .ok (.arraylength, 1) := by decide +kernel
theorem dX6_plus_2 : decode cX6_plus 2 = .ok (.iconst 1, 1) := by decide +kernel
theorem dX6_plus_3 : decode cX6_plus 3 = .ok (.iadd, 1) := by decide +kernel
theorem dX6_plus_4 : decode cX6_plus 4 = .ok (.anewarray 22, 3) := by decide +kernel
theorem dX6_plus_7 : decode cX6_plus 7 = .ok (.astore_n 2, 1) := by decide +kernel
theorem dX6_plus_8 : decode cX6_plus 8 = .ok (.aload_n 0, 1) := by decide +kernel
theorem dX6_plus_9 : decode cX6_plus 9 = .ok (.iconst 0, 1) := by decide +kernel
theorem dX6_plus_10 : decode cX6_plus 10 = .ok (.aload_n 2, 1) := by decide +kernel
theorem dX6_plus_11 : decode cX6_plus 11 = .ok (.iconst 0, 1) := by decide +kernel
theorem dX6_plus_12 : decode cX6_plus 12 = .ok (.aload_n 0, 1) := by decide +kernel
theorem dX6_plus_13 : decode cX6_plus 13 = .ok (.arraylength, 1) := by decide +kernel
theorem dX6_plus_14 : decode cX6_plus 14 = .ok (.invokestatic 66, 3) := by decide +kernel
theorem dX6_plus_17 : decode cX6_plus 17 = .ok (.aload_n 2, 1) := by decide +kernel
theorem dX6_plus_18 : decode cX6_plus 18 = .ok (.aload_n 0, 1) := by decide +kernel
theorem dX6_plus_19 : decode cX6_plus 19 = .ok (.arraylength, 1) := by decide +kernel
theorem dX6_plus_20 : decode cX6_plus 20 = .ok (.aload_n 1, 1) := by decide +kernel
theorem dX6_plus_21 : decode cX6_plus 21 = .ok (.aastore, 1) := by decide +kernel
theorem dX6_plus_22 : decode cX6_plus 22 = .ok (.aload_n 2, 1) := by decide +kernel
theorem dX6_plus_23 : decode cX6_plus 23 = .ok (.areturn, 1) := by decide +kernel
theorem dX6_piece_0 : decode cX6_piece 0 = .ok (.aload_n 0, 1) := by decide +kernel
theorem dX6_piece_1 : decode cX6_piece 1 = .ok (.getfield 18, 3) := by decide +kernel
theorem dX6_piece_4 : decode cX6_piece 4 = .ok (.arraylength, 1) := by decide +kernel
theorem dX6_piece_5 : decode cX6_piece 5 = .ok (.iconst 1, 1) := by decide +kernel
theorem dX6_piece_6 : decode cX6_piece 6 = .ok (.iadd, 1) := by decide +kernel
theorem dX6_piece_7 : decode cX6_piece 7 = .ok (.anewarray 16, 3) := by decide +kernel
theorem dX6_piece_10 : decode cX6_piece 10 = .ok (.astore_n 1, 1) := by decide +kernel
theorem dX6_piece_11 : decode cX6_piece 11 = .ok (.aload_n 0, 1) := by decide +kernel
theorem dX6_piece_12 : decode cX6_piece 12 = .ok (.getfield 18, 3) := by decide +kernel
theorem dX6_piece_15 : decode cX6_piece 15 = .ok (.iconst 0, 1) := by decide +kernel
theorem dX6_piece_16 : decode cX6_piece 16 = .ok (.aload_n 1, 1) := by decide +kernel
theorem dX6_piece_17 : decode cX6_piece 17 = .ok (.iconst 0, 1) := by decide +kernel
theorem dX6_piece_18 : decode cX6_piece 18 = .ok (.aload_n 0, 1) := by decide +kernel
theorem dX6_piece_19 : decode cX6_piece 19 = .ok (.getfield 18, 3) := by decide +kernel
theorem dX6_piece_22 : decode cX6_piece 22 = .ok (.arraylength, 1) := by decide +kernel
theorem dX6_piece_23 : decode cX6_piece 23 = .ok (.invokestatic 66, 3) := by decide +kernel
theorem dX6_piece_26 : decode cX6_piece 26 = .ok (.aload_n 1, 1) := by decide +kernel
theorem dX6_piece_27 : decode cX6_piece 27 = .ok (.aload_n 0, 1) := by decide +kernel
theorem dX6_piece_28 : decode cX6_piece 28 = .ok (.getfield 18, 3) := by decide +kernel
theorem dX6_piece_31 : decode cX6_piece 31 = .ok (.arraylength, 1) := by decide +kernel
theorem dX6_piece_32 : decode cX6_piece 32 = .ok (.sipush 512, 3) := by decide +kernel
theorem dX6_piece_35 : decode cX6_piece 35 = .ok (.newarray .boolean, 2) := by decide +kernel
theorem dX6_piece_37 : decode cX6_piece 37 = .ok (.aastore, 1) := by decide +kernel
theorem dX6_piece_38 : decode cX6_piece 38 = .ok (.aload_n 0, 1) := by decide +kernel
theorem dX6_piece_39 : decode cX6_piece 39 = .ok (.aload_n 1, 1) := by decide +kernel
theorem dX6_piece_40 : decode cX6_piece 40 = .ok (.putfield 18, 3) := by decide +kernel
theorem dX6_piece_43 : decode cX6_piece 43 = .ok (.aload_n 0, 1) := by decide +kernel
theorem dX6_piece_44 : decode cX6_piece 44 = .ok (.aload_n 0, 1) := by decide +kernel
theorem dX6_piece_45 : decode cX6_piece 45 = .ok (.getfield 24, 3) := by decide +kernel
theorem dX6_piece_48 : decode cX6_piece 48 = .ok (.bipush 11, 2) := by decide +kernel
theorem dX6_piece_50 : decode cX6_piece 50 = .ok (.newarray .int, 2) := by decide +kernel
theorem dX6_piece_52 : decode cX6_piece 52 = .ok (.dup, 1) := by decide +kernel
theorem dX6_piece_53 : decode cX6_piece 53 = .ok (.iconst 0, 1) := by decide +kernel
theorem dX6_piece_54 : decode cX6_piece 54 = .ok (.iconst 0, 1) := by decide +kernel
theorem dX6_piece_55 : decode cX6_piece 55 = .ok (.iastore, 1) := by decide +kernel
theorem dX6_piece_56 : decode cX6_piece 56 = .ok (.dup, 1) := by decide +kernel
theorem dX6_piece_57 : decode cX6_piece 57 = .ok (.iconst 1, 1) := by decide +kernel
theorem dX6_piece_58 : decode cX6_piece 58 = .ok (.iconst 0, 1) := by decide +kernel
theorem dX6_piece_59 : decode cX6_piece 59 = .ok (.iastore, 1) := by decide +kernel
theorem dX6_piece_60 : decode cX6_piece 60 = .ok (.dup, 1) := by decide +kernel
theorem dX6_piece_61 : decode cX6_piece 61 = .ok (.iconst 2, 1) := by decide +kernel
theorem dX6_piece_62 : decode cX6_piece 62 = .ok (.iconst 0, 1) := by decide +kernel
theorem dX6_piece_63 : decode cX6_piece 63 = .ok (.iastore, 1) := by decide +kernel
theorem dX6_piece_64 : decode cX6_piece 64 = .ok (.dup, 1) := by decide +kernel
theorem dX6_piece_65 : decode cX6_piece 65 = .ok (.iconst 3, 1) := by decide +kernel
theorem dX6_piece_66 : decode cX6_piece 66 = .ok (.iconst 0, 1) := by decide +kernel
theorem dX6_piece_67 : decode cX6_piece 67 = .ok (.iastore, 1) := by decide +kernel
theorem dX6_piece_68 : decode cX6_piece 68 = .ok (.dup, 1) := by decide +kernel
theorem dX6_piece_69 : decode cX6_piece 69 = .ok (.iconst 4, 1) := by decide +kernel
theorem dX6_piece_70 : decode cX6_piece 70 = .ok (.iconst 0, 1) := by decide +kernel
theorem dX6_piece_71 : decode cX6_piece 71 = .ok (.iastore, 1) := by decide +kernel
theorem dX6_piece_72 : decode cX6_piece 72 = .ok (.dup, 1) := by decide +kernel
theorem dX6_piece_73 : decode cX6_piece 73 = .ok (.iconst 5, 1) := by decide +kernel
theorem dX6_piece_74 : decode cX6_piece 74 = .ok (.iconst (-1), 1) := by decide +kernel
theorem dX6_piece_75 : decode cX6_piece 75 = .ok (.iastore, 1) := by decide +kernel
theorem dX6_piece_76 : decode cX6_piece 76 = .ok (.dup, 1) := by decide +kernel
theorem dX6_piece_77 : decode cX6_piece 77 = .ok (.bipush 6, 2) := by decide +kernel
theorem dX6_piece_79 : decode cX6_piece 79 = .ok (.iconst (-1), 1) := by decide +kernel
theorem dX6_piece_80 : decode cX6_piece 80 = .ok (.iastore, 1) := by decide +kernel
theorem dX6_piece_81 : decode cX6_piece 81 = .ok (.dup, 1) := by decide +kernel
theorem dX6_piece_82 : decode cX6_piece 82 = .ok (.bipush 7, 2) := by decide +kernel
theorem dX6_piece_84 : decode cX6_piece 84 = .ok (.iconst (-1), 1) := by decide +kernel
theorem dX6_piece_85 : decode cX6_piece 85 = .ok (.iastore, 1) := by decide +kernel
theorem dX6_piece_86 : decode cX6_piece 86 = .ok (.dup, 1) := by decide +kernel
theorem dX6_piece_87 : decode cX6_piece 87 = .ok (.bipush 8, 2) := by decide +kernel
theorem dX6_piece_89 : decode cX6_piece 89 = .ok (.iconst (-1), 1) := by decide +kernel
theorem dX6_piece_90 : decode cX6_piece 90 = .ok (.iastore, 1) := by decide +kernel
theorem dX6_piece_91 : decode cX6_piece 91 = .ok (.dup, 1) := by decide +kernel
theorem dX6_piece_92 : decode cX6_piece 92 = .ok (.bipush 9, 2) := by decide +kernel
theorem dX6_piece_94 : decode cX6_piece 94 = .ok (.iconst (-1), 1) := by decide +kernel
theorem dX6_piece_95 : decode cX6_piece 95 = .ok (.iastore, 1) := by decide +kernel
theorem dX6_piece_96 : decode cX6_piece 96 = .ok (.dup, 1) := by decide +kernel
theorem dX6_piece_97 : decode cX6_piece 97 = .ok (.bipush 10, 2) := by decide +kernel
theorem dX6_piece_99 : decode cX6_piece 99 = .ok (.iconst (-1), 1) := by decide +kernel
theorem dX6_piece_100 : decode cX6_piece 100 = .ok (.iastore, 1) := by decide +kernel
theorem dX6_piece_101 : decode cX6_piece 101 = .ok (.invokestatic 72, 3) := by decide +kernel
theorem dX6_piece_104 : decode cX6_piece 104 = .ok (.putfield 24, 3) := by decide +kernel
theorem dX6_piece_107 : decode cX6_piece 107 = .ok (.aload_n 0, 1) := by decide +kernel
theorem dX6_piece_108 : decode cX6_piece 108 = .ok (.getfield 10, 3) := by decide +kernel
theorem dX6_piece_111 : decode cX6_piece 111 = .ok (.invokevirtual 76, 3) := by decide +kernel
theorem dX6_piece_114 : decode cX6_piece 114 = .ok (.aload_n 0, 1) := by decide +kernel
theorem dX6_piece_115 : decode cX6_piece 115 = .ok (.getfield 18, 3) := by decide +kernel
theorem dX6_piece_118 : decode cX6_piece 118 = .ok (.arraylength, 1) := by decide +kernel
theorem dX6_piece_119 : decode cX6_piece 119 = .ok (.iconst 1, 1) := by decide +kernel
theorem dX6_piece_120 : decode cX6_piece 120 = .ok (.isub, 1) := by decide +kernel
theorem dX6_piece_121 : decode cX6_piece 121 = .ok (.if_icmp .ne 7, 3) := by decide +kernel
theorem dX6_piece_124 : decode cX6_piece 124 = .ok (.iconst 1, 1) := by decide +kernel
theorem dX6_piece_125 : decode cX6_piece 125 = .ok (.goto 4, 3) := by decide +kernel
theorem dX6_piece_128 : decode cX6_piece 128 = .ok (.iconst 0, 1) := by decide +kernel
theorem dX6_piece_129 : decode cX6_piece 129 = .ok (.ireturn, 1) := by decide +kernel
theorem dX6_layer_0 : decode cX6_layer 0 = .ok (.lconst 0, 1) := by decide +kernel
theorem dX6_layer_1 : decode cX6_layer 1 = .ok (.lstore_n 3, 1) := by decide +kernel
theorem dX6_layer_2 : decode cX6_layer 2 = .ok (.iconst 0, 1) := by decide +kernel
theorem dX6_layer_3 : decode cX6_layer 3 = .ok (.istore 5, 2) := by decide +kernel
theorem dX6_layer_5 : decode cX6_layer 5 = .ok (.iconst 0, 1) := by decide +kernel
theorem dX6_layer_6 : decode cX6_layer 6 = .ok (.istore 6, 2) := by decide +kernel
theorem dX6_layer_8 : decode cX6_layer 8 = .ok (.iload 6, 2) := by decide +kernel
theorem dX6_layer_10 : decode cX6_layer 10 = .ok (.bipush 64, 2) := by decide +kernel
theorem dX6_layer_12 : decode cX6_layer 12 = .ok (.if_icmp .ge 24, 3) := by decide +kernel
theorem dX6_layer_15 : decode cX6_layer 15 = .ok (.aload_n 0, 1) := by decide +kernel
theorem dX6_layer_16 : decode cX6_layer 16 = .ok (.getfield 18, 3) := by decide +kernel
theorem dX6_layer_19 : decode cX6_layer 19 = .ok (.iload_n 1, 1) := by decide +kernel
theorem dX6_layer_20 : decode cX6_layer 20 = .ok (.aaload, 1) := by decide +kernel
theorem dX6_layer_21 : decode cX6_layer 21 = .ok (.bipush 64, 2) := by decide +kernel
theorem dX6_layer_23 : decode cX6_layer 23 = .ok (.iload_n 2, 1) := by decide +kernel
theorem dX6_layer_24 : decode cX6_layer 24 = .ok (.imul, 1) := by decide +kernel
theorem dX6_layer_25 : decode cX6_layer 25 = .ok (.iload 6, 2) := by decide +kernel
theorem dX6_layer_27 : decode cX6_layer 27 = .ok (.iadd, 1) := by decide +kernel
theorem dX6_layer_28 : decode cX6_layer 28 = .ok (.iconst 0, 1) := by decide +kernel
theorem dX6_layer_29 : decode cX6_layer 29 = .ok (.bastore, 1) := by decide +kernel
theorem dX6_layer_30 : decode cX6_layer 30 = .ok (.iinc 6 1, 3) := by decide +kernel
theorem dX6_layer_33 : decode cX6_layer 33 = .ok (.goto (-25), 3) := by decide +kernel
theorem dX6_layer_36 : decode cX6_layer 36 = .ok (.aload_n 0, 1) := by decide +kernel
theorem dX6_layer_37 : decode cX6_layer 37 = .ok (.iconst 3, 1) := by decide +kernel
theorem dX6_layer_38 : decode cX6_layer 38 = .ok (.invokevirtual 80, 3) := by decide +kernel
theorem dX6_layer_41 : decode cX6_layer 41 = .ok (.istore 6, 2) := by decide +kernel
theorem dX6_layer_43 : decode cX6_layer 43 = .ok (.iload 6, 2) := by decide +kernel
theorem dX6_layer_45 : decode cX6_layer 45 = .ok (.ifCond .lt 130, 3) := by decide +kernel
theorem dX6_layer_48 : decode cX6_layer 48 = .ok (.aload_n 0, 1) := by decide +kernel
theorem dX6_layer_49 : decode cX6_layer 49 = .ok (.bipush 8, 2) := by decide +kernel
theorem dX6_layer_51 : decode cX6_layer 51 = .ok (.invokevirtual 80, 3) := by decide +kernel
theorem dX6_layer_54 : decode cX6_layer 54 = .ok (.istore 7, 2) := by decide +kernel
theorem dX6_layer_56 : decode cX6_layer 56 = .ok (.aload_n 0, 1) := by decide +kernel
theorem dX6_layer_57 : decode cX6_layer 57 = .ok (.bipush 8, 2) := by decide +kernel
theorem dX6_layer_59 : decode cX6_layer 59 = .ok (.invokevirtual 80, 3) := by decide +kernel
theorem dX6_layer_62 : decode cX6_layer 62 = .ok (.istore 8, 2) := by decide +kernel
theorem dX6_layer_64 : decode cX6_layer 64 = .ok (.iconst 1, 1) := by decide +kernel
theorem dX6_layer_65 : decode cX6_layer 65 = .ok (.aload_n 0, 1) := by decide +kernel
theorem dX6_layer_66 : decode cX6_layer 66 = .ok (.iconst 4, 1) := by decide +kernel
theorem dX6_layer_67 : decode cX6_layer 67 = .ok (.invokevirtual 80, 3) := by decide +kernel
theorem dX6_layer_70 : decode cX6_layer 70 = .ok (.iadd, 1) := by decide +kernel
theorem dX6_layer_71 : decode cX6_layer 71 = .ok (.istore 9, 2) := by decide +kernel
theorem dX6_layer_73 : decode cX6_layer 73 = .ok (.iconst 1, 1) := by decide +kernel
theorem dX6_layer_74 : decode cX6_layer 74 = .ok (.aload_n 0, 1) := by decide +kernel
theorem dX6_layer_75 : decode cX6_layer 75 = .ok (.iconst 3, 1) := by decide +kernel
theorem dX6_layer_76 : decode cX6_layer 76 = .ok (.invokevirtual 80, 3) := by decide +kernel
theorem dX6_layer_79 : decode cX6_layer 79 = .ok (.iadd, 1) := by decide +kernel
theorem dX6_layer_80 : decode cX6_layer 80 = .ok (.istore 10, 2) := by decide +kernel
theorem dX6_layer_82 : decode cX6_layer 82 = .ok (.iconst 0, 1) := by decide +kernel
theorem dX6_layer_83 : decode cX6_layer 83 = .ok (.istore 11, 2) := by decide +kernel
theorem dX6_layer_85 : decode cX6_layer 85 = .ok (.iload 11, 2) := by decide +kernel
theorem dX6_layer_87 : decode cX6_layer 87 = .ok (.bipush 64, 2) := by decide +kernel
theorem dX6_layer_89 : decode cX6_layer 89 = .ok (.if_icmp .ge 80, 3) := by decide +kernel
theorem dX6_layer_92 : decode cX6_layer 92 = .ok (.iload 11, 2) := by decide +kernel
theorem dX6_layer_94 : decode cX6_layer 94 = .ok (.bipush 8, 2) := by decide +kernel
theorem dX6_layer_96 : decode cX6_layer 96 = .ok (.irem, 1) := by decide +kernel
theorem dX6_layer_97 : decode cX6_layer 97 = .ok (.iload 7, 2) := by decide +kernel
theorem dX6_layer_99 : decode cX6_layer 99 = .ok (.if_icmp .lt 64, 3) := by decide +kernel
theorem dX6_layer_102 : decode cX6_layer 102 = .ok (.iload 11, 2) := by decide +kernel
theorem dX6_layer_104 : decode cX6_layer 104 = .ok (.bipush 8, 2) := by decide +kernel
theorem dX6_layer_106 : decode cX6_layer 106 = .ok (.irem, 1) := by decide +kernel
theorem dX6_layer_107 : decode cX6_layer 107 = .ok (.iload 7, 2) := by decide +kernel
theorem dX6_layer_109 : decode cX6_layer 109 = .ok (.iload 9, 2) := by decide +kernel
theorem dX6_layer_111 : decode cX6_layer 111 = .ok (.iadd, 1) := by decide +kernel
theorem dX6_layer_112 : decode cX6_layer 112 = .ok (.if_icmp .ge 51, 3) := by decide +kernel
theorem dX6_layer_115 : decode cX6_layer 115 = .ok (.iload 11, 2) := by decide +kernel
theorem dX6_layer_117 : decode cX6_layer 117 = .ok (.bipush 8, 2) := by decide +kernel
theorem dX6_layer_119 : decode cX6_layer 119 = .ok (.idiv, 1) := by decide +kernel
theorem dX6_layer_120 : decode cX6_layer 120 = .ok (.iload 8, 2) := by decide +kernel
theorem dX6_layer_122 : decode cX6_layer 122 = .ok (.if_icmp .lt 41, 3) := by decide +kernel
theorem dX6_layer_125 : decode cX6_layer 125 = .ok (.iload 11, 2) := by decide +kernel
theorem dX6_layer_127 : decode cX6_layer 127 = .ok (.bipush 8, 2) := by decide +kernel
theorem dX6_layer_129 : decode cX6_layer 129 = .ok (.idiv, 1) := by decide +kernel
theorem dX6_layer_130 : decode cX6_layer 130 = .ok (.iload 8, 2) := by decide +kernel
theorem dX6_layer_132 : decode cX6_layer 132 = .ok (.iload 10, 2) := by decide +kernel
theorem dX6_layer_134 : decode cX6_layer 134 = .ok (.iadd, 1) := by decide +kernel
theorem dX6_layer_135 : decode cX6_layer 135 = .ok (.if_icmp .lt 6, 3) := by decide +kernel
theorem dX6_layer_138 : decode cX6_layer 138 = .ok (.goto 25, 3) := by decide +kernel
theorem dX6_layer_141 : decode cX6_layer 141 = .ok (.lload_n 3, 1) := by decide +kernel
theorem dX6_layer_142 : decode cX6_layer 142 = .ok (.lconst 1, 1) := by decide +kernel
theorem dX6_layer_143 : decode cX6_layer 143 = .ok (.iload 11, 2) := by decide +kernel
theorem dX6_layer_145 : decode cX6_layer 145 = .ok (.lshl, 1) := by decide +kernel
theorem dX6_layer_146 : decode cX6_layer 146 = .ok (.lor, 1) := by decide +kernel
theorem dX6_layer_147 : decode cX6_layer 147 = .ok (.lstore_n 3, 1) := by decide +kernel
theorem dX6_layer_148 : decode cX6_layer 148 = .ok (.aload_n 0, 1) := by decide +kernel
theorem dX6_layer_149 : decode cX6_layer 149 = .ok (.getfield 18, 3) := by decide +kernel
theorem dX6_layer_152 : decode cX6_layer 152 = .ok (.iload_n 1, 1) := by decide +kernel
theorem dX6_layer_153 : decode cX6_layer 153 = .ok (.aaload, 1) := by decide +kernel
theorem dX6_layer_154 : decode cX6_layer 154 = .ok (.bipush 64, 2) := by decide +kernel
theorem dX6_layer_156 : decode cX6_layer 156 = .ok (.iload_n 2, 1) := by decide +kernel
theorem dX6_layer_157 : decode cX6_layer 157 = .ok (.imul, 1) := by decide +kernel
theorem dX6_layer_158 : decode cX6_layer 158 = .ok (.iload 11, 2) := by decide +kernel
theorem dX6_layer_160 : decode cX6_layer 160 = .ok (.iadd, 1) := by decide +kernel
theorem dX6_layer_161 : decode cX6_layer 161 = .ok (.iconst 1, 1) := by decide +kernel
theorem dX6_layer_162 : decode cX6_layer 162 = .ok (.bastore, 1) := by decide +kernel
theorem dX6_layer_163 : decode cX6_layer 163 = .ok (.iinc 11 1, 3) := by decide +kernel
theorem dX6_layer_166 : decode cX6_layer 166 = .ok (.goto (-81), 3) := by decide +kernel
theorem dX6_layer_169 : decode cX6_layer 169 = .ok (.iinc 6 (-1), 3) := by decide +kernel
theorem dX6_layer_172 : decode cX6_layer 172 = .ok (.goto (-129), 3) := by decide +kernel
theorem dX6_layer_175 : decode cX6_layer 175 = .ok (.iconst 0, 1) := by decide +kernel
theorem dX6_layer_176 : decode cX6_layer 176 = .ok (.istore 6, 2) := by decide +kernel
theorem dX6_layer_178 : decode cX6_layer 178 = .ok (.iload 6, 2) := by decide +kernel
theorem dX6_layer_180 : decode cX6_layer 180 = .ok (.bipush 64, 2) := by decide +kernel
theorem dX6_layer_182 : decode cX6_layer 182 = .ok (.if_icmp .ge 36, 3) := by decide +kernel
theorem dX6_layer_185 : decode cX6_layer 185 = .ok (.iload 5, 2) := by decide +kernel
theorem dX6_layer_187 : decode cX6_layer 187 = .ok (.aload_n 0, 1) := by decide +kernel
theorem dX6_layer_188 : decode cX6_layer 188 = .ok (.getfield 18, 3) := by decide +kernel
theorem dX6_layer_191 : decode cX6_layer 191 = .ok (.iload_n 1, 1) := by decide +kernel
theorem dX6_layer_192 : decode cX6_layer 192 = .ok (.aaload, 1) := by decide +kernel
theorem dX6_layer_193 : decode cX6_layer 193 = .ok (.bipush 64, 2) := by decide +kernel
theorem dX6_layer_195 : decode cX6_layer 195 = .ok (.iload_n 2, 1) := by decide +kernel
theorem dX6_layer_196 : decode cX6_layer 196 = .ok (.imul, 1) := by decide +kernel
theorem dX6_layer_197 : decode cX6_layer 197 = .ok (.iload 6, 2) := by decide +kernel
theorem dX6_layer_199 : decode cX6_layer 199 = .ok (.iadd, 1) := by decide +kernel
theorem dX6_layer_200 : decode cX6_layer 200 = .ok (.baload, 1) := by decide +kernel
theorem dX6_layer_201 : decode cX6_layer 201 = .ok (.ifCond .eq 7, 3) := by decide +kernel
theorem dX6_layer_204 : decode cX6_layer 204 = .ok (.iconst 1, 1) := by decide +kernel
theorem dX6_layer_205 : decode cX6_layer 205 = .ok (.goto 4, 3) := by decide +kernel
theorem dX6_layer_208 : decode cX6_layer 208 = .ok (.iconst 0, 1) := by decide +kernel
theorem dX6_layer_209 : decode cX6_layer 209 = .ok (.iadd, 1) := by decide +kernel
theorem dX6_layer_210 : decode cX6_layer 210 = .ok (.istore 5, 2) := by decide +kernel
theorem dX6_layer_212 : decode cX6_layer 212 = .ok (.iinc 6 1, 3) := by decide +kernel
theorem dX6_layer_215 : decode cX6_layer 215 = .ok (.goto (-37), 3) := by decide +kernel
theorem dX6_layer_218 : decode cX6_layer 218 = .ok (.aload_n 0, 1) := by decide +kernel
theorem dX6_layer_219 : decode cX6_layer 219 = .ok (.getfield 10, 3) := by decide +kernel
theorem dX6_layer_222 : decode cX6_layer 222 = .ok (.iload_n 1, 1) := by decide +kernel
theorem dX6_layer_223 : decode cX6_layer 223 = .ok (.iload_n 2, 1) := by decide +kernel
theorem dX6_layer_224 : decode cX6_layer 224 = .ok (.lload_n 3, 1) := by decide +kernel
theorem dX6_layer_225 : decode cX6_layer 225 = .ok (.invokevirtual 84, 3) := by decide +kernel
theorem dX6_layer_228 : decode cX6_layer 228 = .ok (.iload 5, 2) := by decide +kernel
theorem dX6_layer_230 : decode cX6_layer 230 = .ok (.if_icmp .ne 7, 3) := by decide +kernel
theorem dX6_layer_233 : decode cX6_layer 233 = .ok (.iconst 1, 1) := by decide +kernel
theorem dX6_layer_234 : decode cX6_layer 234 = .ok (.goto 4, 3) := by decide +kernel
theorem dX6_layer_237 : decode cX6_layer 237 = .ok (.iconst 0, 1) := by decide +kernel
theorem dX6_layer_238 : decode cX6_layer 238 = .ok (.ireturn, 1) := by decide +kernel
theorem dJ13_bitCount_95d88_0 : decode cJ13_bitCount_95d88 0 = .ok (.lload_n 0, 1) := by decide +kernel
theorem dJ13_bitCount_95d88_1 : decode cJ13_bitCount_95d88 1 = .ok (.lload_n 0, 1) := by decide +kernel
theorem dJ13_bitCount_95d88_2 : decode cJ13_bitCount_95d88 2 = .ok (.iconst 1, 1) := by decide +kernel
theorem dJ13_bitCount_95d88_3 : decode cJ13_bitCount_95d88 3 = .ok (.lushr, 1) := by decide +kernel
theorem dJ13_bitCount_95d88_4 : decode cJ13_bitCount_95d88 4 = .ok (.ldc2_w 314, 3) := by decide +kernel
theorem dJ13_bitCount_95d88_7 : decode cJ13_bitCount_95d88 7 = .ok (.land, 1) := by decide +kernel
theorem dJ13_bitCount_95d88_8 : decode cJ13_bitCount_95d88 8 = .ok (.lsub, 1) := by decide +kernel
theorem dJ13_bitCount_95d88_9 : decode cJ13_bitCount_95d88 9 = .ok (.lstore_n 0, 1) := by decide +kernel
theorem dJ13_bitCount_95d88_10 : decode cJ13_bitCount_95d88 10 = .ok (.lload_n 0, 1) := by decide +kernel
theorem dJ13_bitCount_95d88_11 : decode cJ13_bitCount_95d88 11 = .ok (.ldc2_w 316, 3) := by decide +kernel
theorem dJ13_bitCount_95d88_14 : decode cJ13_bitCount_95d88 14 = .ok (.land, 1) := by decide +kernel
theorem dJ13_bitCount_95d88_15 : decode cJ13_bitCount_95d88 15 = .ok (.lload_n 0, 1) := by decide +kernel
theorem dJ13_bitCount_95d88_16 : decode cJ13_bitCount_95d88 16 = .ok (.iconst 2, 1) := by decide +kernel
theorem dJ13_bitCount_95d88_17 : decode cJ13_bitCount_95d88 17 = .ok (.lushr, 1) := by decide +kernel
theorem dJ13_bitCount_95d88_18 : decode cJ13_bitCount_95d88 18 = .ok (.ldc2_w 316, 3) := by decide +kernel
theorem dJ13_bitCount_95d88_21 : decode cJ13_bitCount_95d88 21 = .ok (.land, 1) := by decide +kernel
theorem dJ13_bitCount_95d88_22 : decode cJ13_bitCount_95d88 22 = .ok (.ladd, 1) := by decide +kernel
theorem dJ13_bitCount_95d88_23 : decode cJ13_bitCount_95d88 23 = .ok (.lstore_n 0, 1) := by decide +kernel
theorem dJ13_bitCount_95d88_24 : decode cJ13_bitCount_95d88 24 = .ok (.lload_n 0, 1) := by decide +kernel
theorem dJ13_bitCount_95d88_25 : decode cJ13_bitCount_95d88 25 = .ok (.lload_n 0, 1) := by decide +kernel
theorem dJ13_bitCount_95d88_26 : decode cJ13_bitCount_95d88 26 = .ok (.iconst 4, 1) := by decide +kernel
theorem dJ13_bitCount_95d88_27 : decode cJ13_bitCount_95d88 27 = .ok (.lushr, 1) := by decide +kernel
theorem dJ13_bitCount_95d88_28 : decode cJ13_bitCount_95d88 28 = .ok (.ladd, 1) := by decide +kernel
theorem dJ13_bitCount_95d88_29 : decode cJ13_bitCount_95d88 29 = .ok (.ldc2_w 318, 3) := by decide +kernel
theorem dJ13_bitCount_95d88_32 : decode cJ13_bitCount_95d88 32 = .ok (.land, 1) := by decide +kernel
theorem dJ13_bitCount_95d88_33 : decode cJ13_bitCount_95d88 33 = .ok (.lstore_n 0, 1) := by decide +kernel
theorem dJ13_bitCount_95d88_34 : decode cJ13_bitCount_95d88 34 = .ok (.lload_n 0, 1) := by decide +kernel
theorem dJ13_bitCount_95d88_35 : decode cJ13_bitCount_95d88 35 = .ok (.lload_n 0, 1) := by decide +kernel
theorem dJ13_bitCount_95d88_36 : decode cJ13_bitCount_95d88 36 = .ok (.bipush 8, 2) := by decide +kernel
theorem dJ13_bitCount_95d88_38 : decode cJ13_bitCount_95d88 38 = .ok (.lushr, 1) := by decide +kernel
theorem dJ13_bitCount_95d88_39 : decode cJ13_bitCount_95d88 39 = .ok (.ladd, 1) := by decide +kernel
theorem dJ13_bitCount_95d88_40 : decode cJ13_bitCount_95d88 40 = .ok (.lstore_n 0, 1) := by decide +kernel
theorem dJ13_bitCount_95d88_41 : decode cJ13_bitCount_95d88 41 = .ok (.lload_n 0, 1) := by decide +kernel
theorem dJ13_bitCount_95d88_42 : decode cJ13_bitCount_95d88 42 = .ok (.lload_n 0, 1) := by decide +kernel
theorem dJ13_bitCount_95d88_43 : decode cJ13_bitCount_95d88 43 = .ok (.bipush 16, 2) := by decide +kernel
theorem dJ13_bitCount_95d88_45 : decode cJ13_bitCount_95d88 45 = .ok (.lushr, 1) := by decide +kernel
theorem dJ13_bitCount_95d88_46 : decode cJ13_bitCount_95d88 46 = .ok (.ladd, 1) := by decide +kernel
theorem dJ13_bitCount_95d88_47 : decode cJ13_bitCount_95d88 47 = .ok (.lstore_n 0, 1) := by decide +kernel
theorem dJ13_bitCount_95d88_48 : decode cJ13_bitCount_95d88 48 = .ok (.lload_n 0, 1) := by decide +kernel
theorem dJ13_bitCount_95d88_49 : decode cJ13_bitCount_95d88 49 = .ok (.lload_n 0, 1) := by decide +kernel
theorem dJ13_bitCount_95d88_50 : decode cJ13_bitCount_95d88 50 = .ok (.bipush 32, 2) := by decide +kernel
theorem dJ13_bitCount_95d88_52 : decode cJ13_bitCount_95d88 52 = .ok (.lushr, 1) := by decide +kernel
theorem dJ13_bitCount_95d88_53 : decode cJ13_bitCount_95d88 53 = .ok (.ladd, 1) := by decide +kernel
theorem dJ13_bitCount_95d88_54 : decode cJ13_bitCount_95d88 54 = .ok (.lstore_n 0, 1) := by decide +kernel
theorem dJ13_bitCount_95d88_55 : decode cJ13_bitCount_95d88 55 = .ok (.lload_n 0, 1) := by decide +kernel
theorem dJ13_bitCount_95d88_56 : decode cJ13_bitCount_95d88 56 = .ok (.l2i, 1) := by decide +kernel
theorem dJ13_bitCount_95d88_57 : decode cJ13_bitCount_95d88 57 = .ok (.bipush 127, 2) := by decide +kernel
theorem dJ13_bitCount_95d88_59 : decode cJ13_bitCount_95d88 59 = .ok (.iand, 1) := by decide +kernel
theorem dJ13_bitCount_95d88_60 : decode cJ13_bitCount_95d88 60 = .ok (.ireturn, 1) := by decide +kernel
theorem dJ9_max_7cf53_0 : decode cJ9_max_7cf53 0 = .ok (.iload_n 0, 1) := by decide +kernel
theorem dJ9_max_7cf53_1 : decode cJ9_max_7cf53 1 = .ok (.iload_n 1, 1) := by decide +kernel
theorem dJ9_max_7cf53_2 : decode cJ9_max_7cf53 2 = .ok (.if_icmp .lt 7, 3) := by decide +kernel
theorem dJ9_max_7cf53_5 : decode cJ9_max_7cf53 5 = .ok (.iload_n 0, 1) := by decide +kernel
theorem dJ9_max_7cf53_6 : decode cJ9_max_7cf53 6 = .ok (.goto 4, 3) := by decide +kernel
theorem dJ9_max_7cf53_9 : decode cJ9_max_7cf53 9 = .ok (.iload_n 1, 1) := by decide +kernel
theorem dJ9_max_7cf53_10 : decode cJ9_max_7cf53 10 = .ok (.ireturn, 1) := by decide +kernel
theorem dJ9_min_7cf53_0 : decode cJ9_min_7cf53 0 = .ok (.iload_n 0, 1) := by decide +kernel
theorem dJ9_min_7cf53_1 : decode cJ9_min_7cf53 1 = .ok (.iload_n 1, 1) := by decide +kernel
theorem dJ9_min_7cf53_2 : decode cJ9_min_7cf53 2 = .ok (.if_icmp .gt 7, 3) := by decide +kernel
theorem dJ9_min_7cf53_5 : decode cJ9_min_7cf53 5 = .ok (.iload_n 0, 1) := by decide +kernel
theorem dJ9_min_7cf53_6 : decode cJ9_min_7cf53 6 = .ok (.goto 4, 3) := by decide +kernel
theorem dJ9_min_7cf53_9 : decode cJ9_min_7cf53 9 = .ok (.iload_n 1, 1) := by decide +kernel
theorem dJ9_min_7cf53_10 : decode cJ9_min_7cf53 10 = .ok (.ireturn, 1) := by decide +kernel
theorem dJ7_fill_d0a16_0 : decode cJ7_fill_d0a16 0 = .ok (.iconst 0, 1) := by decide +kernel
theorem dJ7_fill_d0a16_1 : decode cJ7_fill_d0a16 1 = .ok (.istore_n 3, 1) := by decide +kernel
theorem dJ7_fill_d0a16_2 : decode cJ7_fill_d0a16 2 = .ok (.aload_n 0, 1) := by decide +kernel
theorem dJ7_fill_d0a16_3 : decode cJ7_fill_d0a16 3 = .ok (.arraylength, 1) := by decide +kernel
theorem dJ7_fill_d0a16_4 : decode cJ7_fill_d0a16 4 = .ok (.istore 4, 2) := by decide +kernel
theorem dJ7_fill_d0a16_6 : decode cJ7_fill_d0a16 6 = .ok (.iload_n 3, 1) := by decide +kernel
theorem dJ7_fill_d0a16_7 : decode cJ7_fill_d0a16 7 = .ok (.iload 4, 2) := by decide +kernel
theorem dJ7_fill_d0a16_9 : decode cJ7_fill_d0a16 9 = .ok (.if_icmp .ge 13, 3) := by decide +kernel
theorem dJ7_fill_d0a16_12 : decode cJ7_fill_d0a16 12 = .ok (.aload_n 0, 1) := by decide +kernel
theorem dJ7_fill_d0a16_13 : decode cJ7_fill_d0a16 13 = .ok (.iload_n 3, 1) := by decide +kernel
theorem dJ7_fill_d0a16_14 : decode cJ7_fill_d0a16 14 = .ok (.lload_n 1, 1) := by decide +kernel
theorem dJ7_fill_d0a16_15 : decode cJ7_fill_d0a16 15 = .ok (.lastore, 1) := by decide +kernel
theorem dJ7_fill_d0a16_16 : decode cJ7_fill_d0a16 16 = .ok (.iinc 3 1, 3) := by decide +kernel
theorem dJ7_fill_d0a16_19 : decode cJ7_fill_d0a16 19 = .ok (.goto (-13), 3) := by decide +kernel
theorem dJ7_fill_d0a16_22 : decode cJ7_fill_d0a16 22 = .ok (.return_, 1) := by decide +kernel
theorem dJ7_fill_7f8df_0 : decode cJ7_fill_7f8df 0 = .ok (.iconst 0, 1) := by decide +kernel
theorem dJ7_fill_7f8df_1 : decode cJ7_fill_7f8df 1 = .ok (.istore_n 3, 1) := by decide +kernel
theorem dJ7_fill_7f8df_2 : decode cJ7_fill_7f8df 2 = .ok (.aload_n 0, 1) := by decide +kernel
theorem dJ7_fill_7f8df_3 : decode cJ7_fill_7f8df 3 = .ok (.arraylength, 1) := by decide +kernel
theorem dJ7_fill_7f8df_4 : decode cJ7_fill_7f8df 4 = .ok (.istore 4, 2) := by decide +kernel
theorem dJ7_fill_7f8df_6 : decode cJ7_fill_7f8df 6 = .ok (.iload_n 3, 1) := by decide +kernel
theorem dJ7_fill_7f8df_7 : decode cJ7_fill_7f8df 7 = .ok (.iload 4, 2) := by decide +kernel
theorem dJ7_fill_7f8df_9 : decode cJ7_fill_7f8df 9 = .ok (.if_icmp .ge 13, 3) := by decide +kernel
theorem dJ7_fill_7f8df_12 : decode cJ7_fill_7f8df 12 = .ok (.aload_n 0, 1) := by decide +kernel
theorem dJ7_fill_7f8df_13 : decode cJ7_fill_7f8df 13 = .ok (.iload_n 3, 1) := by decide +kernel
theorem dJ7_fill_7f8df_14 : decode cJ7_fill_7f8df 14 = .ok (.dload_n 1, 1) := by decide +kernel
theorem dJ7_fill_7f8df_15 : decode cJ7_fill_7f8df 15 = .ok (.dastore, 1) := by decide +kernel
theorem dJ7_fill_7f8df_16 : decode cJ7_fill_7f8df 16 = .ok (.iinc 3 1, 3) := by decide +kernel
theorem dJ7_fill_7f8df_19 : decode cJ7_fill_7f8df 19 = .ok (.goto (-13), 3) := by decide +kernel
theorem dJ7_fill_7f8df_22 : decode cJ7_fill_7f8df 22 = .ok (.return_, 1) := by decide +kernel
theorem dL_below_0 : decode cL_below 0 = .ok (.iload_n 0, 1) := by decide +kernel
theorem dL_below_1 : decode cL_below 1 = .ok (.ldc 7, 2) := by decide +kernel
theorem dL_below_3 : decode cL_below 3 = .ok (.iand, 1) := by decide +kernel
theorem dL_below_4 : decode cL_below 4 = .ok (.iload_n 1, 1) := by decide +kernel
theorem dL_below_5 : decode cL_below 5 = .ok (.irem, 1) := by decide +kernel
theorem dL_below_6 : decode cL_below 6 = .ok (.ireturn, 1) := by decide +kernel
theorem dL_cell_0 : decode cL_cell 0 = .ok (.iload_n 1, 1) := by decide +kernel
theorem dL_cell_1 : decode cL_cell 1 = .ok (.aload_n 0, 1) := by decide +kernel
theorem dL_cell_2 : decode cL_cell 2 = .ok (.arraylength, 1) := by decide +kernel
theorem dL_cell_3 : decode cL_cell 3 = .ok (.if_icmp .ge 9, 3) := by decide +kernel
theorem dL_cell_6 : decode cL_cell 6 = .ok (.aload_n 0, 1) := by decide +kernel
theorem dL_cell_7 : decode cL_cell 7 = .ok (.iload_n 1, 1) := by decide +kernel
theorem dL_cell_8 : decode cL_cell 8 = .ok (.iaload, 1) := by decide +kernel
theorem dL_cell_9 : decode cL_cell 9 = .ok (.goto 9, 3) := by decide +kernel
theorem dL_cell_12 : decode cL_cell 12 = .ok (.ldc 8, 2) := by decide +kernel
theorem dL_cell_14 : decode cL_cell 14 = .ok (.iload_n 1, 1) := by decide +kernel
theorem dL_cell_15 : decode cL_cell 15 = .ok (.iconst 3, 1) := by decide +kernel
theorem dL_cell_16 : decode cL_cell 16 = .ok (.iadd, 1) := by decide +kernel
theorem dL_cell_17 : decode cL_cell 17 = .ok (.imul, 1) := by decide +kernel
theorem dL_cell_18 : decode cL_cell 18 = .ok (.ireturn, 1) := by decide +kernel
theorem dL_sum_0 : decode cL_sum 0 = .ok (.iconst 0, 1) := by decide +kernel
theorem dL_sum_1 : decode cL_sum 1 = .ok (.istore_n 3, 1) := by decide +kernel
theorem dL_sum_2 : decode cL_sum 2 = .ok (.iconst 0, 1) := by decide +kernel
theorem dL_sum_3 : decode cL_sum 3 = .ok (.istore 4, 2) := by decide +kernel
theorem dL_sum_5 : decode cL_sum 5 = .ok (.iload 4, 2) := by decide +kernel
theorem dL_sum_7 : decode cL_sum 7 = .ok (.iload_n 2, 1) := by decide +kernel
theorem dL_sum_8 : decode cL_sum 8 = .ok (.if_icmp .ge 51, 3) := by decide +kernel
theorem dL_sum_11 : decode cL_sum 11 = .ok (.iconst 0, 1) := by decide +kernel
theorem dL_sum_12 : decode cL_sum 12 = .ok (.istore 5, 2) := by decide +kernel
theorem dL_sum_14 : decode cL_sum 14 = .ok (.iload 5, 2) := by decide +kernel
theorem dL_sum_16 : decode cL_sum 16 = .ok (.bipush 64, 2) := by decide +kernel
theorem dL_sum_18 : decode cL_sum 18 = .ok (.if_icmp .ge 35, 3) := by decide +kernel
theorem dL_sum_21 : decode cL_sum 21 = .ok (.iload_n 3, 1) := by decide +kernel
theorem dL_sum_22 : decode cL_sum 22 = .ok (.aload_n 0, 1) := by decide +kernel
theorem dL_sum_23 : decode cL_sum 23 = .ok (.iload_n 1, 1) := by decide +kernel
theorem dL_sum_24 : decode cL_sum 24 = .ok (.iload 4, 2) := by decide +kernel
theorem dL_sum_26 : decode cL_sum 26 = .ok (.iconst 0, 1) := by decide +kernel
theorem dL_sum_27 : decode cL_sum 27 = .ok (.invokevirtual 52, 3) := by decide +kernel
theorem dL_sum_30 : decode cL_sum 30 = .ok (.iload 5, 2) := by decide +kernel
theorem dL_sum_32 : decode cL_sum 32 = .ok (.lushr, 1) := by decide +kernel
theorem dL_sum_33 : decode cL_sum 33 = .ok (.lconst 1, 1) := by decide +kernel
theorem dL_sum_34 : decode cL_sum 34 = .ok (.land, 1) := by decide +kernel
theorem dL_sum_35 : decode cL_sum 35 = .ok (.lconst 1, 1) := by decide +kernel
theorem dL_sum_36 : decode cL_sum 36 = .ok (.lcmp, 1) := by decide +kernel
theorem dL_sum_37 : decode cL_sum 37 = .ok (.ifCond .ne 7, 3) := by decide +kernel
theorem dL_sum_40 : decode cL_sum 40 = .ok (.iconst 1, 1) := by decide +kernel
theorem dL_sum_41 : decode cL_sum 41 = .ok (.goto 4, 3) := by decide +kernel
theorem dL_sum_44 : decode cL_sum 44 = .ok (.iconst 0, 1) := by decide +kernel
theorem dL_sum_45 : decode cL_sum 45 = .ok (.iadd, 1) := by decide +kernel
theorem dL_sum_46 : decode cL_sum 46 = .ok (.istore_n 3, 1) := by decide +kernel
theorem dL_sum_47 : decode cL_sum 47 = .ok (.iinc 5 1, 3) := by decide +kernel
theorem dL_sum_50 : decode cL_sum 50 = .ok (.goto (-36), 3) := by decide +kernel
theorem dL_sum_53 : decode cL_sum 53 = .ok (.iinc 4 1, 3) := by decide +kernel
theorem dL_sum_56 : decode cL_sum 56 = .ok (.goto (-51), 3) := by decide +kernel
theorem dL_sum_59 : decode cL_sum 59 = .ok (.iload_n 3, 1) := by decide +kernel
theorem dL_sum_60 : decode cL_sum 60 = .ok (.ireturn, 1) := by decide +kernel
