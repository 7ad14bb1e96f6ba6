theorem dX0_init_0 : decode cX0_init 0 = .ok (.aload_n 0, 1) := by decide +kernel
theorem dX0_init_1 : decode cX0_init 1 = .ok (.invokespecial 3, 3) := by decide +kernel
theorem dX0_init_4 : decode cX0_init 4 = .ok (.aload_n 0, 1) := by decide +kernel
theorem dX0_init_5 : decode cX0_init 5 = .ok (.iconst (-1), 1) := by decide +kernel
theorem dX0_init_6 : decode cX0_init 6 = .ok (.putfield 9, 3) := by decide +kernel
theorem dX0_init_9 : decode cX0_init 9 = .ok (.aload_n 0, 1) := by decide +kernel
theorem dX0_init_10 : decode cX0_init 10 = .ok (.iconst 4, 1) := by decide +kernel
theorem dX0_init_11 : decode cX0_init 11 = .ok (.newarray .int, 2) := by decide +kernel
theorem dX0_init_13 : decode cX0_init 13 = .ok (.putfield 15, 3) := by decide +kernel
theorem dX0_init_16 : decode cX0_init 16 = .ok (.aload_n 0, 1) := by decide +kernel
theorem dX0_init_17 : decode cX0_init 17 = .ok (.iload_n 1, 1) := by decide +kernel
theorem dX0_init_18 : decode cX0_init 18 = .ok (.putfield 19, 3) := by decide +kernel
theorem dX0_init_21 : decode cX0_init 21 = .ok (.return_, 1) := by decide +kernel
theorem dX0_putIn_0 : decode cX0_putIn 0 = .ok (.aload_n 0, 1) := by decide +kernel
theorem dX0_putIn_1 : decode cX0_putIn 1 = .ok (.aload_n 1, 1) := by decide +kernel
theorem dX0_putIn_2 : decode cX0_putIn 2 = .ok (.putfield 22, 3) := by decide +kernel
theorem dX0_putIn_5 : decode cX0_putIn 5 = .ok (.aload_n 0, 1) := by decide +kernel
theorem dX0_putIn_6 : decode cX0_putIn 6 = .ok (.aload_n 1, 1) := by decide +kernel
theorem dX0_putIn_7 : decode cX0_putIn 7 = .ok (.getfield 26, 3) := by decide +kernel
theorem dX0_putIn_10 : decode cX0_putIn 10 = .ok (.putfield 31, 3) := by decide +kernel
theorem dX0_putIn_13 : decode cX0_putIn 13 = .ok (.aload_n 1, 1) := by decide +kernel
theorem dX0_putIn_14 : decode cX0_putIn 14 = .ok (.iconst 0, 1) := by decide +kernel
theorem dX0_putIn_15 : decode cX0_putIn 15 = .ok (.putfield 26, 3) := by decide +kernel
theorem dX0_putIn_18 : decode cX0_putIn 18 = .ok (.aload_n 1, 1) := by decide +kernel
theorem dX0_putIn_19 : decode cX0_putIn 19 = .ok (.aload_n 0, 1) := by decide +kernel
theorem dX0_putIn_20 : decode cX0_putIn 20 = .ok (.getfield 19, 3) := by decide +kernel
theorem dX0_putIn_23 : decode cX0_putIn 23 = .ok (.putfield 34, 3) := by decide +kernel
theorem dX0_putIn_26 : decode cX0_putIn 26 = .ok (.aload_n 0, 1) := by decide +kernel
theorem dX0_putIn_27 : decode cX0_putIn 27 = .ok (.aload_n 1, 1) := by decide +kernel
theorem dX0_putIn_28 : decode cX0_putIn 28 = .ok (.getfield 37, 3) := by decide +kernel
theorem dX0_putIn_31 : decode cX0_putIn 31 = .ok (.putfield 9, 3) := by decide +kernel
theorem dX0_putIn_34 : decode cX0_putIn 34 = .ok (.return_, 1) := by decide +kernel
theorem dX0_giveBack_0 : decode cX0_giveBack 0 = .ok (.aload_n 0, 1) := by decide +kernel
theorem dX0_giveBack_1 : decode cX0_giveBack 1 = .ok (.getfield 22, 3) := by decide +kernel
theorem dX0_giveBack_4 : decode cX0_giveBack 4 = .ok (.ifnull 47, 3) := by decide +kernel
theorem dX0_giveBack_7 : decode cX0_giveBack 7 = .ok (.aload_n 0, 1) := by decide +kernel
theorem dX0_giveBack_8 : decode cX0_giveBack 8 = .ok (.getfield 22, 3) := by decide +kernel
theorem dX0_giveBack_11 : decode cX0_giveBack 11 = .ok (.dup, 1) := by decide +kernel
theorem dX0_giveBack_12 : decode cX0_giveBack 12 = .ok (.getfield 26, 3) := by decide +kernel
theorem dX0_giveBack_15 : decode cX0_giveBack 15 = .ok (.iload_n 1, 1) := by decide +kernel
theorem dX0_giveBack_16 : decode cX0_giveBack 16 = .ok (.iadd, 1) := by decide +kernel
theorem dX0_giveBack_17 : decode cX0_giveBack 17 = .ok (.putfield 26, 3) := by decide +kernel
theorem dX0_giveBack_20 : decode cX0_giveBack 20 = .ok (.aload_n 0, 1) := by decide +kernel
theorem dX0_giveBack_21 : decode cX0_giveBack 21 = .ok (.getfield 22, 3) := by decide +kernel
theorem dX0_giveBack_24 : decode cX0_giveBack 24 = .ok (.dup, 1) := by decide +kernel
theorem dX0_giveBack_25 : decode cX0_giveBack 25 = .ok (.getfield 40, 3) := by decide +kernel
theorem dX0_giveBack_28 : decode cX0_giveBack 28 = .ok (.iconst 1, 1) := by decide +kernel
theorem dX0_giveBack_29 : decode cX0_giveBack 29 = .ok (.iadd, 1) := by decide +kernel
theorem dX0_giveBack_30 : decode cX0_giveBack 30 = .ok (.putfield 40, 3) := by decide +kernel
theorem dX0_giveBack_33 : decode cX0_giveBack 33 = .ok (.aload_n 0, 1) := by decide +kernel
theorem dX0_giveBack_34 : decode cX0_giveBack 34 = .ok (.getfield 22, 3) := by decide +kernel
theorem dX0_giveBack_37 : decode cX0_giveBack 37 = .ok (.iconst (-1), 1) := by decide +kernel
theorem dX0_giveBack_38 : decode cX0_giveBack 38 = .ok (.putfield 34, 3) := by decide +kernel
theorem dX0_giveBack_41 : decode cX0_giveBack 41 = .ok (.aload_n 0, 1) := by decide +kernel
theorem dX0_giveBack_42 : decode cX0_giveBack 42 = .ok (.aconst_null, 1) := by decide +kernel
theorem dX0_giveBack_43 : decode cX0_giveBack 43 = .ok (.putfield 22, 3) := by decide +kernel
theorem dX0_giveBack_46 : decode cX0_giveBack 46 = .ok (.aload_n 0, 1) := by decide +kernel
theorem dX0_giveBack_47 : decode cX0_giveBack 47 = .ok (.iconst 0, 1) := by decide +kernel
theorem dX0_giveBack_48 : decode cX0_giveBack 48 = .ok (.putfield 31, 3) := by decide +kernel
theorem dX0_giveBack_51 : decode cX0_giveBack 51 = .ok (.return_, 1) := by decide +kernel
theorem dX0_hasProof_0 : decode cX0_hasProof 0 = .ok (.iconst 0, 1) := by decide +kernel
theorem dX0_hasProof_1 : decode cX0_hasProof 1 = .ok (.istore_n 2, 1) := by decide +kernel
theorem dX0_hasProof_2 : decode cX0_hasProof 2 = .ok (.iload_n 2, 1) := by decide +kernel
theorem dX0_hasProof_3 : decode cX0_hasProof 3 = .ok (.aload_n 0, 1) := by decide +kernel
theorem dX0_hasProof_4 : decode cX0_hasProof 4 = .ok (.getfield 43, 3) := by decide +kernel
theorem dX0_hasProof_7 : decode cX0_hasProof 7 = .ok (.if_icmp .ge 21, 3) := by decide +kernel
theorem dX0_hasProof_10 : decode cX0_hasProof 10 = .ok (.aload_n 0, 1) := by decide +kernel
theorem dX0_hasProof_11 : decode cX0_hasProof 11 = .ok (.getfield 15, 3) := by decide +kernel
theorem dX0_hasProof_14 : decode cX0_hasProof 14 = .ok (.iload_n 2, 1) := by decide +kernel
theorem dX0_hasProof_15 : decode cX0_hasProof 15 = .ok (.iaload, 1) := by decide +kernel
theorem dX0_hasProof_16 : decode cX0_hasProof 16 = .ok (.iload_n 1, 1) := by decide +kernel
theorem dX0_hasProof_17 : decode cX0_hasProof 17 = .ok (.if_icmp .ne 5, 3) := by decide +kernel
theorem dX0_hasProof_20 : decode cX0_hasProof 20 = .ok (.iconst 1, 1) := by decide +kernel
theorem dX0_hasProof_21 : decode cX0_hasProof 21 = .ok (.ireturn, 1) := by decide +kernel
theorem dX0_hasProof_22 : decode cX0_hasProof 22 = .ok (.iinc 2 1, 3) := by decide +kernel
theorem dX0_hasProof_25 : decode cX0_hasProof 25 = .ok (.goto (-23), 3) := by decide +kernel
theorem dX0_hasProof_28 : decode cX0_hasProof 28 = .ok (.iconst 0, 1) := by decide +kernel
theorem dX0_hasProof_29 : decode cX0_hasProof 29 = .ok (.ireturn, 1) := by decide +kernel
theorem dX0_addProof_0 : decode cX0_addProof 0 = .ok (.aload_n 0, 1) := by decide +kernel
theorem dX0_addProof_1 : decode cX0_addProof 1 = .ok (.getfield 43, 3) := by decide +kernel
theorem dX0_addProof_4 : decode cX0_addProof 4 = .ok (.iconst 4, 1) := by decide +kernel
theorem dX0_addProof_5 : decode cX0_addProof 5 = .ok (.if_icmp .ge 31, 3) := by decide +kernel
theorem dX0_addProof_8 : decode cX0_addProof 8 = .ok (.aload_n 0, 1) := by decide +kernel
theorem dX0_addProof_9 : decode cX0_addProof 9 = .ok (.iload_n 1, 1) := by decide +kernel
theorem dX0_addProof_10 : decode cX0_addProof 10 = .ok (.invokevirtual 46, 3) := by decide +kernel
theorem dX0_addProof_13 : decode cX0_addProof 13 = .ok (.ifCond .ne 23, 3) := by decide +kernel
theorem dX0_addProof_16 : decode cX0_addProof 16 = .ok (.aload_n 0, 1) := by decide +kernel
theorem dX0_addProof_17 : decode cX0_addProof 17 = .ok (.getfield 15, 3) := by decide +kernel
theorem dX0_addProof_20 : decode cX0_addProof 20 = .ok (.aload_n 0, 1) := by decide +kernel
theorem dX0_addProof_21 : decode cX0_addProof 21 = .ok (.getfield 43, 3) := by decide +kernel
theorem dX0_addProof_24 : decode cX0_addProof 24 = .ok (.iload_n 1, 1) := by decide +kernel
theorem dX0_addProof_25 : decode cX0_addProof 25 = .ok (.iastore, 1) := by decide +kernel
theorem dX0_addProof_26 : decode cX0_addProof 26 = .ok (.aload_n 0, 1) := by decide +kernel
theorem dX0_addProof_27 : decode cX0_addProof 27 = .ok (.dup, 1) := by decide +kernel
theorem dX0_addProof_28 : decode cX0_addProof 28 = .ok (.getfield 43, 3) := by decide +kernel
theorem dX0_addProof_31 : decode cX0_addProof 31 = .ok (.iconst 1, 1) := by decide +kernel
theorem dX0_addProof_32 : decode cX0_addProof 32 = .ok (.iadd, 1) := by decide +kernel
theorem dX0_addProof_33 : decode cX0_addProof 33 = .ok (.putfield 43, 3) := by decide +kernel
theorem dX0_addProof_36 : decode cX0_addProof 36 = .ok (.return_, 1) := by decide +kernel
theorem dX1_init_0 : decode cX1_init 0 = .ok (.aload_n 0, 1) := by decide +kernel
theorem dX1_init_1 : decode cX1_init 1 = .ok (.invokespecial 3, 3) := by decide +kernel
theorem dX1_init_4 : decode cX1_init 4 = .ok (.aload_n 0, 1) := by decide +kernel
theorem dX1_init_5 : decode cX1_init 5 = .ok (.bipush 64, 2) := by decide +kernel
theorem dX1_init_7 : decode cX1_init 7 = .ok (.newarray .double, 2) := by decide +kernel
theorem dX1_init_9 : decode cX1_init 9 = .ok (.putfield 9, 3) := by decide +kernel
theorem dX1_init_12 : decode cX1_init 12 = .ok (.return_, 1) := by decide +kernel
theorem dX1_cool_0 : decode cX1_cool 0 = .ok (.aload_n 0, 1) := by decide +kernel
theorem dX1_cool_1 : decode cX1_cool 1 = .ok (.getfield 9, 3) := by decide +kernel
theorem dX1_cool_4 : decode cX1_cool 4 = .ok (.dconst 0, 1) := by decide +kernel
theorem dX1_cool_5 : decode cX1_cool 5 = .ok (.invokestatic 15, 3) := by decide +kernel
theorem dX1_cool_8 : decode cX1_cool 8 = .ok (.return_, 1) := by decide +kernel
theorem dX1_shine_0 : decode cX1_shine 0 = .ok (.iconst 0, 1) := by decide +kernel
theorem dX1_shine_1 : decode cX1_shine 1 = .ok (.istore 7, 2) := by decide +kernel
theorem dX1_shine_3 : decode cX1_shine 3 = .ok (.iload 7, 2) := by decide +kernel
theorem dX1_shine_5 : decode cX1_shine 5 = .ok (.bipush 64, 2) := by decide +kernel
theorem dX1_shine_7 : decode cX1_shine 7 = .ok (.if_icmp .ge 101, 3) := by decide +kernel
theorem dX1_shine_10 : decode cX1_shine 10 = .ok (.lconst 1, 1) := by decide +kernel
theorem dX1_shine_11 : decode cX1_shine 11 = .ok (.iload 7, 2) := by decide +kernel
theorem dX1_shine_13 : decode cX1_shine 13 = .ok (.lshl, 1) := by decide +kernel
theorem dX1_shine_14 : decode cX1_shine 14 = .ok (.lstore 8, 2) := by decide +kernel
theorem dX1_shine_16 : decode cX1_shine 16 = .ok (.aload_n 0, 1) := by decide +kernel
theorem dX1_shine_17 : decode cX1_shine 17 = .ok (.getfield 9, 3) := by decide +kernel
theorem dX1_shine_20 : decode cX1_shine 20 = .ok (.iload 7, 2) := by decide +kernel
theorem dX1_shine_22 : decode cX1_shine 22 = .ok (.daload, 1) := by decide +kernel
theorem dX1_shine_23 : decode cX1_shine 23 = .ok (.ldc2_w 21, 3) := by decide +kernel
theorem dX1_shine_26 : decode cX1_shine 26 = .ok (.dmul, 1) := by decide +kernel
theorem dX1_shine_27 : decode cX1_shine 27 = .ok (.dstore 10, 2) := by decide +kernel
theorem dX1_shine_29 : decode cX1_shine 29 = .ok (.lload_n 1, 1) := by decide +kernel
theorem dX1_shine_30 : decode cX1_shine 30 = .ok (.lload 8, 2) := by decide +kernel
theorem dX1_shine_32 : decode cX1_shine 32 = .ok (.land, 1) := by decide +kernel
theorem dX1_shine_33 : decode cX1_shine 33 = .ok (.lconst 0, 1) := by decide +kernel
theorem dX1_shine_34 : decode cX1_shine 34 = .ok (.lcmp, 1) := by decide +kernel
theorem dX1_shine_35 : decode cX1_shine 35 = .ok (.ifCond .ne 15, 3) := by decide +kernel
theorem dX1_shine_38 : decode cX1_shine 38 = .ok (.aload_n 0, 1) := by decide +kernel
theorem dX1_shine_39 : decode cX1_shine 39 = .ok (.getfield 9, 3) := by decide +kernel
theorem dX1_shine_42 : decode cX1_shine 42 = .ok (.iload 7, 2) := by decide +kernel
theorem dX1_shine_44 : decode cX1_shine 44 = .ok (.dload 10, 2) := by decide +kernel
theorem dX1_shine_46 : decode cX1_shine 46 = .ok (.dastore, 1) := by decide +kernel
theorem dX1_shine_47 : decode cX1_shine 47 = .ok (.goto 55, 3) := by decide +kernel
theorem dX1_shine_50 : decode cX1_shine 50 = .ok (.aload_n 0, 1) := by decide +kernel
theorem dX1_shine_51 : decode cX1_shine 51 = .ok (.getfield 9, 3) := by decide +kernel
theorem dX1_shine_54 : decode cX1_shine 54 = .ok (.iload 7, 2) := by decide +kernel
theorem dX1_shine_56 : decode cX1_shine 56 = .ok (.dload 10, 2) := by decide +kernel
theorem dX1_shine_58 : decode cX1_shine 58 = .ok (.dload 5, 2) := by decide +kernel
theorem dX1_shine_60 : decode cX1_shine 60 = .ok (.ldc2_w 23, 3) := by decide +kernel
theorem dX1_shine_63 : decode cX1_shine 63 = .ok (.dmul, 1) := by decide +kernel
theorem dX1_shine_64 : decode cX1_shine 64 = .ok (.dadd, 1) := by decide +kernel
theorem dX1_shine_65 : decode cX1_shine 65 = .ok (.dastore, 1) := by decide +kernel
theorem dX1_shine_66 : decode cX1_shine 66 = .ok (.dload 5, 2) := by decide +kernel
theorem dX1_shine_68 : decode cX1_shine 68 = .ok (.aload_n 0, 1) := by decide +kernel
theorem dX1_shine_69 : decode cX1_shine 69 = .ok (.getfield 9, 3) := by decide +kernel
theorem dX1_shine_72 : decode cX1_shine 72 = .ok (.iload 7, 2) := by decide +kernel
theorem dX1_shine_74 : decode cX1_shine 74 = .ok (.daload, 1) := by decide +kernel
theorem dX1_shine_75 : decode cX1_shine 75 = .ok (.dadd, 1) := by decide +kernel
theorem dX1_shine_76 : decode cX1_shine 76 = .ok (.dstore 12, 2) := by decide +kernel
theorem dX1_shine_78 : decode cX1_shine 78 = .ok (.aload_n 0, 1) := by decide +kernel
theorem dX1_shine_79 : decode cX1_shine 79 = .ok (.lload_n 3, 1) := by decide +kernel
theorem dX1_shine_80 : decode cX1_shine 80 = .ok (.lload 8, 2) := by decide +kernel
theorem dX1_shine_82 : decode cX1_shine 82 = .ok (.land, 1) := by decide +kernel
theorem dX1_shine_83 : decode cX1_shine 83 = .ok (.lconst 0, 1) := by decide +kernel
theorem dX1_shine_84 : decode cX1_shine 84 = .ok (.lcmp, 1) := by decide +kernel
theorem dX1_shine_85 : decode cX1_shine 85 = .ok (.ifCond .ne 8, 3) := by decide +kernel
theorem dX1_shine_88 : decode cX1_shine 88 = .ok (.dload 12, 2) := by decide +kernel
theorem dX1_shine_90 : decode cX1_shine 90 = .ok (.goto 9, 3) := by decide +kernel
theorem dX1_shine_93 : decode cX1_shine 93 = .ok (.dload 12, 2) := by decide +kernel
theorem dX1_shine_95 : decode cX1_shine 95 = .ok (.ldc2_w 25, 3) := by decide +kernel
theorem dX1_shine_98 : decode cX1_shine 98 = .ok (.dmul, 1) := by decide +kernel
theorem dX1_shine_99 : decode cX1_shine 99 = .ok (.invokevirtual 27, 3) := by decide +kernel
theorem dX1_shine_102 : decode cX1_shine 102 = .ok (.iinc 7 1, 3) := by decide +kernel
theorem dX1_shine_105 : decode cX1_shine 105 = .ok (.goto (-102), 3) := by decide +kernel
theorem dX1_shine_108 : decode cX1_shine 108 = .ok (.return_, 1) := by decide +kernel
theorem dX1_judge_0 : decode cX1_judge 0 = .ok (.dload_n 1, 1) := by decide +kernel
theorem dX1_judge_1 : decode cX1_judge 1 = .ok (.ldc2_w 31, 3) := by decide +kernel
theorem dX1_judge_4 : decode cX1_judge 4 = .ok (.dcmp .g, 1) := by decide +kernel
theorem dX1_judge_5 : decode cX1_judge 5 = .ok (.ifCond .ge 16, 3) := by decide +kernel
theorem dX1_judge_8 : decode cX1_judge 8 = .ok (.aload_n 0, 1) := by decide +kernel
theorem dX1_judge_9 : decode cX1_judge 9 = .ok (.dup, 1) := by decide +kernel
theorem dX1_judge_10 : decode cX1_judge 10 = .ok (.getfield 33, 3) := by decide +kernel
theorem dX1_judge_13 : decode cX1_judge 13 = .ok (.iconst 1, 1) := by decide +kernel
theorem dX1_judge_14 : decode cX1_judge 14 = .ok (.iadd, 1) := by decide +kernel
theorem dX1_judge_15 : decode cX1_judge 15 = .ok (.putfield 33, 3) := by decide +kernel
theorem dX1_judge_18 : decode cX1_judge 18 = .ok (.goto 21, 3) := by decide +kernel
theorem dX1_judge_21 : decode cX1_judge 21 = .ok (.dload_n 1, 1) := by decide +kernel
theorem dX1_judge_22 : decode cX1_judge 22 = .ok (.ldc2_w 37, 3) := by decide +kernel
theorem dX1_judge_25 : decode cX1_judge 25 = .ok (.dcmp .l, 1) := by decide +kernel
theorem dX1_judge_26 : decode cX1_judge 26 = .ok (.ifCond .le 13, 3) := by decide +kernel
theorem dX1_judge_29 : decode cX1_judge 29 = .ok (.aload_n 0, 1) := by decide +kernel
theorem dX1_judge_30 : decode cX1_judge 30 = .ok (.dup, 1) := by decide +kernel
theorem dX1_judge_31 : decode cX1_judge 31 = .ok (.getfield 39, 3) := by decide +kernel
theorem dX1_judge_34 : decode cX1_judge 34 = .ok (.iconst 1, 1) := by decide +kernel
theorem dX1_judge_35 : decode cX1_judge 35 = .ok (.iadd, 1) := by decide +kernel
theorem dX1_judge_36 : decode cX1_judge 36 = .ok (.putfield 39, 3) := by decide +kernel
theorem dX1_judge_39 : decode cX1_judge 39 = .ok (.return_, 1) := by decide +kernel
theorem dX2_init_0 : decode cX2_init 0 = .ok (.aload_n 0, 1) := by decide +kernel
theorem dX2_init_1 : decode cX2_init 1 = .ok (.invokespecial 3, 3) := by decide +kernel
theorem dX2_init_4 : decode cX2_init 4 = .ok (.aload_n 0, 1) := by decide +kernel
theorem dX2_init_5 : decode cX2_init 5 = .ok (.new 9, 3) := by decide +kernel
theorem dX2_init_8 : decode cX2_init 8 = .ok (.dup, 1) := by decide +kernel
theorem dX2_init_9 : decode cX2_init 9 = .ok (.invokespecial 11, 3) := by decide +kernel
theorem dX2_init_12 : decode cX2_init 12 = .ok (.putfield 12, 3) := by decide +kernel
theorem dX2_init_15 : decode cX2_init 15 = .ok (.aload_n 0, 1) := by decide +kernel
theorem dX2_init_16 : decode cX2_init 16 = .ok (.new 18, 3) := by decide +kernel
theorem dX2_init_19 : decode cX2_init 19 = .ok (.dup, 1) := by decide +kernel
theorem dX2_init_20 : decode cX2_init 20 = .ok (.invokespecial 20, 3) := by decide +kernel
theorem dX2_init_23 : decode cX2_init 23 = .ok (.putfield 21, 3) := by decide +kernel
theorem dX2_init_26 : decode cX2_init 26 = .ok (.aload_n 0, 1) := by decide +kernel
theorem dX2_init_27 : decode cX2_init 27 = .ok (.iconst 0, 1) := by decide +kernel
theorem dX2_init_28 : decode cX2_init 28 = .ok (.putfield 25, 3) := by decide +kernel
theorem dX2_init_31 : decode cX2_init 31 = .ok (.aload_n 0, 1) := by decide +kernel
theorem dX2_init_32 : decode cX2_init 32 = .ok (.iconst (-1), 1) := by decide +kernel
theorem dX2_init_33 : decode cX2_init 33 = .ok (.putfield 29, 3) := by decide +kernel
theorem dX2_init_36 : decode cX2_init 36 = .ok (.aload_n 0, 1) := by decide +kernel
theorem dX2_init_37 : decode cX2_init 37 = .ok (.iconst (-1), 1) := by decide +kernel
theorem dX2_init_38 : decode cX2_init 38 = .ok (.putfield 32, 3) := by decide +kernel
theorem dX2_init_41 : decode cX2_init 41 = .ok (.aload_n 0, 1) := by decide +kernel
theorem dX2_init_42 : decode cX2_init 42 = .ok (.iconst (-1), 1) := by decide +kernel
theorem dX2_init_43 : decode cX2_init 43 = .ok (.putfield 35, 3) := by decide +kernel
theorem dX2_init_46 : decode cX2_init 46 = .ok (.aload_n 0, 1) := by decide +kernel
theorem dX2_init_47 : decode cX2_init 47 = .ok (.iconst (-1), 1) := by decide +kernel
theorem dX2_init_48 : decode cX2_init 48 = .ok (.putfield 38, 3) := by decide +kernel
theorem dX2_init_51 : decode cX2_init 51 = .ok (.aload_n 0, 1) := by decide +kernel
theorem dX2_init_52 : decode cX2_init 52 = .ok (.iconst (-1), 1) := by decide +kernel
theorem dX2_init_53 : decode cX2_init 53 = .ok (.putfield 41, 3) := by decide +kernel
theorem dX2_init_56 : decode cX2_init 56 = .ok (.aload_n 0, 1) := by decide +kernel
theorem dX2_init_57 : decode cX2_init 57 = .ok (.iload_n 1, 1) := by decide +kernel
theorem dX2_init_58 : decode cX2_init 58 = .ok (.putfield 44, 3) := by decide +kernel
theorem dX2_init_61 : decode cX2_init 61 = .ok (.return_, 1) := by decide +kernel
theorem dX2_begin_0 : decode cX2_begin 0 = .ok (.aload_n 0, 1) := by decide +kernel
theorem dX2_begin_1 : decode cX2_begin 1 = .ok (.iconst 1, 1) := by decide +kernel
theorem dX2_begin_2 : decode cX2_begin 2 = .ok (.putfield 25, 3) := by decide +kernel
theorem dX2_begin_5 : decode cX2_begin 5 = .ok (.aload_n 0, 1) := by decide +kernel
theorem dX2_begin_6 : decode cX2_begin 6 = .ok (.aload_n 1, 1) := by decide +kernel
theorem dX2_begin_7 : decode cX2_begin 7 = .ok (.putfield 47, 3) := by decide +kernel
theorem dX2_begin_10 : decode cX2_begin 10 = .ok (.aload_n 0, 1) := by decide +kernel
theorem dX2_begin_11 : decode cX2_begin 11 = .ok (.iload_n 3, 1) := by decide +kernel
theorem dX2_begin_12 : decode cX2_begin 12 = .ok (.putfield 29, 3) := by decide +kernel
theorem dX2_begin_15 : decode cX2_begin 15 = .ok (.aload_n 0, 1) := by decide +kernel
theorem dX2_begin_16 : decode cX2_begin 16 = .ok (.iload 4, 2) := by decide +kernel
theorem dX2_begin_18 : decode cX2_begin 18 = .ok (.putfield 32, 3) := by decide +kernel
theorem dX2_begin_21 : decode cX2_begin 21 = .ok (.aload_n 0, 1) := by decide +kernel
theorem dX2_begin_22 : decode cX2_begin 22 = .ok (.aload_n 2, 1) := by decide +kernel
theorem dX2_begin_23 : decode cX2_begin 23 = .ok (.getfield 51, 3) := by decide +kernel
theorem dX2_begin_26 : decode cX2_begin 26 = .ok (.putfield 35, 3) := by decide +kernel
theorem dX2_begin_29 : decode cX2_begin 29 = .ok (.aload_n 0, 1) := by decide +kernel
theorem dX2_begin_30 : decode cX2_begin 30 = .ok (.aload_n 2, 1) := by decide +kernel
theorem dX2_begin_31 : decode cX2_begin 31 = .ok (.getfield 54, 3) := by decide +kernel
theorem dX2_begin_34 : decode cX2_begin 34 = .ok (.putfield 38, 3) := by decide +kernel
theorem dX2_begin_37 : decode cX2_begin 37 = .ok (.aload_n 0, 1) := by decide +kernel
theorem dX2_begin_38 : decode cX2_begin 38 = .ok (.aload_n 2, 1) := by decide +kernel
theorem dX2_begin_39 : decode cX2_begin 39 = .ok (.getfield 55, 3) := by decide +kernel
theorem dX2_begin_42 : decode cX2_begin 42 = .ok (.sipush 401, 3) := by decide +kernel
theorem dX2_begin_45 : decode cX2_begin 45 = .ok (.imul, 1) := by decide +kernel
theorem dX2_begin_46 : decode cX2_begin 46 = .ok (.iload_n 3, 1) := by decide +kernel
theorem dX2_begin_47 : decode cX2_begin 47 = .ok (.iadd, 1) := by decide +kernel
theorem dX2_begin_48 : decode cX2_begin 48 = .ok (.bipush 21, 2) := by decide +kernel
theorem dX2_begin_50 : decode cX2_begin 50 = .ok (.imul, 1) := by decide +kernel
theorem dX2_begin_51 : decode cX2_begin 51 = .ok (.iload 4, 2) := by decide +kernel
theorem dX2_begin_53 : decode cX2_begin 53 = .ok (.iadd, 1) := by decide +kernel
theorem dX2_begin_54 : decode cX2_begin 54 = .ok (.putfield 41, 3) := by decide +kernel
theorem dX2_begin_57 : decode cX2_begin 57 = .ok (.return_, 1) := by decide +kernel
theorem dX2_addLayer_0 : decode cX2_addLayer 0 = .ok (.aload_n 0, 1) := by decide +kernel
theorem dX2_addLayer_1 : decode cX2_addLayer 1 = .ok (.getfield 12, 3) := by decide +kernel
theorem dX2_addLayer_4 : decode cX2_addLayer 4 = .ok (.getfield 58, 3) := by decide +kernel
theorem dX2_addLayer_7 : decode cX2_addLayer 7 = .ok (.aload_n 0, 1) := by decide +kernel
theorem dX2_addLayer_8 : decode cX2_addLayer 8 = .ok (.getfield 62, 3) := by decide +kernel
theorem dX2_addLayer_11 : decode cX2_addLayer 11 = .ok (.laload, 1) := by decide +kernel
theorem dX2_addLayer_12 : decode cX2_addLayer 12 = .ok (.lstore_n 1, 1) := by decide +kernel
theorem dX2_addLayer_13 : decode cX2_addLayer 13 = .ok (.aload_n 0, 1) := by decide +kernel
theorem dX2_addLayer_14 : decode cX2_addLayer 14 = .ok (.getfield 21, 3) := by decide +kernel
theorem dX2_addLayer_17 : decode cX2_addLayer 17 = .ok (.aload_n 0, 1) := by decide +kernel
theorem dX2_addLayer_18 : decode cX2_addLayer 18 = .ok (.getfield 12, 3) := by decide +kernel
theorem dX2_addLayer_21 : decode cX2_addLayer 21 = .ok (.getfield 65, 3) := by decide +kernel
theorem dX2_addLayer_24 : decode cX2_addLayer 24 = .ok (.aload_n 0, 1) := by decide +kernel
theorem dX2_addLayer_25 : decode cX2_addLayer 25 = .ok (.getfield 62, 3) := by decide +kernel
theorem dX2_addLayer_28 : decode cX2_addLayer 28 = .ok (.laload, 1) := by decide +kernel
theorem dX2_addLayer_29 : decode cX2_addLayer 29 = .ok (.lload_n 1, 1) := by decide +kernel
theorem dX2_addLayer_30 : decode cX2_addLayer 30 = .ok (.aload_n 0, 1) := by decide +kernel
theorem dX2_addLayer_31 : decode cX2_addLayer 31 = .ok (.getfield 29, 3) := by decide +kernel
theorem dX2_addLayer_34 : decode cX2_addLayer 34 = .ok (.aload_n 0, 1) := by decide +kernel
theorem dX2_addLayer_35 : decode cX2_addLayer 35 = .ok (.getfield 32, 3) := by decide +kernel
theorem dX2_addLayer_38 : decode cX2_addLayer 38 = .ok (.invokestatic 68, 3) := by decide +kernel
theorem dX2_addLayer_41 : decode cX2_addLayer 41 = .ok (.invokevirtual 72, 3) := by decide +kernel
theorem dX2_addLayer_44 : decode cX2_addLayer 44 = .ok (.aload_n 0, 1) := by decide +kernel
theorem dX2_addLayer_45 : decode cX2_addLayer 45 = .ok (.aload_n 0, 1) := by decide +kernel
theorem dX2_addLayer_46 : decode cX2_addLayer 46 = .ok (.getfield 76, 3) := by decide +kernel
theorem dX2_addLayer_49 : decode cX2_addLayer 49 = .ok (.ldc2_w 80, 3) := by decide +kernel
theorem dX2_addLayer_52 : decode cX2_addLayer 52 = .ok (.dmul, 1) := by decide +kernel
theorem dX2_addLayer_53 : decode cX2_addLayer 53 = .ok (.ldc2_w 82, 3) := by decide +kernel
theorem dX2_addLayer_56 : decode cX2_addLayer 56 = .ok (.lload_n 1, 1) := by decide +kernel
theorem dX2_addLayer_57 : decode cX2_addLayer 57 = .ok (.invokestatic 84, 3) := by decide +kernel
theorem dX2_addLayer_60 : decode cX2_addLayer 60 = .ok (.i2d, 1) := by decide +kernel
theorem dX2_addLayer_61 : decode cX2_addLayer 61 = .ok (.dmul, 1) := by decide +kernel
theorem dX2_addLayer_62 : decode cX2_addLayer 62 = .ok (.dadd, 1) := by decide +kernel
theorem dX2_addLayer_63 : decode cX2_addLayer 63 = .ok (.putfield 76, 3) := by decide +kernel
theorem dX2_addLayer_66 : decode cX2_addLayer 66 = .ok (.aload_n 0, 1) := by decide +kernel
theorem dX2_addLayer_67 : decode cX2_addLayer 67 = .ok (.dup, 1) := by decide +kernel
theorem dX2_addLayer_68 : decode cX2_addLayer 68 = .ok (.getfield 62, 3) := by decide +kernel
theorem dX2_addLayer_71 : decode cX2_addLayer 71 = .ok (.iconst 1, 1) := by decide +kernel
theorem dX2_addLayer_72 : decode cX2_addLayer 72 = .ok (.iadd, 1) := by decide +kernel
theorem dX2_addLayer_73 : decode cX2_addLayer 73 = .ok (.putfield 62, 3) := by decide +kernel
theorem dX2_addLayer_76 : decode cX2_addLayer 76 = .ok (.return_, 1) := by decide +kernel
theorem dX2_isStruck_0 : decode cX2_isStruck 0 = .ok (.aload_n 0, 1) := by decide +kernel
theorem dX2_isStruck_1 : decode cX2_isStruck 1 = .ok (.getfield 76, 3) := by decide +kernel
theorem dX2_isStruck_4 : decode cX2_isStruck 4 = .ok (.ldc2_w 90, 3) := by decide +kernel
theorem dX2_isStruck_7 : decode cX2_isStruck 7 = .ok (.dcmp .l, 1) := by decide +kernel
theorem dX2_isStruck_8 : decode cX2_isStruck 8 = .ok (.ifCond .le 7, 3) := by decide +kernel
theorem dX2_isStruck_11 : decode cX2_isStruck 11 = .ok (.iconst 1, 1) := by decide +kernel
theorem dX2_isStruck_12 : decode cX2_isStruck 12 = .ok (.goto 4, 3) := by decide +kernel
theorem dX2_isStruck_15 : decode cX2_isStruck 15 = .ok (.iconst 0, 1) := by decide +kernel
theorem dX2_isStruck_16 : decode cX2_isStruck 16 = .ok (.ireturn, 1) := by decide +kernel
theorem dX2_density_0 : decode cX2_density 0 = .ok (.aload_n 0, 1) := by decide +kernel
theorem dX2_density_1 : decode cX2_density 1 = .ok (.getfield 12, 3) := by decide +kernel
theorem dX2_density_4 : decode cX2_density 4 = .ok (.invokevirtual 92, 3) := by decide +kernel
theorem dX2_density_7 : decode cX2_density 7 = .ok (.istore_n 1, 1) := by decide +kernel
theorem dX2_density_8 : decode cX2_density 8 = .ok (.iload_n 1, 1) := by decide +kernel
theorem dX2_density_9 : decode cX2_density 9 = .ok (.ifCond .ne 7, 3) := by decide +kernel
theorem dX2_density_12 : decode cX2_density 12 = .ok (.dconst 0, 1) := by decide +kernel
theorem dX2_density_13 : decode cX2_density 13 = .ok (.goto 24, 3) := by decide +kernel
theorem dX2_density_16 : decode cX2_density 16 = .ok (.dconst 1, 1) := by decide +kernel
theorem dX2_density_17 : decode cX2_density 17 = .ok (.aload_n 0, 1) := by decide +kernel
theorem dX2_density_18 : decode cX2_density 18 = .ok (.getfield 21, 3) := by decide +kernel
theorem dX2_density_21 : decode cX2_density 21 = .ok (.getfield 96, 3) := by decide +kernel
theorem dX2_density_24 : decode cX2_density 24 = .ok (.aload_n 0, 1) := by decide +kernel
theorem dX2_density_25 : decode cX2_density 25 = .ok (.getfield 21, 3) := by decide +kernel
theorem dX2_density_28 : decode cX2_density 28 = .ok (.getfield 99, 3) := by decide +kernel
theorem dX2_density_31 : decode cX2_density 31 = .ok (.iadd, 1) := by decide +kernel
theorem dX2_density_32 : decode cX2_density 32 = .ok (.i2d, 1) := by decide +kernel
theorem dX2_density_33 : decode cX2_density 33 = .ok (.iload_n 1, 1) := by decide +kernel
theorem dX2_density_34 : decode cX2_density 34 = .ok (.i2d, 1) := by decide +kernel
theorem dX2_density_35 : decode cX2_density 35 = .ok (.ddiv, 1) := by decide +kernel
theorem dX2_density_36 : decode cX2_density 36 = .ok (.dsub, 1) := by decide +kernel
theorem dX2_density_37 : decode cX2_density 37 = .ok (.dreturn, 1) := by decide +kernel
theorem dX2_isDense_0 : decode cX2_isDense 0 = .ok (.aload_n 0, 1) := by decide +kernel
theorem dX2_isDense_1 : decode cX2_isDense 1 = .ok (.invokevirtual 102, 3) := by decide +kernel
theorem dX2_isDense_4 : decode cX2_isDense 4 = .ok (.ldc2_w 106, 3) := by decide +kernel
theorem dX2_isDense_7 : decode cX2_isDense 7 = .ok (.dcmp .l, 1) := by decide +kernel
theorem dX2_isDense_8 : decode cX2_isDense 8 = .ok (.ifCond .lt 7, 3) := by decide +kernel
theorem dX2_isDense_11 : decode cX2_isDense 11 = .ok (.iconst 1, 1) := by decide +kernel
theorem dX2_isDense_12 : decode cX2_isDense 12 = .ok (.goto 4, 3) := by decide +kernel
theorem dX2_isDense_15 : decode cX2_isDense 15 = .ok (.iconst 0, 1) := by decide +kernel
theorem dX2_isDense_16 : decode cX2_isDense 16 = .ok (.ireturn, 1) := by decide +kernel
theorem dX3_init_0 : decode cX3_init 0 = .ok (.aload_n 0, 1) := by decide +kernel
theorem dX3_init_1 : decode cX3_init 1 = .ok (.invokespecial 3, 3) := by decide +kernel
theorem dX3_init_4 : decode cX3_init 4 = .ok (.aload_n 0, 1) := by decide +kernel
theorem dX3_init_5 : decode cX3_init 5 = .ok (.iconst (-1), 1) := by decide +kernel
theorem dX3_init_6 : decode cX3_init 6 = .ok (.putfield 9, 3) := by decide +kernel
theorem dX3_init_9 : decode cX3_init 9 = .ok (.aload_n 0, 1) := by decide +kernel
theorem dX3_init_10 : decode cX3_init 10 = .ok (.iload_n 1, 1) := by decide +kernel
theorem dX3_init_11 : decode cX3_init 11 = .ok (.putfield 15, 3) := by decide +kernel
theorem dX3_init_14 : decode cX3_init 14 = .ok (.aload_n 0, 1) := by decide +kernel
theorem dX3_init_15 : decode cX3_init 15 = .ok (.iconst 1, 1) := by decide +kernel
theorem dX3_init_16 : decode cX3_init 16 = .ok (.iload_n 1, 1) := by decide +kernel
theorem dX3_init_17 : decode cX3_init 17 = .ok (.ishl, 1) := by decide +kernel
theorem dX3_init_18 : decode cX3_init 18 = .ok (.putfield 18, 3) := by decide +kernel
theorem dX3_init_21 : decode cX3_init 21 = .ok (.return_, 1) := by decide +kernel
theorem dX3_takeIn_0 : decode cX3_takeIn 0 = .ok (.aload_n 0, 1) := by decide +kernel
theorem dX3_takeIn_1 : decode cX3_takeIn 1 = .ok (.dup, 1) := by decide +kernel
theorem dX3_takeIn_2 : decode cX3_takeIn 2 = .ok (.getfield 21, 3) := by decide +kernel
theorem dX3_takeIn_5 : decode cX3_takeIn 5 = .ok (.aload_n 1, 1) := by decide +kernel
theorem dX3_takeIn_6 : decode cX3_takeIn 6 = .ok (.getfield 21, 3) := by decide +kernel
theorem dX3_takeIn_9 : decode cX3_takeIn 9 = .ok (.iadd, 1) := by decide +kernel
theorem dX3_takeIn_10 : decode cX3_takeIn 10 = .ok (.putfield 21, 3) := by decide +kernel
theorem dX3_takeIn_13 : decode cX3_takeIn 13 = .ok (.aload_n 1, 1) := by decide +kernel
theorem dX3_takeIn_14 : decode cX3_takeIn 14 = .ok (.iconst 0, 1) := by decide +kernel
theorem dX3_takeIn_15 : decode cX3_takeIn 15 = .ok (.putfield 21, 3) := by decide +kernel
theorem dX3_takeIn_18 : decode cX3_takeIn 18 = .ok (.aload_n 0, 1) := by decide +kernel
theorem dX3_takeIn_19 : decode cX3_takeIn 19 = .ok (.aload_n 0, 1) := by decide +kernel
theorem dX3_takeIn_20 : decode cX3_takeIn 20 = .ok (.getfield 24, 3) := by decide +kernel
theorem dX3_takeIn_23 : decode cX3_takeIn 23 = .ok (.aload_n 1, 1) := by decide +kernel
theorem dX3_takeIn_24 : decode cX3_takeIn 24 = .ok (.getfield 24, 3) := by decide +kernel
theorem dX3_takeIn_27 : decode cX3_takeIn 27 = .ok (.invokestatic 27, 3) := by decide +kernel
theorem dX3_takeIn_30 : decode cX3_takeIn 30 = .ok (.putfield 24, 3) := by decide +kernel
theorem dX3_takeIn_33 : decode cX3_takeIn 33 = .ok (.aload_n 0, 1) := by decide +kernel
theorem dX3_takeIn_34 : decode cX3_takeIn 34 = .ok (.dup, 1) := by decide +kernel
theorem dX3_takeIn_35 : decode cX3_takeIn 35 = .ok (.getfield 18, 3) := by decide +kernel
theorem dX3_takeIn_38 : decode cX3_takeIn 38 = .ok (.aload_n 1, 1) := by decide +kernel
theorem dX3_takeIn_39 : decode cX3_takeIn 39 = .ok (.getfield 18, 3) := by decide +kernel
theorem dX3_takeIn_42 : decode cX3_takeIn 42 = .ok (.ior, 1) := by decide +kernel
theorem dX3_takeIn_43 : decode cX3_takeIn 43 = .ok (.putfield 18, 3) := by decide +kernel
theorem dX3_takeIn_46 : decode cX3_takeIn 46 = .ok (.return_, 1) := by decide +kernel
theorem dX4_init_0 : decode cX4_init 0 = .ok (.aload_n 0, 1) := by decide +kernel
theorem dX4_init_1 : decode cX4_init 1 = .ok (.invokespecial 3, 3) := by decide +kernel
theorem dX4_init_4 : decode cX4_init 4 = .ok (.aload_n 0, 1) := by decide +kernel
theorem dX4_init_5 : decode cX4_init 5 = .ok (.bipush 8, 2) := by decide +kernel
theorem dX4_init_7 : decode cX4_init 7 = .ok (.newarray .long, 2) := by decide +kernel
theorem dX4_init_9 : decode cX4_init 9 = .ok (.putfield 9, 3) := by decide +kernel
theorem dX4_init_12 : decode cX4_init 12 = .ok (.aload_n 0, 1) := by decide +kernel
theorem dX4_init_13 : decode cX4_init 13 = .ok (.bipush 8, 2) := by decide +kernel
theorem dX4_init_15 : decode cX4_init 15 = .ok (.newarray .long, 2) := by decide +kernel
theorem dX4_init_17 : decode cX4_init 17 = .ok (.putfield 15, 3) := by decide +kernel
theorem dX4_init_20 : decode cX4_init 20 = .ok (.aload_n 0, 1) := by decide +kernel
theorem dX4_init_21 : decode cX4_init 21 = .ok (.bipush 8, 2) := by decide +kernel
theorem dX4_init_23 : decode cX4_init 23 = .ok (.newarray .long, 2) := by decide +kernel
theorem dX4_init_25 : decode cX4_init 25 = .ok (.putfield 18, 3) := by decide +kernel
theorem dX4_init_28 : decode cX4_init 28 = .ok (.return_, 1) := by decide +kernel
theorem dX4_tell_0 : decode cX4_tell 0 = .ok (.aload_n 0, 1) := by decide +kernel
theorem dX4_tell_1 : decode cX4_tell 1 = .ok (.getfield 9, 3) := by decide +kernel
theorem dX4_tell_4 : decode cX4_tell 4 = .ok (.iload_n 1, 1) := by decide +kernel
theorem dX4_tell_5 : decode cX4_tell 5 = .ok (.lload_n 2, 1) := by decide +kernel
theorem dX4_tell_6 : decode cX4_tell 6 = .ok (.lastore, 1) := by decide +kernel
theorem dX4_tell_7 : decode cX4_tell 7 = .ok (.aload_n 0, 1) := by decide +kernel
theorem dX4_tell_8 : decode cX4_tell 8 = .ok (.invokevirtual 21, 3) := by decide +kernel
theorem dX4_tell_11 : decode cX4_tell 11 = .ok (.return_, 1) := by decide +kernel
theorem dX4_becomeCopy_0 : decode cX4_becomeCopy 0 = .ok (.aload_n 1, 1) := by decide +kernel
theorem dX4_becomeCopy_1 : decode cX4_becomeCopy 1 = .ok (.getfield 9, 3) := by decide +kernel
theorem dX4_becomeCopy_4 : decode cX4_becomeCopy 4 = .ok (.iconst 0, 1) := by decide +kernel
theorem dX4_becomeCopy_5 : decode cX4_becomeCopy 5 = .ok (.aload_n 0, 1) := by decide +kernel
theorem dX4_becomeCopy_6 : decode cX4_becomeCopy 6 = .ok (.getfield 9, 3) := by decide +kernel
theorem dX4_becomeCopy_9 : decode cX4_becomeCopy 9 = .ok (.iconst 0, 1) := by decide +kernel
theorem dX4_becomeCopy_10 : decode cX4_becomeCopy 10 = .ok (.bipush 8, 2) := by decide +kernel
theorem dX4_becomeCopy_12 : decode cX4_becomeCopy 12 = .ok (.invokestatic 24, 3) := by decide +kernel
theorem dX4_becomeCopy_15 : decode cX4_becomeCopy 15 = .ok (.aload_n 0, 1) := by decide +kernel
theorem dX4_becomeCopy_16 : decode cX4_becomeCopy 16 = .ok (.invokevirtual 21, 3) := by decide +kernel
theorem dX4_becomeCopy_19 : decode cX4_becomeCopy 19 = .ok (.return_, 1) := by decide +kernel
theorem dX4_becomeLaid_0 : decode cX4_becomeLaid 0 = .ok (.aload_n 0, 1) := by decide +kernel
theorem dX4_becomeLaid_1 : decode cX4_becomeLaid 1 = .ok (.getfield 9, 3) := by decide +kernel
theorem dX4_becomeLaid_4 : decode cX4_becomeLaid 4 = .ok (.lconst 0, 1) := by decide +kernel
theorem dX4_becomeLaid_5 : decode cX4_becomeLaid 5 = .ok (.invokestatic 30, 3) := by decide +kernel
theorem dX4_becomeLaid_8 : decode cX4_becomeLaid 8 = .ok (.iconst 0, 1) := by decide +kernel
theorem dX4_becomeLaid_9 : decode cX4_becomeLaid 9 = .ok (.istore_n 3, 1) := by decide +kernel
theorem dX4_becomeLaid_10 : decode cX4_becomeLaid 10 = .ok (.iload_n 3, 1) := by decide +kernel
theorem dX4_becomeLaid_11 : decode cX4_becomeLaid 11 = .ok (.bipush 8, 2) := by decide +kernel
theorem dX4_becomeLaid_13 : decode cX4_becomeLaid 13 = .ok (.if_icmp .ge 71, 3) := by decide +kernel
theorem dX4_becomeLaid_16 : decode cX4_becomeLaid 16 = .ok (.aload_n 1, 1) := by decide +kernel
theorem dX4_becomeLaid_17 : decode cX4_becomeLaid 17 = .ok (.getfield 9, 3) := by decide +kernel
theorem dX4_becomeLaid_20 : decode cX4_becomeLaid 20 = .ok (.iload_n 3, 1) := by decide +kernel
theorem dX4_becomeLaid_21 : decode cX4_becomeLaid 21 = .ok (.laload, 1) := by decide +kernel
theorem dX4_becomeLaid_22 : decode cX4_becomeLaid 22 = .ok (.lstore 4, 2) := by decide +kernel
theorem dX4_becomeLaid_24 : decode cX4_becomeLaid 24 = .ok (.iconst 0, 1) := by decide +kernel
theorem dX4_becomeLaid_25 : decode cX4_becomeLaid 25 = .ok (.istore 6, 2) := by decide +kernel
theorem dX4_becomeLaid_27 : decode cX4_becomeLaid 27 = .ok (.iload 6, 2) := by decide +kernel
theorem dX4_becomeLaid_29 : decode cX4_becomeLaid 29 = .ok (.bipush 64, 2) := by decide +kernel
theorem dX4_becomeLaid_31 : decode cX4_becomeLaid 31 = .ok (.if_icmp .ge 47, 3) := by decide +kernel
theorem dX4_becomeLaid_34 : decode cX4_becomeLaid 34 = .ok (.lload 4, 2) := by decide +kernel
theorem dX4_becomeLaid_36 : decode cX4_becomeLaid 36 = .ok (.lconst 0, 1) := by decide +kernel
theorem dX4_becomeLaid_37 : decode cX4_becomeLaid 37 = .ok (.lcmp, 1) := by decide +kernel
theorem dX4_becomeLaid_38 : decode cX4_becomeLaid 38 = .ok (.ifCond .eq 40, 3) := by decide +kernel
theorem dX4_becomeLaid_41 : decode cX4_becomeLaid 41 = .ok (.lload 4, 2) := by decide +kernel
theorem dX4_becomeLaid_43 : decode cX4_becomeLaid 43 = .ok (.lconst 1, 1) := by decide +kernel
theorem dX4_becomeLaid_44 : decode cX4_becomeLaid 44 = .ok (.land, 1) := by decide +kernel
theorem dX4_becomeLaid_45 : decode cX4_becomeLaid 45 = .ok (.lconst 0, 1) := by decide +kernel
theorem dX4_becomeLaid_46 : decode cX4_becomeLaid 46 = .ok (.lcmp, 1) := by decide +kernel
theorem dX4_becomeLaid_47 : decode cX4_becomeLaid 47 = .ok (.ifCond .eq 19, 3) := by decide +kernel
theorem dX4_becomeLaid_50 : decode cX4_becomeLaid 50 = .ok (.aload_n 0, 1) := by decide +kernel
theorem dX4_becomeLaid_51 : decode cX4_becomeLaid 51 = .ok (.iload 6, 2) := by decide +kernel
theorem dX4_becomeLaid_53 : decode cX4_becomeLaid 53 = .ok (.bipush 8, 2) := by decide +kernel
theorem dX4_becomeLaid_55 : decode cX4_becomeLaid 55 = .ok (.irem, 1) := by decide +kernel
theorem dX4_becomeLaid_56 : decode cX4_becomeLaid 56 = .ok (.iload 6, 2) := by decide +kernel
theorem dX4_becomeLaid_58 : decode cX4_becomeLaid 58 = .ok (.bipush 8, 2) := by decide +kernel
theorem dX4_becomeLaid_60 : decode cX4_becomeLaid 60 = .ok (.idiv, 1) := by decide +kernel
theorem dX4_becomeLaid_61 : decode cX4_becomeLaid 61 = .ok (.iload_n 3, 1) := by decide +kernel
theorem dX4_becomeLaid_62 : decode cX4_becomeLaid 62 = .ok (.iload_n 2, 1) := by decide +kernel
theorem dX4_becomeLaid_63 : decode cX4_becomeLaid 63 = .ok (.invokevirtual 36, 3) := by decide +kernel
theorem dX4_becomeLaid_66 : decode cX4_becomeLaid 66 = .ok (.lload 4, 2) := by decide +kernel
theorem dX4_becomeLaid_68 : decode cX4_becomeLaid 68 = .ok (.iconst 1, 1) := by decide +kernel
theorem dX4_becomeLaid_69 : decode cX4_becomeLaid 69 = .ok (.lushr, 1) := by decide +kernel
theorem dX4_becomeLaid_70 : decode cX4_becomeLaid 70 = .ok (.lstore 4, 2) := by decide +kernel
theorem dX4_becomeLaid_72 : decode cX4_becomeLaid 72 = .ok (.iinc 6 1, 3) := by decide +kernel
theorem dX4_becomeLaid_75 : decode cX4_becomeLaid 75 = .ok (.goto (-48), 3) := by decide +kernel
theorem dX4_becomeLaid_78 : decode cX4_becomeLaid 78 = .ok (.iinc 3 1, 3) := by decide +kernel
theorem dX4_becomeLaid_81 : decode cX4_becomeLaid 81 = .ok (.goto (-71), 3) := by decide +kernel
theorem dX4_becomeLaid_84 : decode cX4_becomeLaid 84 = .ok (.aload_n 0, 1) := by decide +kernel
theorem dX4_becomeLaid_85 : decode cX4_becomeLaid 85 = .ok (.invokevirtual 40, 3) := by decide +kernel
theorem dX4_becomeLaid_88 : decode cX4_becomeLaid 88 = .ok (.aload_n 0, 1) := by decide +kernel
theorem dX4_becomeLaid_89 : decode cX4_becomeLaid 89 = .ok (.invokevirtual 21, 3) := by decide +kernel
theorem dX4_becomeLaid_92 : decode cX4_becomeLaid 92 = .ok (.return_, 1) := by decide +kernel
theorem dX4_putLaid_0 : decode cX4_putLaid 0 = .ok (.bipush 7, 2) := by decide +kernel
theorem dX4_putLaid_2 : decode cX4_putLaid 2 = .ok (.istore 5, 2) := by decide +kernel
theorem dX4_putLaid_4 : decode cX4_putLaid 4 = .ok (.iload 4, 2) := by decide +kernel
theorem dX4_putLaid_6 : decode cX4_putLaid 6 = .ok (.tableswitch 93 1 5 #[34, 47, 57, 70, 80], 34) := by decide +kernel
theorem dX4_putLaid_40 : decode cX4_putLaid 40 = .ok (.aload_n 0, 1) := by decide +kernel
theorem dX4_putLaid_41 : decode cX4_putLaid 41 = .ok (.iload_n 1, 1) := by decide +kernel
theorem dX4_putLaid_42 : decode cX4_putLaid 42 = .ok (.iload_n 2, 1) := by decide +kernel
theorem dX4_putLaid_43 : decode cX4_putLaid 43 = .ok (.iload 5, 2) := by decide +kernel
theorem dX4_putLaid_45 : decode cX4_putLaid 45 = .ok (.iload_n 3, 1) := by decide +kernel
theorem dX4_putLaid_46 : decode cX4_putLaid 46 = .ok (.isub, 1) := by decide +kernel
theorem dX4_putLaid_47 : decode cX4_putLaid 47 = .ok (.invokevirtual 43, 3) := by decide +kernel
theorem dX4_putLaid_50 : decode cX4_putLaid 50 = .ok (.goto 56, 3) := by decide +kernel
theorem dX4_putLaid_53 : decode cX4_putLaid 53 = .ok (.aload_n 0, 1) := by decide +kernel
theorem dX4_putLaid_54 : decode cX4_putLaid 54 = .ok (.iload_n 3, 1) := by decide +kernel
theorem dX4_putLaid_55 : decode cX4_putLaid 55 = .ok (.iload_n 2, 1) := by decide +kernel
theorem dX4_putLaid_56 : decode cX4_putLaid 56 = .ok (.iload_n 1, 1) := by decide +kernel
theorem dX4_putLaid_57 : decode cX4_putLaid 57 = .ok (.invokevirtual 43, 3) := by decide +kernel
theorem dX4_putLaid_60 : decode cX4_putLaid 60 = .ok (.goto 46, 3) := by decide +kernel
theorem dX4_putLaid_63 : decode cX4_putLaid 63 = .ok (.aload_n 0, 1) := by decide +kernel
theorem dX4_putLaid_64 : decode cX4_putLaid 64 = .ok (.iload_n 3, 1) := by decide +kernel
theorem dX4_putLaid_65 : decode cX4_putLaid 65 = .ok (.iload_n 2, 1) := by decide +kernel
theorem dX4_putLaid_66 : decode cX4_putLaid 66 = .ok (.iload 5, 2) := by decide +kernel
theorem dX4_putLaid_68 : decode cX4_putLaid 68 = .ok (.iload_n 1, 1) := by decide +kernel
theorem dX4_putLaid_69 : decode cX4_putLaid 69 = .ok (.isub, 1) := by decide +kernel
theorem dX4_putLaid_70 : decode cX4_putLaid 70 = .ok (.invokevirtual 43, 3) := by decide +kernel
theorem dX4_putLaid_73 : decode cX4_putLaid 73 = .ok (.goto 33, 3) := by decide +kernel
theorem dX4_putLaid_76 : decode cX4_putLaid 76 = .ok (.aload_n 0, 1) := by decide +kernel
theorem dX4_putLaid_77 : decode cX4_putLaid 77 = .ok (.iload_n 1, 1) := by decide +kernel
theorem dX4_putLaid_78 : decode cX4_putLaid 78 = .ok (.iload_n 3, 1) := by decide +kernel
theorem dX4_putLaid_79 : decode cX4_putLaid 79 = .ok (.iload_n 2, 1) := by decide +kernel
theorem dX4_putLaid_80 : decode cX4_putLaid 80 = .ok (.invokevirtual 43, 3) := by decide +kernel
theorem dX4_putLaid_83 : decode cX4_putLaid 83 = .ok (.goto 23, 3) := by decide +kernel
theorem dX4_putLaid_86 : decode cX4_putLaid 86 = .ok (.aload_n 0, 1) := by decide +kernel
theorem dX4_putLaid_87 : decode cX4_putLaid 87 = .ok (.iload_n 1, 1) := by decide +kernel
theorem dX4_putLaid_88 : decode cX4_putLaid 88 = .ok (.iload_n 3, 1) := by decide +kernel
theorem dX4_putLaid_89 : decode cX4_putLaid 89 = .ok (.iload 5, 2) := by decide +kernel
theorem dX4_putLaid_91 : decode cX4_putLaid 91 = .ok (.iload_n 2, 1) := by decide +kernel
theorem dX4_putLaid_92 : decode cX4_putLaid 92 = .ok (.isub, 1) := by decide +kernel
theorem dX4_putLaid_93 : decode cX4_putLaid 93 = .ok (.invokevirtual 43, 3) := by decide +kernel
theorem dX4_putLaid_96 : decode cX4_putLaid 96 = .ok (.goto 10, 3) := by decide +kernel
theorem dX4_putLaid_99 : decode cX4_putLaid 99 = .ok (.aload_n 0, 1) := by decide +kernel
theorem dX4_putLaid_100 : decode cX4_putLaid 100 = .ok (.iload_n 1, 1) := by decide +kernel
theorem dX4_putLaid_101 : decode cX4_putLaid 101 = .ok (.iload_n 2, 1) := by decide +kernel
theorem dX4_putLaid_102 : decode cX4_putLaid 102 = .ok (.iload_n 3, 1) := by decide +kernel
theorem dX4_putLaid_103 : decode cX4_putLaid 103 = .ok (.invokevirtual 43, 3) := by decide +kernel
theorem dX4_putLaid_106 : decode cX4_putLaid 106 = .ok (.return_, 1) := by decide +kernel
theorem dX4_put_0 : decode cX4_put 0 = .ok (.aload_n 0, 1) := by decide +kernel
theorem dX4_put_1 : decode cX4_put 1 = .ok (.getfield 9, 3) := by decide +kernel
theorem dX4_put_4 : decode cX4_put 4 = .ok (.iload_n 3, 1) := by decide +kernel
theorem dX4_put_5 : decode cX4_put 5 = .ok (.dup2, 1) := by decide +kernel
theorem dX4_put_6 : decode cX4_put 6 = .ok (.laload, 1) := by decide +kernel
theorem dX4_put_7 : decode cX4_put 7 = .ok (.lconst 1, 1) := by decide +kernel
theorem dX4_put_8 : decode cX4_put 8 = .ok (.iload_n 1, 1) := by decide +kernel
theorem dX4_put_9 : decode cX4_put 9 = .ok (.bipush 8, 2) := by decide +kernel
theorem dX4_put_11 : decode cX4_put 11 = .ok (.iload_n 2, 1) := by decide +kernel
theorem dX4_put_12 : decode cX4_put 12 = .ok (.imul, 1) := by decide +kernel
theorem dX4_put_13 : decode cX4_put 13 = .ok (.iadd, 1) := by decide +kernel
theorem dX4_put_14 : decode cX4_put 14 = .ok (.lshl, 1) := by decide +kernel
theorem dX4_put_15 : decode cX4_put 15 = .ok (.lor, 1) := by decide +kernel
theorem dX4_put_16 : decode cX4_put 16 = .ok (.lastore, 1) := by decide +kernel
theorem dX4_put_17 : decode cX4_put 17 = .ok (.return_, 1) := by decide +kernel
theorem dX4_lower_0 : decode cX4_lower 0 = .ok (.iconst 0, 1) := by decide +kernel
theorem dX4_lower_1 : decode cX4_lower 1 = .ok (.istore_n 1, 1) := by decide +kernel
theorem dX4_lower_2 : decode cX4_lower 2 = .ok (.iload_n 1, 1) := by decide +kernel
theorem dX4_lower_3 : decode cX4_lower 3 = .ok (.bipush 8, 2) := by decide +kernel
theorem dX4_lower_5 : decode cX4_lower 5 = .ok (.if_icmp .ge 20, 3) := by decide +kernel
theorem dX4_lower_8 : decode cX4_lower 8 = .ok (.aload_n 0, 1) := by decide +kernel
theorem dX4_lower_9 : decode cX4_lower 9 = .ok (.getfield 9, 3) := by decide +kernel
theorem dX4_lower_12 : decode cX4_lower 12 = .ok (.iload_n 1, 1) := by decide +kernel
theorem dX4_lower_13 : decode cX4_lower 13 = .ok (.laload, 1) := by decide +kernel
theorem dX4_lower_14 : decode cX4_lower 14 = .ok (.lconst 0, 1) := by decide +kernel
theorem dX4_lower_15 : decode cX4_lower 15 = .ok (.lcmp, 1) := by decide +kernel
theorem dX4_lower_16 : decode cX4_lower 16 = .ok (.ifCond .ne 9, 3) := by decide +kernel
theorem dX4_lower_19 : decode cX4_lower 19 = .ok (.iinc 1 1, 3) := by decide +kernel
theorem dX4_lower_22 : decode cX4_lower 22 = .ok (.goto (-20), 3) := by decide +kernel
theorem dX4_lower_25 : decode cX4_lower 25 = .ok (.iconst 0, 1) := by decide +kernel
theorem dX4_lower_26 : decode cX4_lower 26 = .ok (.istore_n 2, 1) := by decide +kernel
theorem dX4_lower_27 : decode cX4_lower 27 = .ok (.iload_n 2, 1) := by decide +kernel
theorem dX4_lower_28 : decode cX4_lower 28 = .ok (.bipush 8, 2) := by decide +kernel
theorem dX4_lower_30 : decode cX4_lower 30 = .ok (.if_icmp .ge 35, 3) := by decide +kernel
theorem dX4_lower_33 : decode cX4_lower 33 = .ok (.aload_n 0, 1) := by decide +kernel
theorem dX4_lower_34 : decode cX4_lower 34 = .ok (.getfield 9, 3) := by decide +kernel
theorem dX4_lower_37 : decode cX4_lower 37 = .ok (.iload_n 2, 1) := by decide +kernel
theorem dX4_lower_38 : decode cX4_lower 38 = .ok (.iload_n 2, 1) := by decide +kernel
theorem dX4_lower_39 : decode cX4_lower 39 = .ok (.iload_n 1, 1) := by decide +kernel
theorem dX4_lower_40 : decode cX4_lower 40 = .ok (.iadd, 1) := by decide +kernel
theorem dX4_lower_41 : decode cX4_lower 41 = .ok (.bipush 8, 2) := by decide +kernel
theorem dX4_lower_43 : decode cX4_lower 43 = .ok (.if_icmp .ge 14, 3) := by decide +kernel
theorem dX4_lower_46 : decode cX4_lower 46 = .ok (.aload_n 0, 1) := by decide +kernel
theorem dX4_lower_47 : decode cX4_lower 47 = .ok (.getfield 9, 3) := by decide +kernel
theorem dX4_lower_50 : decode cX4_lower 50 = .ok (.iload_n 2, 1) := by decide +kernel
theorem dX4_lower_51 : decode cX4_lower 51 = .ok (.iload_n 1, 1) := by decide +kernel
theorem dX4_lower_52 : decode cX4_lower 52 = .ok (.iadd, 1) := by decide +kernel
theorem dX4_lower_53 : decode cX4_lower 53 = .ok (.laload, 1) := by decide +kernel
theorem dX4_lower_54 : decode cX4_lower 54 = .ok (.goto 4, 3) := by decide +kernel
theorem dX4_lower_57 : decode cX4_lower 57 = .ok (.lconst 0, 1) := by decide +kernel
theorem dX4_lower_58 : decode cX4_lower 58 = .ok (.lastore, 1) := by decide +kernel
theorem dX4_lower_59 : decode cX4_lower 59 = .ok (.iinc 2 1, 3) := by decide +kernel
theorem dX4_lower_62 : decode cX4_lower 62 = .ok (.goto (-35), 3) := by decide +kernel
theorem dX4_lower_65 : decode cX4_lower 65 = .ok (.return_, 1) := by decide +kernel
theorem dX4_reckonSets_0 : decode cX4_reckonSets 0 = .ok (.lconst 0, 1) := by decide +kernel
theorem dX4_reckonSets_1 : decode cX4_reckonSets 1 = .ok (.lstore_n 1, 1) := by decide +kernel
theorem dX4_reckonSets_2 : decode cX4_reckonSets 2 = .ok (.bipush 7, 2) := by decide +kernel
theorem dX4_reckonSets_4 : decode cX4_reckonSets 4 = .ok (.istore_n 3, 1) := by decide +kernel
theorem dX4_reckonSets_5 : decode cX4_reckonSets 5 = .ok (.iload_n 3, 1) := by decide +kernel
theorem dX4_reckonSets_6 : decode cX4_reckonSets 6 = .ok (.ifCond .le 66, 3) := by decide +kernel
theorem dX4_reckonSets_9 : decode cX4_reckonSets 9 = .ok (.aload_n 0, 1) := by decide +kernel
theorem dX4_reckonSets_10 : decode cX4_reckonSets 10 = .ok (.getfield 9, 3) := by decide +kernel
theorem dX4_reckonSets_13 : decode cX4_reckonSets 13 = .ok (.iload_n 3, 1) := by decide +kernel
theorem dX4_reckonSets_14 : decode cX4_reckonSets 14 = .ok (.iconst 1, 1) := by decide +kernel
theorem dX4_reckonSets_15 : decode cX4_reckonSets 15 = .ok (.isub, 1) := by decide +kernel
theorem dX4_reckonSets_16 : decode cX4_reckonSets 16 = .ok (.laload, 1) := by decide +kernel
theorem dX4_reckonSets_17 : decode cX4_reckonSets 17 = .ok (.lstore 4, 2) := by decide +kernel
theorem dX4_reckonSets_19 : decode cX4_reckonSets 19 = .ok (.aload_n 0, 1) := by decide +kernel
theorem dX4_reckonSets_20 : decode cX4_reckonSets 20 = .ok (.getfield 15, 3) := by decide +kernel
theorem dX4_reckonSets_23 : decode cX4_reckonSets 23 = .ok (.iload_n 3, 1) := by decide +kernel
theorem dX4_reckonSets_24 : decode cX4_reckonSets 24 = .ok (.aload_n 0, 1) := by decide +kernel
theorem dX4_reckonSets_25 : decode cX4_reckonSets 25 = .ok (.getfield 9, 3) := by decide +kernel
theorem dX4_reckonSets_28 : decode cX4_reckonSets 28 = .ok (.iload_n 3, 1) := by decide +kernel
theorem dX4_reckonSets_29 : decode cX4_reckonSets 29 = .ok (.laload, 1) := by decide +kernel
theorem dX4_reckonSets_30 : decode cX4_reckonSets 30 = .ok (.lload 4, 2) := by decide +kernel
theorem dX4_reckonSets_32 : decode cX4_reckonSets 32 = .ok (.invokestatic 47, 3) := by decide +kernel
theorem dX4_reckonSets_35 : decode cX4_reckonSets 35 = .ok (.ldc2_w 51, 3) := by decide +kernel
theorem dX4_reckonSets_38 : decode cX4_reckonSets 38 = .ok (.lxor, 1) := by decide +kernel
theorem dX4_reckonSets_39 : decode cX4_reckonSets 39 = .ok (.land, 1) := by decide +kernel
theorem dX4_reckonSets_40 : decode cX4_reckonSets 40 = .ok (.lastore, 1) := by decide +kernel
theorem dX4_reckonSets_41 : decode cX4_reckonSets 41 = .ok (.lload_n 1, 1) := by decide +kernel
theorem dX4_reckonSets_42 : decode cX4_reckonSets 42 = .ok (.aload_n 0, 1) := by decide +kernel
theorem dX4_reckonSets_43 : decode cX4_reckonSets 43 = .ok (.getfield 15, 3) := by decide +kernel
theorem dX4_reckonSets_46 : decode cX4_reckonSets 46 = .ok (.iload_n 3, 1) := by decide +kernel
theorem dX4_reckonSets_47 : decode cX4_reckonSets 47 = .ok (.laload, 1) := by decide +kernel
theorem dX4_reckonSets_48 : decode cX4_reckonSets 48 = .ok (.lor, 1) := by decide +kernel
theorem dX4_reckonSets_49 : decode cX4_reckonSets 49 = .ok (.lload 4, 2) := by decide +kernel
theorem dX4_reckonSets_51 : decode cX4_reckonSets 51 = .ok (.ldc2_w 51, 3) := by decide +kernel
theorem dX4_reckonSets_54 : decode cX4_reckonSets 54 = .ok (.lxor, 1) := by decide +kernel
theorem dX4_reckonSets_55 : decode cX4_reckonSets 55 = .ok (.land, 1) := by decide +kernel
theorem dX4_reckonSets_56 : decode cX4_reckonSets 56 = .ok (.lstore_n 1, 1) := by decide +kernel
theorem dX4_reckonSets_57 : decode cX4_reckonSets 57 = .ok (.aload_n 0, 1) := by decide +kernel
theorem dX4_reckonSets_58 : decode cX4_reckonSets 58 = .ok (.getfield 18, 3) := by decide +kernel
theorem dX4_reckonSets_61 : decode cX4_reckonSets 61 = .ok (.iload_n 3, 1) := by decide +kernel
theorem dX4_reckonSets_62 : decode cX4_reckonSets 62 = .ok (.iconst 1, 1) := by decide +kernel
theorem dX4_reckonSets_63 : decode cX4_reckonSets 63 = .ok (.isub, 1) := by decide +kernel
theorem dX4_reckonSets_64 : decode cX4_reckonSets 64 = .ok (.lload_n 1, 1) := by decide +kernel
theorem dX4_reckonSets_65 : decode cX4_reckonSets 65 = .ok (.lastore, 1) := by decide +kernel
theorem dX4_reckonSets_66 : decode cX4_reckonSets 66 = .ok (.iinc 3 (-1), 3) := by decide +kernel
theorem dX4_reckonSets_69 : decode cX4_reckonSets 69 = .ok (.goto (-64), 3) := by decide +kernel
theorem dX4_reckonSets_72 : decode cX4_reckonSets 72 = .ok (.return_, 1) := by decide +kernel
theorem dX4_height_0 : decode cX4_height 0 = .ok (.bipush 8, 2) := by decide +kernel
theorem dX4_height_2 : decode cX4_height 2 = .ok (.istore_n 1, 1) := by decide +kernel
theorem dX4_height_3 : decode cX4_height 3 = .ok (.iload_n 1, 1) := by decide +kernel
theorem dX4_height_4 : decode cX4_height 4 = .ok (.ifCond .le 22, 3) := by decide +kernel
theorem dX4_height_7 : decode cX4_height 7 = .ok (.aload_n 0, 1) := by decide +kernel
theorem dX4_height_8 : decode cX4_height 8 = .ok (.getfield 9, 3) := by decide +kernel
theorem dX4_height_11 : decode cX4_height 11 = .ok (.iload_n 1, 1) := by decide +kernel
theorem dX4_height_12 : decode cX4_height 12 = .ok (.iconst 1, 1) := by decide +kernel
theorem dX4_height_13 : decode cX4_height 13 = .ok (.isub, 1) := by decide +kernel
theorem dX4_height_14 : decode cX4_height 14 = .ok (.laload, 1) := by decide +kernel
theorem dX4_height_15 : decode cX4_height 15 = .ok (.lconst 0, 1) := by decide +kernel
theorem dX4_height_16 : decode cX4_height 16 = .ok (.lcmp, 1) := by decide +kernel
theorem dX4_height_17 : decode cX4_height 17 = .ok (.ifCond .ne 9, 3) := by decide +kernel
theorem dX4_height_20 : decode cX4_height 20 = .ok (.iinc 1 (-1), 3) := by decide +kernel
theorem dX4_height_23 : decode cX4_height 23 = .ok (.goto (-20), 3) := by decide +kernel
theorem dX4_height_26 : decode cX4_height 26 = .ok (.iload_n 1, 1) := by decide +kernel
theorem dX4_height_27 : decode cX4_height 27 = .ok (.ireturn, 1) := by decide +kernel
theorem dX4_gramsOf_0 : decode cX4_gramsOf 0 = .ok (.aload_n 0, 1) := by decide +kernel
theorem dX4_gramsOf_1 : decode cX4_gramsOf 1 = .ok (.getfield 9, 3) := by decide +kernel
theorem dX4_gramsOf_4 : decode cX4_gramsOf 4 = .ok (.iload_n 1, 1) := by decide +kernel
theorem dX4_gramsOf_5 : decode cX4_gramsOf 5 = .ok (.laload, 1) := by decide +kernel
theorem dX4_gramsOf_6 : decode cX4_gramsOf 6 = .ok (.invokestatic 53, 3) := by decide +kernel
theorem dX4_gramsOf_9 : decode cX4_gramsOf 9 = .ok (.aload_n 0, 1) := by decide +kernel
theorem dX4_gramsOf_10 : decode cX4_gramsOf 10 = .ok (.getfield 18, 3) := by decide +kernel
theorem dX4_gramsOf_13 : decode cX4_gramsOf 13 = .ok (.iload_n 1, 1) := by decide +kernel
theorem dX4_gramsOf_14 : decode cX4_gramsOf 14 = .ok (.laload, 1) := by decide +kernel
theorem dX4_gramsOf_15 : decode cX4_gramsOf 15 = .ok (.invokestatic 53, 3) := by decide +kernel
theorem dX4_gramsOf_18 : decode cX4_gramsOf 18 = .ok (.iadd, 1) := by decide +kernel
theorem dX4_gramsOf_19 : decode cX4_gramsOf 19 = .ok (.ireturn, 1) := by decide +kernel
theorem dX4_cellCount_0 : decode cX4_cellCount 0 = .ok (.aload_n 0, 1) := by decide +kernel
theorem dX4_cellCount_1 : decode cX4_cellCount 1 = .ok (.getfield 9, 3) := by decide +kernel
theorem dX4_cellCount_4 : decode cX4_cellCount 4 = .ok (.invokestatic 59, 3) := by decide +kernel
theorem dX4_cellCount_7 : decode cX4_cellCount 7 = .ok (.ireturn, 1) := by decide +kernel
theorem dX4_hangingCount_0 : decode cX4_hangingCount 0 = .ok (.aload_n 0, 1) := by decide +kernel
theorem dX4_hangingCount_1 : decode cX4_hangingCount 1 = .ok (.getfield 15, 3) := by decide +kernel
theorem dX4_hangingCount_4 : decode cX4_hangingCount 4 = .ok (.invokestatic 59, 3) := by decide +kernel
theorem dX4_hangingCount_7 : decode cX4_hangingCount 7 = .ok (.ireturn, 1) := by decide +kernel
theorem dX4_supportCount_0 : decode cX4_supportCount 0 = .ok (.aload_n 0, 1) := by decide +kernel
theorem dX4_supportCount_1 : decode cX4_supportCount 1 = .ok (.getfield 18, 3) := by decide +kernel
theorem dX4_supportCount_4 : decode cX4_supportCount 4 = .ok (.invokestatic 59, 3) := by decide +kernel
theorem dX4_supportCount_7 : decode cX4_supportCount 7 = .ok (.ireturn, 1) := by decide +kernel
theorem dX4_islandCount_0 : decode cX4_islandCount 0 = .ok (.iconst 0, 1) := by decide +kernel
theorem dX4_islandCount_1 : decode cX4_islandCount 1 = .ok (.istore_n 1, 1) := by decide +kernel
theorem dX4_islandCount_2 : decode cX4_islandCount 2 = .ok (.iconst 1, 1) := by decide +kernel
theorem dX4_islandCount_3 : decode cX4_islandCount 3 = .ok (.istore_n 2, 1) := by decide +kernel
theorem dX4_islandCount_4 : decode cX4_islandCount 4 = .ok (.iload_n 2, 1) := by decide +kernel
theorem dX4_islandCount_5 : decode cX4_islandCount 5 = .ok (.bipush 8, 2) := by decide +kernel
theorem dX4_islandCount_7 : decode cX4_islandCount 7 = .ok (.if_icmp .ge 29, 3) := by decide +kernel
theorem dX4_islandCount_10 : decode cX4_islandCount 10 = .ok (.iload_n 1, 1) := by decide +kernel
theorem dX4_islandCount_11 : decode cX4_islandCount 11 = .ok (.aload_n 0, 1) := by decide +kernel
theorem dX4_islandCount_12 : decode cX4_islandCount 12 = .ok (.getfield 9, 3) := by decide +kernel
theorem dX4_islandCount_15 : decode cX4_islandCount 15 = .ok (.iload_n 2, 1) := by decide +kernel
theorem dX4_islandCount_16 : decode cX4_islandCount 16 = .ok (.laload, 1) := by decide +kernel
theorem dX4_islandCount_17 : decode cX4_islandCount 17 = .ok (.aload_n 0, 1) := by decide +kernel
theorem dX4_islandCount_18 : decode cX4_islandCount 18 = .ok (.getfield 9, 3) := by decide +kernel
theorem dX4_islandCount_21 : decode cX4_islandCount 21 = .ok (.iload_n 2, 1) := by decide +kernel
theorem dX4_islandCount_22 : decode cX4_islandCount 22 = .ok (.iconst 1, 1) := by decide +kernel
theorem dX4_islandCount_23 : decode cX4_islandCount 23 = .ok (.isub, 1) := by decide +kernel
theorem dX4_islandCount_24 : decode cX4_islandCount 24 = .ok (.laload, 1) := by decide +kernel
theorem dX4_islandCount_25 : decode cX4_islandCount 25 = .ok (.invokestatic 63, 3) := by decide +kernel
theorem dX4_islandCount_28 : decode cX4_islandCount 28 = .ok (.iadd, 1) := by decide +kernel
theorem dX4_islandCount_29 : decode cX4_islandCount 29 = .ok (.istore_n 1, 1) := by decide +kernel
theorem dX4_islandCount_30 : decode cX4_islandCount 30 = .ok (.iinc 2 1, 3) := by decide +kernel
theorem dX4_islandCount_33 : decode cX4_islandCount 33 = .ok (.goto (-29), 3) := by decide +kernel
theorem dX4_islandCount_36 : decode cX4_islandCount 36 = .ok (.iload_n 1, 1) := by decide +kernel
theorem dX4_islandCount_37 : decode cX4_islandCount 37 = .ok (.ireturn, 1) := by decide +kernel
theorem dX4_islandsOf_0 : decode cX4_islandsOf 0 = .ok (.iconst 0, 1) := by decide +kernel
theorem dX4_islandsOf_1 : decode cX4_islandsOf 1 = .ok (.istore 4, 2) := by decide +kernel
theorem dX4_islandsOf_3 : decode cX4_islandsOf 3 = .ok (.lload_n 0, 1) := by decide +kernel
theorem dX4_islandsOf_4 : decode cX4_islandsOf 4 = .ok (.lstore 5, 2) := by decide +kernel
theorem dX4_islandsOf_6 : decode cX4_islandsOf 6 = .ok (.iconst 0, 1) := by decide +kernel
theorem dX4_islandsOf_7 : decode cX4_islandsOf 7 = .ok (.istore 7, 2) := by decide +kernel
theorem dX4_islandsOf_9 : decode cX4_islandsOf 9 = .ok (.iload 7, 2) := by decide +kernel
theorem dX4_islandsOf_11 : decode cX4_islandsOf 11 = .ok (.bipush 64, 2) := by decide +kernel
theorem dX4_islandsOf_13 : decode cX4_islandsOf 13 = .ok (.if_icmp .ge 51, 3) := by decide +kernel
theorem dX4_islandsOf_16 : decode cX4_islandsOf 16 = .ok (.lload 5, 2) := by decide +kernel
theorem dX4_islandsOf_18 : decode cX4_islandsOf 18 = .ok (.lconst 0, 1) := by decide +kernel
theorem dX4_islandsOf_19 : decode cX4_islandsOf 19 = .ok (.lcmp, 1) := by decide +kernel
theorem dX4_islandsOf_20 : decode cX4_islandsOf 20 = .ok (.ifCond .eq 44, 3) := by decide +kernel
theorem dX4_islandsOf_23 : decode cX4_islandsOf 23 = .ok (.lload_n 0, 1) := by decide +kernel
theorem dX4_islandsOf_24 : decode cX4_islandsOf 24 = .ok (.lload 5, 2) := by decide +kernel
theorem dX4_islandsOf_26 : decode cX4_islandsOf 26 = .ok (.lload 5, 2) := by decide +kernel
theorem dX4_islandsOf_28 : decode cX4_islandsOf 28 = .ok (.lneg, 1) := by decide +kernel
theorem dX4_islandsOf_29 : decode cX4_islandsOf 29 = .ok (.land, 1) := by decide +kernel
theorem dX4_islandsOf_30 : decode cX4_islandsOf 30 = .ok (.invokestatic 67, 3) := by decide +kernel
theorem dX4_islandsOf_33 : decode cX4_islandsOf 33 = .ok (.lstore 8, 2) := by decide +kernel
theorem dX4_islandsOf_35 : decode cX4_islandsOf 35 = .ok (.lload 8, 2) := by decide +kernel
theorem dX4_islandsOf_37 : decode cX4_islandsOf 37 = .ok (.lload_n 2, 1) := by decide +kernel
theorem dX4_islandsOf_38 : decode cX4_islandsOf 38 = .ok (.land, 1) := by decide +kernel
theorem dX4_islandsOf_39 : decode cX4_islandsOf 39 = .ok (.lconst 0, 1) := by decide +kernel
theorem dX4_islandsOf_40 : decode cX4_islandsOf 40 = .ok (.lcmp, 1) := by decide +kernel
theorem dX4_islandsOf_41 : decode cX4_islandsOf 41 = .ok (.ifCond .ne 6, 3) := by decide +kernel
theorem dX4_islandsOf_44 : decode cX4_islandsOf 44 = .ok (.iinc 4 1, 3) := by decide +kernel
theorem dX4_islandsOf_47 : decode cX4_islandsOf 47 = .ok (.lload 5, 2) := by decide +kernel
theorem dX4_islandsOf_49 : decode cX4_islandsOf 49 = .ok (.lload 8, 2) := by decide +kernel
theorem dX4_islandsOf_51 : decode cX4_islandsOf 51 = .ok (.ldc2_w 51, 3) := by decide +kernel
theorem dX4_islandsOf_54 : decode cX4_islandsOf 54 = .ok (.lxor, 1) := by decide +kernel
theorem dX4_islandsOf_55 : decode cX4_islandsOf 55 = .ok (.land, 1) := by decide +kernel
theorem dX4_islandsOf_56 : decode cX4_islandsOf 56 = .ok (.lstore 5, 2) := by decide +kernel
theorem dX4_islandsOf_58 : decode cX4_islandsOf 58 = .ok (.iinc 7 1, 3) := by decide +kernel
theorem dX4_islandsOf_61 : decode cX4_islandsOf 61 = .ok (.goto (-52), 3) := by decide +kernel
theorem dX4_islandsOf_64 : decode cX4_islandsOf 64 = .ok (.iload 4, 2) := by decide +kernel
theorem dX4_islandsOf_66 : decode cX4_islandsOf 66 = .ok (.ireturn, 1) := by decide +kernel
theorem dX4_partOf_0 : decode cX4_partOf 0 = .ok (.lload_n 2, 1) := by decide +kernel
theorem dX4_partOf_1 : decode cX4_partOf 1 = .ok (.lstore 4, 2) := by decide +kernel
theorem dX4_partOf_3 : decode cX4_partOf 3 = .ok (.iconst 0, 1) := by decide +kernel
theorem dX4_partOf_4 : decode cX4_partOf 4 = .ok (.istore 6, 2) := by decide +kernel
theorem dX4_partOf_6 : decode cX4_partOf 6 = .ok (.iload 6, 2) := by decide +kernel
theorem dX4_partOf_8 : decode cX4_partOf 8 = .ok (.bipush 64, 2) := by decide +kernel
theorem dX4_partOf_10 : decode cX4_partOf 10 = .ok (.if_icmp .ge 33, 3) := by decide +kernel
theorem dX4_partOf_13 : decode cX4_partOf 13 = .ok (.lload 4, 2) := by decide +kernel
theorem dX4_partOf_15 : decode cX4_partOf 15 = .ok (.invokestatic 47, 3) := by decide +kernel
theorem dX4_partOf_18 : decode cX4_partOf 18 = .ok (.lload_n 0, 1) := by decide +kernel
theorem dX4_partOf_19 : decode cX4_partOf 19 = .ok (.land, 1) := by decide +kernel
theorem dX4_partOf_20 : decode cX4_partOf 20 = .ok (.lstore 7, 2) := by decide +kernel
theorem dX4_partOf_22 : decode cX4_partOf 22 = .ok (.lload 7, 2) := by decide +kernel
theorem dX4_partOf_24 : decode cX4_partOf 24 = .ok (.lload 4, 2) := by decide +kernel
theorem dX4_partOf_26 : decode cX4_partOf 26 = .ok (.lcmp, 1) := by decide +kernel
theorem dX4_partOf_27 : decode cX4_partOf 27 = .ok (.ifCond .ne 6, 3) := by decide +kernel
theorem dX4_partOf_30 : decode cX4_partOf 30 = .ok (.goto 13, 3) := by decide +kernel
theorem dX4_partOf_33 : decode cX4_partOf 33 = .ok (.lload 7, 2) := by decide +kernel
theorem dX4_partOf_35 : decode cX4_partOf 35 = .ok (.lstore 4, 2) := by decide +kernel
theorem dX4_partOf_37 : decode cX4_partOf 37 = .ok (.iinc 6 1, 3) := by decide +kernel
theorem dX4_partOf_40 : decode cX4_partOf 40 = .ok (.goto (-34), 3) := by decide +kernel
theorem dX4_partOf_43 : decode cX4_partOf 43 = .ok (.lload 4, 2) := by decide +kernel
theorem dX4_partOf_45 : decode cX4_partOf 45 = .ok (.lreturn, 1) := by decide +kernel
theorem dX4_withNeighbours_0 : decode cX4_withNeighbours 0 = .ok (.lload_n 0, 1) := by decide +kernel
theorem dX4_withNeighbours_1 : decode cX4_withNeighbours 1 = .ok (.lload_n 0, 1) := by decide +kernel
theorem dX4_withNeighbours_2 : decode cX4_withNeighbours 2 = .ok (.ldc2_w 71, 3) := by decide +kernel
theorem dX4_withNeighbours_5 : decode cX4_withNeighbours 5 = .ok (.land, 1) := by decide +kernel
theorem dX4_withNeighbours_6 : decode cX4_withNeighbours 6 = .ok (.iconst 1, 1) := by decide +kernel
theorem dX4_withNeighbours_7 : decode cX4_withNeighbours 7 = .ok (.lshl, 1) := by decide +kernel
theorem dX4_withNeighbours_8 : decode cX4_withNeighbours 8 = .ok (.lor, 1) := by decide +kernel
theorem dX4_withNeighbours_9 : decode cX4_withNeighbours 9 = .ok (.lload_n 0, 1) := by decide +kernel
theorem dX4_withNeighbours_10 : decode cX4_withNeighbours 10 = .ok (.ldc2_w 73, 3) := by decide +kernel
theorem dX4_withNeighbours_13 : decode cX4_withNeighbours 13 = .ok (.land, 1) := by decide +kernel
theorem dX4_withNeighbours_14 : decode cX4_withNeighbours 14 = .ok (.iconst 1, 1) := by decide +kernel
theorem dX4_withNeighbours_15 : decode cX4_withNeighbours 15 = .ok (.lushr, 1) := by decide +kernel
theorem dX4_withNeighbours_16 : decode cX4_withNeighbours 16 = .ok (.lor, 1) := by decide +kernel
theorem dX4_withNeighbours_17 : decode cX4_withNeighbours 17 = .ok (.lload_n 0, 1) := by decide +kernel
theorem dX4_withNeighbours_18 : decode cX4_withNeighbours 18 = .ok (.bipush 8, 2) := by decide +kernel
theorem dX4_withNeighbours_20 : decode cX4_withNeighbours 20 = .ok (.lshl, 1) := by decide +kernel
theorem dX4_withNeighbours_21 : decode cX4_withNeighbours 21 = .ok (.lor, 1) := by decide +kernel
theorem dX4_withNeighbours_22 : decode cX4_withNeighbours 22 = .ok (.lload_n 0, 1) := by decide +kernel
theorem dX4_withNeighbours_23 : decode cX4_withNeighbours 23 = .ok (.bipush 8, 2) := by decide +kernel
theorem dX4_withNeighbours_25 : decode cX4_withNeighbours 25 = .ok (.lushr, 1) := by decide +kernel
theorem dX4_withNeighbours_26 : decode cX4_withNeighbours 26 = .ok (.lor, 1) := by decide +kernel
theorem dX4_withNeighbours_27 : decode cX4_withNeighbours 27 = .ok (.lreturn, 1) := by decide +kernel
theorem dX4_countOf_0 : decode cX4_countOf 0 = .ok (.iconst 0, 1) := by decide +kernel
theorem dX4_countOf_1 : decode cX4_countOf 1 = .ok (.istore_n 1, 1) := by decide +kernel
theorem dX4_countOf_2 : decode cX4_countOf 2 = .ok (.iconst 0, 1) := by decide +kernel
theorem dX4_countOf_3 : decode cX4_countOf 3 = .ok (.istore_n 2, 1) := by decide +kernel
theorem dX4_countOf_4 : decode cX4_countOf 4 = .ok (.iload_n 2, 1) := by decide +kernel
theorem dX4_countOf_5 : decode cX4_countOf 5 = .ok (.bipush 8, 2) := by decide +kernel
theorem dX4_countOf_7 : decode cX4_countOf 7 = .ok (.if_icmp .ge 18, 3) := by decide +kernel
theorem dX4_countOf_10 : decode cX4_countOf 10 = .ok (.iload_n 1, 1) := by decide +kernel
theorem dX4_countOf_11 : decode cX4_countOf 11 = .ok (.aload_n 0, 1) := by decide +kernel
theorem dX4_countOf_12 : decode cX4_countOf 12 = .ok (.iload_n 2, 1) := by decide +kernel
theorem dX4_countOf_13 : decode cX4_countOf 13 = .ok (.laload, 1) := by decide +kernel
theorem dX4_countOf_14 : decode cX4_countOf 14 = .ok (.invokestatic 53, 3) := by decide +kernel
theorem dX4_countOf_17 : decode cX4_countOf 17 = .ok (.iadd, 1) := by decide +kernel
theorem dX4_countOf_18 : decode cX4_countOf 18 = .ok (.istore_n 1, 1) := by decide +kernel
theorem dX4_countOf_19 : decode cX4_countOf 19 = .ok (.iinc 2 1, 3) := by decide +kernel
theorem dX4_countOf_22 : decode cX4_countOf 22 = .ok (.goto (-18), 3) := by decide +kernel
theorem dX4_countOf_25 : decode cX4_countOf 25 = .ok (.iload_n 1, 1) := by decide +kernel
theorem dX4_countOf_26 : decode cX4_countOf 26 = .ok (.ireturn, 1) := by decide +kernel
theorem dX5_init_0 : decode cX5_init 0 = .ok (.aload_n 0, 1) := by decide +kernel
theorem dX5_init_1 : decode cX5_init 1 = .ok (.invokespecial 1, 3) := by decide +kernel
theorem dX5_init_4 : decode cX5_init 4 = .ok (.aload_n 0, 1) := by decide +kernel
theorem dX5_init_5 : decode cX5_init 5 = .ok (.iconst 4, 1) := by decide +kernel
theorem dX5_init_6 : decode cX5_init 6 = .ok (.anewarray 9, 3) := by decide +kernel
theorem dX5_init_9 : decode cX5_init 9 = .ok (.putfield 11, 3) := by decide +kernel
theorem dX5_init_12 : decode cX5_init 12 = .ok (.aload_n 0, 1) := by decide +kernel
theorem dX5_init_13 : decode cX5_init 13 = .ok (.bipush 6, 2) := by decide +kernel
theorem dX5_init_15 : decode cX5_init 15 = .ok (.anewarray 15, 3) := by decide +kernel
theorem dX5_init_18 : decode cX5_init 18 = .ok (.putfield 17, 3) := by decide +kernel
theorem dX5_init_21 : decode cX5_init 21 = .ok (.aload_n 0, 1) := by decide +kernel
theorem dX5_init_22 : decode cX5_init 22 = .ok (.iconst 2, 1) := by decide +kernel
theorem dX5_init_23 : decode cX5_init 23 = .ok (.anewarray 21, 3) := by decide +kernel
theorem dX5_init_26 : decode cX5_init 26 = .ok (.putfield 23, 3) := by decide +kernel
theorem dX5_init_29 : decode cX5_init 29 = .ok (.aload_n 0, 1) := by decide +kernel
theorem dX5_init_30 : decode cX5_init 30 = .ok (.new 27, 3) := by decide +kernel
theorem dX5_init_33 : decode cX5_init 33 = .ok (.dup, 1) := by decide +kernel
theorem dX5_init_34 : decode cX5_init 34 = .ok (.invokespecial 29, 3) := by decide +kernel
theorem dX5_init_37 : decode cX5_init 37 = .ok (.putfield 30, 3) := by decide +kernel
theorem dX5_init_40 : decode cX5_init 40 = .ok (.aload_n 0, 1) := by decide +kernel
theorem dX5_init_41 : decode cX5_init 41 = .ok (.new 34, 3) := by decide +kernel
theorem dX5_init_44 : decode cX5_init 44 = .ok (.dup, 1) := by decide +kernel
theorem dX5_init_45 : decode cX5_init 45 = .ok (.invokespecial 36, 3) := by decide +kernel
theorem dX5_init_48 : decode cX5_init 48 = .ok (.putfield 37, 3) := by decide +kernel
theorem dX5_init_51 : decode cX5_init 51 = .ok (.iconst 0, 1) := by decide +kernel
theorem dX5_init_52 : decode cX5_init 52 = .ok (.istore_n 1, 1) := by decide +kernel
theorem dX5_init_53 : decode cX5_init 53 = .ok (.iload_n 1, 1) := by decide +kernel
theorem dX5_init_54 : decode cX5_init 54 = .ok (.iconst 4, 1) := by decide +kernel
theorem dX5_init_55 : decode cX5_init 55 = .ok (.if_icmp .ge 23, 3) := by decide +kernel
theorem dX5_init_58 : decode cX5_init 58 = .ok (.aload_n 0, 1) := by decide +kernel
theorem dX5_init_59 : decode cX5_init 59 = .ok (.getfield 11, 3) := by decide +kernel
theorem dX5_init_62 : decode cX5_init 62 = .ok (.iload_n 1, 1) := by decide +kernel
theorem dX5_init_63 : decode cX5_init 63 = .ok (.new 9, 3) := by decide +kernel
theorem dX5_init_66 : decode cX5_init 66 = .ok (.dup, 1) := by decide +kernel
theorem dX5_init_67 : decode cX5_init 67 = .ok (.iload_n 1, 1) := by decide +kernel
theorem dX5_init_68 : decode cX5_init 68 = .ok (.invokespecial 41, 3) := by decide +kernel
theorem dX5_init_71 : decode cX5_init 71 = .ok (.aastore, 1) := by decide +kernel
theorem dX5_init_72 : decode cX5_init 72 = .ok (.iinc 1 1, 3) := by decide +kernel
theorem dX5_init_75 : decode cX5_init 75 = .ok (.goto (-22), 3) := by decide +kernel
theorem dX5_init_78 : decode cX5_init 78 = .ok (.iconst 0, 1) := by decide +kernel
theorem dX5_init_79 : decode cX5_init 79 = .ok (.istore_n 1, 1) := by decide +kernel
theorem dX5_init_80 : decode cX5_init 80 = .ok (.iload_n 1, 1) := by decide +kernel
theorem dX5_init_81 : decode cX5_init 81 = .ok (.bipush 6, 2) := by decide +kernel
theorem dX5_init_83 : decode cX5_init 83 = .ok (.if_icmp .ge 23, 3) := by decide +kernel
theorem dX5_init_86 : decode cX5_init 86 = .ok (.aload_n 0, 1) := by decide +kernel
theorem dX5_init_87 : decode cX5_init 87 = .ok (.getfield 17, 3) := by decide +kernel
theorem dX5_init_90 : decode cX5_init 90 = .ok (.iload_n 1, 1) := by decide +kernel
theorem dX5_init_91 : decode cX5_init 91 = .ok (.new 15, 3) := by decide +kernel
theorem dX5_init_94 : decode cX5_init 94 = .ok (.dup, 1) := by decide +kernel
theorem dX5_init_95 : decode cX5_init 95 = .ok (.iload_n 1, 1) := by decide +kernel
theorem dX5_init_96 : decode cX5_init 96 = .ok (.invokespecial 44, 3) := by decide +kernel
theorem dX5_init_99 : decode cX5_init 99 = .ok (.aastore, 1) := by decide +kernel
theorem dX5_init_100 : decode cX5_init 100 = .ok (.iinc 1 1, 3) := by decide +kernel
theorem dX5_init_103 : decode cX5_init 103 = .ok (.goto (-23), 3) := by decide +kernel
theorem dX5_init_106 : decode cX5_init 106 = .ok (.iconst 0, 1) := by decide +kernel
theorem dX5_init_107 : decode cX5_init 107 = .ok (.istore_n 1, 1) := by decide +kernel
theorem dX5_init_108 : decode cX5_init 108 = .ok (.iload_n 1, 1) := by decide +kernel
theorem dX5_init_109 : decode cX5_init 109 = .ok (.iconst 2, 1) := by decide +kernel
theorem dX5_init_110 : decode cX5_init 110 = .ok (.if_icmp .ge 23, 3) := by decide +kernel
theorem dX5_init_113 : decode cX5_init 113 = .ok (.aload_n 0, 1) := by decide +kernel
theorem dX5_init_114 : decode cX5_init 114 = .ok (.getfield 23, 3) := by decide +kernel
theorem dX5_init_117 : decode cX5_init 117 = .ok (.iload_n 1, 1) := by decide +kernel
theorem dX5_init_118 : decode cX5_init 118 = .ok (.new 21, 3) := by decide +kernel
theorem dX5_init_121 : decode cX5_init 121 = .ok (.dup, 1) := by decide +kernel
theorem dX5_init_122 : decode cX5_init 122 = .ok (.iload_n 1, 1) := by decide +kernel
theorem dX5_init_123 : decode cX5_init 123 = .ok (.invokespecial 45, 3) := by decide +kernel
theorem dX5_init_126 : decode cX5_init 126 = .ok (.aastore, 1) := by decide +kernel
theorem dX5_init_127 : decode cX5_init 127 = .ok (.iinc 1 1, 3) := by decide +kernel
theorem dX5_init_130 : decode cX5_init 130 = .ok (.goto (-22), 3) := by decide +kernel
theorem dX5_init_133 : decode cX5_init 133 = .ok (.return_, 1) := by decide +kernel
theorem dX5_piece_0 : decode cX5_piece 0 = .ok (.aload_n 0, 1) := by decide +kernel
theorem dX5_piece_1 : decode cX5_piece 1 = .ok (.getfield 46, 3) := by decide +kernel
theorem dX5_piece_4 : decode cX5_piece 4 = .ok (.iconst 4, 1) := by decide +kernel
theorem dX5_piece_5 : decode cX5_piece 5 = .ok (.if_icmp .lt 13, 3) := by decide +kernel
theorem dX5_piece_8 : decode cX5_piece 8 = .ok (.new 50, 3) := by decide +kernel
theorem dX5_piece_11 : decode cX5_piece 11 = .ok (.dup, 1) := by decide +kernel
theorem dX5_piece_12 : decode cX5_piece 12 = .ok (.ldc 52, 2) := by decide +kernel
theorem dX5_piece_14 : decode cX5_piece 14 = .ok (.invokespecial 54, 3) := by decide +kernel
theorem dX5_piece_17 : decode cX5_piece 17 = .ok (.athrow, 1) := by decide +kernel
theorem dX5_piece_18 : decode cX5_piece 18 = .ok (.aload_n 0, 1) := by decide +kernel
theorem dX5_piece_19 : decode cX5_piece 19 = .ok (.dup, 1) := by decide +kernel
theorem dX5_piece_20 : decode cX5_piece 20 = .ok (.getfield 46, 3) := by decide +kernel
theorem dX5_piece_23 : decode cX5_piece 23 = .ok (.iconst 1, 1) := by decide +kernel
theorem dX5_piece_24 : decode cX5_piece 24 = .ok (.iadd, 1) := by decide +kernel
theorem dX5_piece_25 : decode cX5_piece 25 = .ok (.putfield 46, 3) := by decide +kernel
theorem dX5_piece_28 : decode cX5_piece 28 = .ok (.aload_n 0, 1) := by decide +kernel
theorem dX5_piece_29 : decode cX5_piece 29 = .ok (.getfield 46, 3) := by decide +kernel
theorem dX5_piece_32 : decode cX5_piece 32 = .ok (.iconst 1, 1) := by decide +kernel
theorem dX5_piece_33 : decode cX5_piece 33 = .ok (.isub, 1) := by decide +kernel
theorem dX5_piece_34 : decode cX5_piece 34 = .ok (.ireturn, 1) := by decide +kernel
theorem dX5_layer_0 : decode cX5_layer 0 = .ok (.aload_n 0, 1) := by decide +kernel
theorem dX5_layer_1 : decode cX5_layer 1 = .ok (.iload_n 1, 1) := by decide +kernel
theorem dX5_layer_2 : decode cX5_layer 2 = .ok (.invokevirtual 57, 3) := by decide +kernel
theorem dX5_layer_5 : decode cX5_layer 5 = .ok (.astore 5, 2) := by decide +kernel
theorem dX5_layer_7 : decode cX5_layer 7 = .ok (.iload_n 2, 1) := by decide +kernel
theorem dX5_layer_8 : decode cX5_layer 8 = .ok (.invokestatic 61, 3) := by decide +kernel
theorem dX5_layer_11 : decode cX5_layer 11 = .ok (.aload 5, 2) := by decide +kernel
theorem dX5_layer_13 : decode cX5_layer 13 = .ok (.invokestatic 64, 3) := by decide +kernel
theorem dX5_layer_16 : decode cX5_layer 16 = .ok (.aload 5, 2) := by decide +kernel
theorem dX5_layer_18 : decode cX5_layer 18 = .ok (.getfield 68, 3) := by decide +kernel
theorem dX5_layer_21 : decode cX5_layer 21 = .ok (.iload_n 2, 1) := by decide +kernel
theorem dX5_layer_22 : decode cX5_layer 22 = .ok (.lload_n 3, 1) := by decide +kernel
theorem dX5_layer_23 : decode cX5_layer 23 = .ok (.invokevirtual 71, 3) := by decide +kernel
theorem dX5_layer_26 : decode cX5_layer 26 = .ok (.lload_n 3, 1) := by decide +kernel
theorem dX5_layer_27 : decode cX5_layer 27 = .ok (.invokestatic 75, 3) := by decide +kernel
theorem dX5_layer_30 : decode cX5_layer 30 = .ok (.ireturn, 1) := by decide +kernel
theorem dX5_lay_0 : decode cX5_lay 0 = .ok (.aload_n 0, 1) := by decide +kernel
theorem dX5_lay_1 : decode cX5_lay 1 = .ok (.iload_n 1, 1) := by decide +kernel
theorem dX5_lay_2 : decode cX5_lay 2 = .ok (.invokevirtual 57, 3) := by decide +kernel
theorem dX5_lay_5 : decode cX5_lay 5 = .ok (.astore_n 3, 1) := by decide +kernel
theorem dX5_lay_6 : decode cX5_lay 6 = .ok (.iload_n 2, 1) := by decide +kernel
theorem dX5_lay_7 : decode cX5_lay 7 = .ok (.invokestatic 81, 3) := by decide +kernel
theorem dX5_lay_10 : decode cX5_lay 10 = .ok (.aload_n 3, 1) := by decide +kernel
theorem dX5_lay_11 : decode cX5_lay 11 = .ok (.invokestatic 64, 3) := by decide +kernel
theorem dX5_lay_14 : decode cX5_lay 14 = .ok (.aload_n 0, 1) := by decide +kernel
theorem dX5_lay_15 : decode cX5_lay 15 = .ok (.getfield 30, 3) := by decide +kernel
theorem dX5_lay_18 : decode cX5_lay 18 = .ok (.aload_n 3, 1) := by decide +kernel
theorem dX5_lay_19 : decode cX5_lay 19 = .ok (.getfield 68, 3) := by decide +kernel
theorem dX5_lay_22 : decode cX5_lay 22 = .ok (.iload_n 2, 1) := by decide +kernel
theorem dX5_lay_23 : decode cX5_lay 23 = .ok (.invokevirtual 84, 3) := by decide +kernel
theorem dX5_lay_26 : decode cX5_lay 26 = .ok (.aload_n 3, 1) := by decide +kernel
theorem dX5_lay_27 : decode cX5_lay 27 = .ok (.getfield 68, 3) := by decide +kernel
theorem dX5_lay_30 : decode cX5_lay 30 = .ok (.aload_n 0, 1) := by decide +kernel
theorem dX5_lay_31 : decode cX5_lay 31 = .ok (.getfield 30, 3) := by decide +kernel
theorem dX5_lay_34 : decode cX5_lay 34 = .ok (.invokevirtual 88, 3) := by decide +kernel
theorem dX5_lay_37 : decode cX5_lay 37 = .ok (.aload_n 3, 1) := by decide +kernel
theorem dX5_lay_38 : decode cX5_lay 38 = .ok (.getfield 68, 3) := by decide +kernel
theorem dX5_lay_41 : decode cX5_lay 41 = .ok (.invokevirtual 92, 3) := by decide +kernel
theorem dX5_lay_44 : decode cX5_lay 44 = .ok (.ireturn, 1) := by decide +kernel
theorem dX5_powder_0 : decode cX5_powder 0 = .ok (.iload_n 1, 1) := by decide +kernel
theorem dX5_powder_1 : decode cX5_powder 1 = .ok (.ifCond .lt 8, 3) := by decide +kernel
theorem dX5_powder_4 : decode cX5_powder 4 = .ok (.iload_n 1, 1) := by decide +kernel
theorem dX5_powder_5 : decode cX5_powder 5 = .ok (.iconst 3, 1) := by decide +kernel
theorem dX5_powder_6 : decode cX5_powder 6 = .ok (.if_icmp .lt 13, 3) := by decide +kernel
theorem dX5_powder_9 : decode cX5_powder 9 = .ok (.new 96, 3) := by decide +kernel
theorem dX5_powder_12 : decode cX5_powder 12 = .ok (.dup, 1) := by decide +kernel
theorem dX5_powder_13 : decode cX5_powder 13 = .ok (.ldc 98, 2) := by decide +kernel
theorem dX5_powder_15 : decode cX5_powder 15 = .ok (.invokespecial 100, 3) := by decide +kernel
theorem dX5_powder_18 : decode cX5_powder 18 = .ok (.athrow, 1) := by decide +kernel
theorem dX5_powder_19 : decode cX5_powder 19 = .ok (.iload_n 2, 1) := by decide +kernel
theorem dX5_powder_20 : decode cX5_powder 20 = .ok (.iconst 1, 1) := by decide +kernel
theorem dX5_powder_21 : decode cX5_powder 21 = .ok (.if_icmp .lt 10, 3) := by decide +kernel
theorem dX5_powder_24 : decode cX5_powder 24 = .ok (.iload_n 2, 1) := by decide +kernel
theorem dX5_powder_25 : decode cX5_powder 25 = .ok (.sipush 2000, 3) := by decide +kernel
theorem dX5_powder_28 : decode cX5_powder 28 = .ok (.if_icmp .le 13, 3) := by decide +kernel
theorem dX5_powder_31 : decode cX5_powder 31 = .ok (.new 96, 3) := by decide +kernel
theorem dX5_powder_34 : decode cX5_powder 34 = .ok (.dup, 1) := by decide +kernel
theorem dX5_powder_35 : decode cX5_powder 35 = .ok (.ldc 101, 2) := by decide +kernel
theorem dX5_powder_37 : decode cX5_powder 37 = .ok (.invokespecial 100, 3) := by decide +kernel
theorem dX5_powder_40 : decode cX5_powder 40 = .ok (.athrow, 1) := by decide +kernel
theorem dX5_powder_41 : decode cX5_powder 41 = .ok (.aload_n 0, 1) := by decide +kernel
theorem dX5_powder_42 : decode cX5_powder 42 = .ok (.getfield 103, 3) := by decide +kernel
theorem dX5_powder_45 : decode cX5_powder 45 = .ok (.bipush 6, 2) := by decide +kernel
theorem dX5_powder_47 : decode cX5_powder 47 = .ok (.if_icmp .lt 13, 3) := by decide +kernel
theorem dX5_powder_50 : decode cX5_powder 50 = .ok (.new 50, 3) := by decide +kernel
theorem dX5_powder_53 : decode cX5_powder 53 = .ok (.dup, 1) := by decide +kernel
theorem dX5_powder_54 : decode cX5_powder 54 = .ok (.ldc 106, 2) := by decide +kernel
theorem dX5_powder_56 : decode cX5_powder 56 = .ok (.invokespecial 54, 3) := by decide +kernel
theorem dX5_powder_59 : decode cX5_powder 59 = .ok (.athrow, 1) := by decide +kernel
theorem dX5_powder_60 : decode cX5_powder 60 = .ok (.aload_n 0, 1) := by decide +kernel
theorem dX5_powder_61 : decode cX5_powder 61 = .ok (.getfield 17, 3) := by decide +kernel
theorem dX5_powder_64 : decode cX5_powder 64 = .ok (.aload_n 0, 1) := by decide +kernel
theorem dX5_powder_65 : decode cX5_powder 65 = .ok (.getfield 103, 3) := by decide +kernel
theorem dX5_powder_68 : decode cX5_powder 68 = .ok (.aaload, 1) := by decide +kernel
theorem dX5_powder_69 : decode cX5_powder 69 = .ok (.astore_n 3, 1) := by decide +kernel
theorem dX5_powder_70 : decode cX5_powder 70 = .ok (.aload_n 3, 1) := by decide +kernel
theorem dX5_powder_71 : decode cX5_powder 71 = .ok (.iload_n 1, 1) := by decide +kernel
theorem dX5_powder_72 : decode cX5_powder 72 = .ok (.putfield 108, 3) := by decide +kernel
theorem dX5_powder_75 : decode cX5_powder 75 = .ok (.aload_n 3, 1) := by decide +kernel
theorem dX5_powder_76 : decode cX5_powder 76 = .ok (.iload_n 2, 1) := by decide +kernel
theorem dX5_powder_77 : decode cX5_powder 77 = .ok (.putfield 111, 3) := by decide +kernel
theorem dX5_powder_80 : decode cX5_powder 80 = .ok (.aload_n 0, 1) := by decide +kernel
theorem dX5_powder_81 : decode cX5_powder 81 = .ok (.dup, 1) := by decide +kernel
theorem dX5_powder_82 : decode cX5_powder 82 = .ok (.getfield 103, 3) := by decide +kernel
theorem dX5_powder_85 : decode cX5_powder 85 = .ok (.iconst 1, 1) := by decide +kernel
theorem dX5_powder_86 : decode cX5_powder 86 = .ok (.iadd, 1) := by decide +kernel
theorem dX5_powder_87 : decode cX5_powder 87 = .ok (.putfield 103, 3) := by decide +kernel
theorem dX5_powder_90 : decode cX5_powder 90 = .ok (.aload_n 3, 1) := by decide +kernel
theorem dX5_powder_91 : decode cX5_powder 91 = .ok (.getfield 114, 3) := by decide +kernel
theorem dX5_powder_94 : decode cX5_powder 94 = .ok (.ireturn, 1) := by decide +kernel
theorem dX5_blend_0 : decode cX5_blend 0 = .ok (.aload_n 0, 1) := by decide +kernel
theorem dX5_blend_1 : decode cX5_blend 1 = .ok (.iload_n 1, 1) := by decide +kernel
theorem dX5_blend_2 : decode cX5_blend 2 = .ok (.invokevirtual 117, 3) := by decide +kernel
theorem dX5_blend_5 : decode cX5_blend 5 = .ok (.astore_n 3, 1) := by decide +kernel
theorem dX5_blend_6 : decode cX5_blend 6 = .ok (.aload_n 0, 1) := by decide +kernel
theorem dX5_blend_7 : decode cX5_blend 7 = .ok (.iload_n 2, 1) := by decide +kernel
theorem dX5_blend_8 : decode cX5_blend 8 = .ok (.invokevirtual 117, 3) := by decide +kernel
theorem dX5_blend_11 : decode cX5_blend 11 = .ok (.astore 4, 2) := by decide +kernel
theorem dX5_blend_13 : decode cX5_blend 13 = .ok (.iload_n 1, 1) := by decide +kernel
theorem dX5_blend_14 : decode cX5_blend 14 = .ok (.iload_n 2, 1) := by decide +kernel
theorem dX5_blend_15 : decode cX5_blend 15 = .ok (.if_icmp .ne 13, 3) := by decide +kernel
theorem dX5_blend_18 : decode cX5_blend 18 = .ok (.new 96, 3) := by decide +kernel
theorem dX5_blend_21 : decode cX5_blend 21 = .ok (.dup, 1) := by decide +kernel
theorem dX5_blend_22 : decode cX5_blend 22 = .ok (.ldc 121, 2) := by decide +kernel
theorem dX5_blend_24 : decode cX5_blend 24 = .ok (.invokespecial 100, 3) := by decide +kernel
theorem dX5_blend_27 : decode cX5_blend 27 = .ok (.athrow, 1) := by decide +kernel
theorem dX5_blend_28 : decode cX5_blend 28 = .ok (.aload_n 3, 1) := by decide +kernel
theorem dX5_blend_29 : decode cX5_blend 29 = .ok (.getfield 108, 3) := by decide +kernel
theorem dX5_blend_32 : decode cX5_blend 32 = .ok (.aload 4, 2) := by decide +kernel
theorem dX5_blend_34 : decode cX5_blend 34 = .ok (.getfield 108, 3) := by decide +kernel
theorem dX5_blend_37 : decode cX5_blend 37 = .ok (.if_icmp .eq 13, 3) := by decide +kernel
theorem dX5_blend_40 : decode cX5_blend 40 = .ok (.new 96, 3) := by decide +kernel
theorem dX5_blend_43 : decode cX5_blend 43 = .ok (.dup, 1) := by decide +kernel
theorem dX5_blend_44 : decode cX5_blend 44 = .ok (.ldc 123, 2) := by decide +kernel
theorem dX5_blend_46 : decode cX5_blend 46 = .ok (.invokespecial 100, 3) := by decide +kernel
theorem dX5_blend_49 : decode cX5_blend 49 = .ok (.athrow, 1) := by decide +kernel
theorem dX5_blend_50 : decode cX5_blend 50 = .ok (.aload_n 3, 1) := by decide +kernel
theorem dX5_blend_51 : decode cX5_blend 51 = .ok (.getfield 125, 3) := by decide +kernel
theorem dX5_blend_54 : decode cX5_blend 54 = .ok (.iconst (-1), 1) := by decide +kernel
theorem dX5_blend_55 : decode cX5_blend 55 = .ok (.if_icmp .ne 12, 3) := by decide +kernel
theorem dX5_blend_58 : decode cX5_blend 58 = .ok (.aload 4, 2) := by decide +kernel
theorem dX5_blend_60 : decode cX5_blend 60 = .ok (.getfield 125, 3) := by decide +kernel
theorem dX5_blend_63 : decode cX5_blend 63 = .ok (.iconst (-1), 1) := by decide +kernel
theorem dX5_blend_64 : decode cX5_blend 64 = .ok (.if_icmp .eq 13, 3) := by decide +kernel
theorem dX5_blend_67 : decode cX5_blend 67 = .ok (.new 50, 3) := by decide +kernel
theorem dX5_blend_70 : decode cX5_blend 70 = .ok (.dup, 1) := by decide +kernel
theorem dX5_blend_71 : decode cX5_blend 71 = .ok (.ldc 128, 2) := by decide +kernel
theorem dX5_blend_73 : decode cX5_blend 73 = .ok (.invokespecial 54, 3) := by decide +kernel
theorem dX5_blend_76 : decode cX5_blend 76 = .ok (.athrow, 1) := by decide +kernel
theorem dX5_blend_77 : decode cX5_blend 77 = .ok (.aload_n 3, 1) := by decide +kernel
theorem dX5_blend_78 : decode cX5_blend 78 = .ok (.aload 4, 2) := by decide +kernel
theorem dX5_blend_80 : decode cX5_blend 80 = .ok (.invokevirtual 130, 3) := by decide +kernel
theorem dX5_blend_83 : decode cX5_blend 83 = .ok (.aload_n 3, 1) := by decide +kernel
theorem dX5_blend_84 : decode cX5_blend 84 = .ok (.getfield 111, 3) := by decide +kernel
theorem dX5_blend_87 : decode cX5_blend 87 = .ok (.ireturn, 1) := by decide +kernel
theorem dX5_load_0 : decode cX5_load 0 = .ok (.aload_n 0, 1) := by decide +kernel
theorem dX5_load_1 : decode cX5_load 1 = .ok (.iload_n 1, 1) := by decide +kernel
theorem dX5_load_2 : decode cX5_load 2 = .ok (.invokevirtual 134, 3) := by decide +kernel
theorem dX5_load_5 : decode cX5_load 5 = .ok (.astore_n 3, 1) := by decide +kernel
theorem dX5_load_6 : decode cX5_load 6 = .ok (.aload_n 0, 1) := by decide +kernel
theorem dX5_load_7 : decode cX5_load 7 = .ok (.iload_n 2, 1) := by decide +kernel
theorem dX5_load_8 : decode cX5_load 8 = .ok (.invokevirtual 117, 3) := by decide +kernel
theorem dX5_load_11 : decode cX5_load 11 = .ok (.astore 4, 2) := by decide +kernel
theorem dX5_load_13 : decode cX5_load 13 = .ok (.aload_n 3, 1) := by decide +kernel
theorem dX5_load_14 : decode cX5_load 14 = .ok (.getfield 138, 3) := by decide +kernel
theorem dX5_load_17 : decode cX5_load 17 = .ok (.ifnull 13, 3) := by decide +kernel
theorem dX5_load_20 : decode cX5_load 20 = .ok (.new 50, 3) := by decide +kernel
theorem dX5_load_23 : decode cX5_load 23 = .ok (.dup, 1) := by decide +kernel
theorem dX5_load_24 : decode cX5_load 24 = .ok (.ldc 142, 2) := by decide +kernel
theorem dX5_load_26 : decode cX5_load 26 = .ok (.invokespecial 54, 3) := by decide +kernel
theorem dX5_load_29 : decode cX5_load 29 = .ok (.athrow, 1) := by decide +kernel
theorem dX5_load_30 : decode cX5_load 30 = .ok (.aload 4, 2) := by decide +kernel
theorem dX5_load_32 : decode cX5_load 32 = .ok (.getfield 125, 3) := by decide +kernel
theorem dX5_load_35 : decode cX5_load 35 = .ok (.iconst (-1), 1) := by decide +kernel
theorem dX5_load_36 : decode cX5_load 36 = .ok (.if_icmp .eq 13, 3) := by decide +kernel
theorem dX5_load_39 : decode cX5_load 39 = .ok (.new 50, 3) := by decide +kernel
theorem dX5_load_42 : decode cX5_load 42 = .ok (.dup, 1) := by decide +kernel
theorem dX5_load_43 : decode cX5_load 43 = .ok (.ldc 144, 2) := by decide +kernel
theorem dX5_load_45 : decode cX5_load 45 = .ok (.invokespecial 54, 3) := by decide +kernel
theorem dX5_load_48 : decode cX5_load 48 = .ok (.athrow, 1) := by decide +kernel
theorem dX5_load_49 : decode cX5_load 49 = .ok (.aload 4, 2) := by decide +kernel
theorem dX5_load_51 : decode cX5_load 51 = .ok (.getfield 111, 3) := by decide +kernel
theorem dX5_load_54 : decode cX5_load 54 = .ok (.ifCond .ne 13, 3) := by decide +kernel
theorem dX5_load_57 : decode cX5_load 57 = .ok (.new 50, 3) := by decide +kernel
theorem dX5_load_60 : decode cX5_load 60 = .ok (.dup, 1) := by decide +kernel
theorem dX5_load_61 : decode cX5_load 61 = .ok (.ldc 146, 2) := by decide +kernel
theorem dX5_load_63 : decode cX5_load 63 = .ok (.invokespecial 54, 3) := by decide +kernel
theorem dX5_load_66 : decode cX5_load 66 = .ok (.athrow, 1) := by decide +kernel
theorem dX5_load_67 : decode cX5_load 67 = .ok (.aload_n 3, 1) := by decide +kernel
theorem dX5_load_68 : decode cX5_load 68 = .ok (.getfield 148, 3) := by decide +kernel
theorem dX5_load_71 : decode cX5_load 71 = .ok (.iconst (-1), 1) := by decide +kernel
theorem dX5_load_72 : decode cX5_load 72 = .ok (.if_icmp .eq 18, 3) := by decide +kernel
theorem dX5_load_75 : decode cX5_load 75 = .ok (.aload_n 3, 1) := by decide +kernel
theorem dX5_load_76 : decode cX5_load 76 = .ok (.getfield 148, 3) := by decide +kernel
theorem dX5_load_79 : decode cX5_load 79 = .ok (.aload 4, 2) := by decide +kernel
theorem dX5_load_81 : decode cX5_load 81 = .ok (.getfield 108, 3) := by decide +kernel
theorem dX5_load_84 : decode cX5_load 84 = .ok (.if_icmp .eq 6, 3) := by decide +kernel
theorem dX5_load_87 : decode cX5_load 87 = .ok (.bipush (-2), 2) := by decide +kernel
theorem dX5_load_89 : decode cX5_load 89 = .ok (.ireturn, 1) := by decide +kernel
theorem dX5_load_90 : decode cX5_load 90 = .ok (.aload 4, 2) := by decide +kernel
theorem dX5_load_92 : decode cX5_load 92 = .ok (.getfield 151, 3) := by decide +kernel
theorem dX5_load_95 : decode cX5_load 95 = .ok (.iconst 4, 1) := by decide +kernel
theorem dX5_load_96 : decode cX5_load 96 = .ok (.if_icmp .le 6, 3) := by decide +kernel
theorem dX5_load_99 : decode cX5_load 99 = .ok (.bipush (-3), 2) := by decide +kernel
theorem dX5_load_101 : decode cX5_load 101 = .ok (.ireturn, 1) := by decide +kernel
theorem dX5_load_102 : decode cX5_load 102 = .ok (.aload_n 3, 1) := by decide +kernel
theorem dX5_load_103 : decode cX5_load 103 = .ok (.aload 4, 2) := by decide +kernel
theorem dX5_load_105 : decode cX5_load 105 = .ok (.invokevirtual 154, 3) := by decide +kernel
theorem dX5_load_108 : decode cX5_load 108 = .ok (.aload_n 3, 1) := by decide +kernel
theorem dX5_load_109 : decode cX5_load 109 = .ok (.getfield 157, 3) := by decide +kernel
theorem dX5_load_112 : decode cX5_load 112 = .ok (.ireturn, 1) := by decide +kernel
theorem dX5_unload_0 : decode cX5_unload 0 = .ok (.aload_n 0, 1) := by decide +kernel
theorem dX5_unload_1 : decode cX5_unload 1 = .ok (.iload_n 1, 1) := by decide +kernel
theorem dX5_unload_2 : decode cX5_unload 2 = .ok (.invokevirtual 134, 3) := by decide +kernel
theorem dX5_unload_5 : decode cX5_unload 5 = .ok (.astore_n 2, 1) := by decide +kernel
theorem dX5_unload_6 : decode cX5_unload 6 = .ok (.aload_n 2, 1) := by decide +kernel
theorem dX5_unload_7 : decode cX5_unload 7 = .ok (.getfield 138, 3) := by decide +kernel
theorem dX5_unload_10 : decode cX5_unload 10 = .ok (.astore_n 3, 1) := by decide +kernel
theorem dX5_unload_11 : decode cX5_unload 11 = .ok (.aload_n 3, 1) := by decide +kernel
theorem dX5_unload_12 : decode cX5_unload 12 = .ok (.ifnonnull 13, 3) := by decide +kernel
theorem dX5_unload_15 : decode cX5_unload 15 = .ok (.new 50, 3) := by decide +kernel
theorem dX5_unload_18 : decode cX5_unload 18 = .ok (.dup, 1) := by decide +kernel
theorem dX5_unload_19 : decode cX5_unload 19 = .ok (.ldc 160, 2) := by decide +kernel
theorem dX5_unload_21 : decode cX5_unload 21 = .ok (.invokespecial 54, 3) := by decide +kernel
theorem dX5_unload_24 : decode cX5_unload 24 = .ok (.athrow, 1) := by decide +kernel
theorem dX5_unload_25 : decode cX5_unload 25 = .ok (.aload_n 2, 1) := by decide +kernel
theorem dX5_unload_26 : decode cX5_unload 26 = .ok (.getfield 162, 3) := by decide +kernel
theorem dX5_unload_29 : decode cX5_unload 29 = .ok (.ifnull 13, 3) := by decide +kernel
theorem dX5_unload_32 : decode cX5_unload 32 = .ok (.new 50, 3) := by decide +kernel
theorem dX5_unload_35 : decode cX5_unload 35 = .ok (.dup, 1) := by decide +kernel
theorem dX5_unload_36 : decode cX5_unload 36 = .ok (.ldc 166, 2) := by decide +kernel
theorem dX5_unload_38 : decode cX5_unload 38 = .ok (.invokespecial 54, 3) := by decide +kernel
theorem dX5_unload_41 : decode cX5_unload 41 = .ok (.athrow, 1) := by decide +kernel
theorem dX5_unload_42 : decode cX5_unload 42 = .ok (.aload_n 2, 1) := by decide +kernel
theorem dX5_unload_43 : decode cX5_unload 43 = .ok (.aload_n 2, 1) := by decide +kernel
theorem dX5_unload_44 : decode cX5_unload 44 = .ok (.getfield 157, 3) := by decide +kernel
theorem dX5_unload_47 : decode cX5_unload 47 = .ok (.invokevirtual 168, 3) := by decide +kernel
theorem dX5_unload_50 : decode cX5_unload 50 = .ok (.aload_n 3, 1) := by decide +kernel
theorem dX5_unload_51 : decode cX5_unload 51 = .ok (.getfield 111, 3) := by decide +kernel
theorem dX5_unload_54 : decode cX5_unload 54 = .ok (.ireturn, 1) := by decide +kernel
theorem dX5_clean_0 : decode cX5_clean 0 = .ok (.aload_n 0, 1) := by decide +kernel
theorem dX5_clean_1 : decode cX5_clean 1 = .ok (.iload_n 1, 1) := by decide +kernel
theorem dX5_clean_2 : decode cX5_clean 2 = .ok (.invokevirtual 134, 3) := by decide +kernel
theorem dX5_clean_5 : decode cX5_clean 5 = .ok (.astore_n 2, 1) := by decide +kernel
theorem dX5_clean_6 : decode cX5_clean 6 = .ok (.aload_n 2, 1) := by decide +kernel
theorem dX5_clean_7 : decode cX5_clean 7 = .ok (.aload_n 2, 1) := by decide +kernel
theorem dX5_clean_8 : decode cX5_clean 8 = .ok (.getfield 157, 3) := by decide +kernel
theorem dX5_clean_11 : decode cX5_clean 11 = .ok (.bipush 9, 2) := by decide +kernel
theorem dX5_clean_13 : decode cX5_clean 13 = .ok (.imul, 1) := by decide +kernel
theorem dX5_clean_14 : decode cX5_clean 14 = .ok (.bipush 10, 2) := by decide +kernel
theorem dX5_clean_16 : decode cX5_clean 16 = .ok (.idiv, 1) := by decide +kernel
theorem dX5_clean_17 : decode cX5_clean 17 = .ok (.invokevirtual 168, 3) := by decide +kernel
theorem dX5_clean_20 : decode cX5_clean 20 = .ok (.aload_n 2, 1) := by decide +kernel
theorem dX5_clean_21 : decode cX5_clean 21 = .ok (.iconst (-1), 1) := by decide +kernel
theorem dX5_clean_22 : decode cX5_clean 22 = .ok (.putfield 148, 3) := by decide +kernel
theorem dX5_clean_25 : decode cX5_clean 25 = .ok (.aload_n 2, 1) := by decide +kernel
theorem dX5_clean_26 : decode cX5_clean 26 = .ok (.getfield 162, 3) := by decide +kernel
theorem dX5_clean_29 : decode cX5_clean 29 = .ok (.ifnull 17, 3) := by decide +kernel
theorem dX5_clean_32 : decode cX5_clean 32 = .ok (.aload_n 2, 1) := by decide +kernel
theorem dX5_clean_33 : decode cX5_clean 33 = .ok (.getfield 162, 3) := by decide +kernel
theorem dX5_clean_36 : decode cX5_clean 36 = .ok (.bipush 6, 2) := by decide +kernel
theorem dX5_clean_38 : decode cX5_clean 38 = .ok (.putfield 171, 3) := by decide +kernel
theorem dX5_clean_41 : decode cX5_clean 41 = .ok (.aload_n 2, 1) := by decide +kernel
theorem dX5_clean_42 : decode cX5_clean 42 = .ok (.aconst_null, 1) := by decide +kernel
theorem dX5_clean_43 : decode cX5_clean 43 = .ok (.putfield 162, 3) := by decide +kernel
theorem dX5_clean_46 : decode cX5_clean 46 = .ok (.aload_n 2, 1) := by decide +kernel
theorem dX5_clean_47 : decode cX5_clean 47 = .ok (.getfield 174, 3) := by decide +kernel
theorem dX5_clean_50 : decode cX5_clean 50 = .ok (.istore_n 3, 1) := by decide +kernel
theorem dX5_clean_51 : decode cX5_clean 51 = .ok (.aload_n 2, 1) := by decide +kernel
theorem dX5_clean_52 : decode cX5_clean 52 = .ok (.iconst 0, 1) := by decide +kernel
theorem dX5_clean_53 : decode cX5_clean 53 = .ok (.putfield 174, 3) := by decide +kernel
theorem dX5_clean_56 : decode cX5_clean 56 = .ok (.iload_n 3, 1) := by decide +kernel
theorem dX5_clean_57 : decode cX5_clean 57 = .ok (.ireturn, 1) := by decide +kernel
theorem dX5_start_0 : decode cX5_start 0 = .ok (.aload_n 0, 1) := by decide +kernel
theorem dX5_start_1 : decode cX5_start 1 = .ok (.iload_n 1, 1) := by decide +kernel
theorem dX5_start_2 : decode cX5_start 2 = .ok (.invokevirtual 134, 3) := by decide +kernel
theorem dX5_start_5 : decode cX5_start 5 = .ok (.astore 5, 2) := by decide +kernel
theorem dX5_start_7 : decode cX5_start 7 = .ok (.aload_n 0, 1) := by decide +kernel
theorem dX5_start_8 : decode cX5_start 8 = .ok (.iload_n 2, 1) := by decide +kernel
theorem dX5_start_9 : decode cX5_start 9 = .ok (.invokevirtual 57, 3) := by decide +kernel
theorem dX5_start_12 : decode cX5_start 12 = .ok (.astore 6, 2) := by decide +kernel
theorem dX5_start_14 : decode cX5_start 14 = .ok (.iload_n 3, 1) := by decide +kernel
theorem dX5_start_15 : decode cX5_start 15 = .ok (.invokestatic 177, 3) := by decide +kernel
theorem dX5_start_18 : decode cX5_start 18 = .ok (.iload 4, 2) := by decide +kernel
theorem dX5_start_20 : decode cX5_start 20 = .ok (.iconst 1, 1) := by decide +kernel
theorem dX5_start_21 : decode cX5_start 21 = .ok (.if_icmp .lt 10, 3) := by decide +kernel
theorem dX5_start_24 : decode cX5_start 24 = .ok (.iload 4, 2) := by decide +kernel
theorem dX5_start_26 : decode cX5_start 26 = .ok (.bipush 20, 2) := by decide +kernel
theorem dX5_start_28 : decode cX5_start 28 = .ok (.if_icmp .le 13, 3) := by decide +kernel
theorem dX5_start_31 : decode cX5_start 31 = .ok (.new 96, 3) := by decide +kernel
theorem dX5_start_34 : decode cX5_start 34 = .ok (.dup, 1) := by decide +kernel
theorem dX5_start_35 : decode cX5_start 35 = .ok (.ldc 180, 2) := by decide +kernel
theorem dX5_start_37 : decode cX5_start 37 = .ok (.invokespecial 100, 3) := by decide +kernel
theorem dX5_start_40 : decode cX5_start 40 = .ok (.athrow, 1) := by decide +kernel
theorem dX5_start_41 : decode cX5_start 41 = .ok (.aload 6, 2) := by decide +kernel
theorem dX5_start_43 : decode cX5_start 43 = .ok (.invokestatic 64, 3) := by decide +kernel
theorem dX5_start_46 : decode cX5_start 46 = .ok (.aload 6, 2) := by decide +kernel
theorem dX5_start_48 : decode cX5_start 48 = .ok (.getfield 68, 3) := by decide +kernel
theorem dX5_start_51 : decode cX5_start 51 = .ok (.invokevirtual 92, 3) := by decide +kernel
theorem dX5_start_54 : decode cX5_start 54 = .ok (.ifCond .ne 13, 3) := by decide +kernel
theorem dX5_start_57 : decode cX5_start 57 = .ok (.new 50, 3) := by decide +kernel
theorem dX5_start_60 : decode cX5_start 60 = .ok (.dup, 1) := by decide +kernel
theorem dX5_start_61 : decode cX5_start 61 = .ok (.ldc 182, 2) := by decide +kernel
theorem dX5_start_63 : decode cX5_start 63 = .ok (.invokespecial 54, 3) := by decide +kernel
theorem dX5_start_66 : decode cX5_start 66 = .ok (.athrow, 1) := by decide +kernel
theorem dX5_start_67 : decode cX5_start 67 = .ok (.aload 5, 2) := by decide +kernel
theorem dX5_start_69 : decode cX5_start 69 = .ok (.getfield 162, 3) := by decide +kernel
theorem dX5_start_72 : decode cX5_start 72 = .ok (.ifnull 13, 3) := by decide +kernel
theorem dX5_start_75 : decode cX5_start 75 = .ok (.new 50, 3) := by decide +kernel
theorem dX5_start_78 : decode cX5_start 78 = .ok (.dup, 1) := by decide +kernel
theorem dX5_start_79 : decode cX5_start 79 = .ok (.ldc 166, 2) := by decide +kernel
theorem dX5_start_81 : decode cX5_start 81 = .ok (.invokespecial 54, 3) := by decide +kernel
theorem dX5_start_84 : decode cX5_start 84 = .ok (.athrow, 1) := by decide +kernel
theorem dX5_start_85 : decode cX5_start 85 = .ok (.aload 5, 2) := by decide +kernel
theorem dX5_start_87 : decode cX5_start 87 = .ok (.getfield 138, 3) := by decide +kernel
theorem dX5_start_90 : decode cX5_start 90 = .ok (.astore 7, 2) := by decide +kernel
theorem dX5_start_92 : decode cX5_start 92 = .ok (.aload 7, 2) := by decide +kernel
theorem dX5_start_94 : decode cX5_start 94 = .ok (.ifnonnull 13, 3) := by decide +kernel
theorem dX5_start_97 : decode cX5_start 97 = .ok (.new 50, 3) := by decide +kernel
theorem dX5_start_100 : decode cX5_start 100 = .ok (.dup, 1) := by decide +kernel
theorem dX5_start_101 : decode cX5_start 101 = .ok (.ldc 160, 2) := by decide +kernel
theorem dX5_start_103 : decode cX5_start 103 = .ok (.invokespecial 54, 3) := by decide +kernel
theorem dX5_start_106 : decode cX5_start 106 = .ok (.athrow, 1) := by decide +kernel
theorem dX5_start_107 : decode cX5_start 107 = .ok (.aload 6, 2) := by decide +kernel
theorem dX5_start_109 : decode cX5_start 109 = .ok (.aload 5, 2) := by decide +kernel
theorem dX5_start_111 : decode cX5_start 111 = .ok (.aload 7, 2) := by decide +kernel
theorem dX5_start_113 : decode cX5_start 113 = .ok (.iload_n 3, 1) := by decide +kernel
theorem dX5_start_114 : decode cX5_start 114 = .ok (.iload 4, 2) := by decide +kernel
theorem dX5_start_116 : decode cX5_start 116 = .ok (.invokevirtual 184, 3) := by decide +kernel
theorem dX5_start_119 : decode cX5_start 119 = .ok (.aload 5, 2) := by decide +kernel
theorem dX5_start_121 : decode cX5_start 121 = .ok (.aload 6, 2) := by decide +kernel
theorem dX5_start_123 : decode cX5_start 123 = .ok (.putfield 162, 3) := by decide +kernel
theorem dX5_start_126 : decode cX5_start 126 = .ok (.aload 6, 2) := by decide +kernel
theorem dX5_start_128 : decode cX5_start 128 = .ok (.getfield 68, 3) := by decide +kernel
theorem dX5_start_131 : decode cX5_start 131 = .ok (.invokevirtual 92, 3) := by decide +kernel
theorem dX5_start_134 : decode cX5_start 134 = .ok (.ireturn, 1) := by decide +kernel
theorem dX5_grow_0 : decode cX5_grow 0 = .ok (.aload_n 0, 1) := by decide +kernel
theorem dX5_grow_1 : decode cX5_grow 1 = .ok (.iload_n 1, 1) := by decide +kernel
theorem dX5_grow_2 : decode cX5_grow 2 = .ok (.invokevirtual 134, 3) := by decide +kernel
theorem dX5_grow_5 : decode cX5_grow 5 = .ok (.astore_n 3, 1) := by decide +kernel
theorem dX5_grow_6 : decode cX5_grow 6 = .ok (.iload_n 2, 1) := by decide +kernel
theorem dX5_grow_7 : decode cX5_grow 7 = .ok (.iconst 1, 1) := by decide +kernel
theorem dX5_grow_8 : decode cX5_grow 8 = .ok (.if_icmp .lt 9, 3) := by decide +kernel
theorem dX5_grow_11 : decode cX5_grow 11 = .ok (.iload_n 2, 1) := by decide +kernel
theorem dX5_grow_12 : decode cX5_grow 12 = .ok (.bipush 8, 2) := by decide +kernel
theorem dX5_grow_14 : decode cX5_grow 14 = .ok (.if_icmp .le 13, 3) := by decide +kernel
theorem dX5_grow_17 : decode cX5_grow 17 = .ok (.new 96, 3) := by decide +kernel
theorem dX5_grow_20 : decode cX5_grow 20 = .ok (.dup, 1) := by decide +kernel
theorem dX5_grow_21 : decode cX5_grow 21 = .ok (.ldc 188, 2) := by decide +kernel
theorem dX5_grow_23 : decode cX5_grow 23 = .ok (.invokespecial 100, 3) := by decide +kernel
theorem dX5_grow_26 : decode cX5_grow 26 = .ok (.athrow, 1) := by decide +kernel
theorem dX5_grow_27 : decode cX5_grow 27 = .ok (.aload_n 3, 1) := by decide +kernel
theorem dX5_grow_28 : decode cX5_grow 28 = .ok (.invokestatic 190, 3) := by decide +kernel
theorem dX5_grow_31 : decode cX5_grow 31 = .ok (.pop, 1) := by decide +kernel
theorem dX5_grow_32 : decode cX5_grow 32 = .ok (.iconst 0, 1) := by decide +kernel
theorem dX5_grow_33 : decode cX5_grow 33 = .ok (.istore 4, 2) := by decide +kernel
theorem dX5_grow_35 : decode cX5_grow 35 = .ok (.iload 4, 2) := by decide +kernel
theorem dX5_grow_37 : decode cX5_grow 37 = .ok (.iload_n 2, 1) := by decide +kernel
theorem dX5_grow_38 : decode cX5_grow 38 = .ok (.if_icmp .ge 17, 3) := by decide +kernel
theorem dX5_grow_41 : decode cX5_grow 41 = .ok (.aload_n 0, 1) := by decide +kernel
theorem dX5_grow_42 : decode cX5_grow 42 = .ok (.aload_n 3, 1) := by decide +kernel
theorem dX5_grow_43 : decode cX5_grow 43 = .ok (.invokevirtual 194, 3) := by decide +kernel
theorem dX5_grow_46 : decode cX5_grow 46 = .ok (.ifCond .eq 9, 3) := by decide +kernel
theorem dX5_grow_49 : decode cX5_grow 49 = .ok (.iinc 4 1, 3) := by decide +kernel
theorem dX5_grow_52 : decode cX5_grow 52 = .ok (.goto (-17), 3) := by decide +kernel
theorem dX5_grow_55 : decode cX5_grow 55 = .ok (.iload 4, 2) := by decide +kernel
theorem dX5_grow_57 : decode cX5_grow 57 = .ok (.ireturn, 1) := by decide +kernel
theorem dX5_stop_0 : decode cX5_stop 0 = .ok (.aload_n 0, 1) := by decide +kernel
theorem dX5_stop_1 : decode cX5_stop 1 = .ok (.iload_n 1, 1) := by decide +kernel
theorem dX5_stop_2 : decode cX5_stop 2 = .ok (.invokevirtual 134, 3) := by decide +kernel
theorem dX5_stop_5 : decode cX5_stop 5 = .ok (.astore_n 2, 1) := by decide +kernel
theorem dX5_stop_6 : decode cX5_stop 6 = .ok (.aload_n 2, 1) := by decide +kernel
theorem dX5_stop_7 : decode cX5_stop 7 = .ok (.invokestatic 190, 3) := by decide +kernel
theorem dX5_stop_10 : decode cX5_stop 10 = .ok (.astore_n 3, 1) := by decide +kernel
theorem dX5_stop_11 : decode cX5_stop 11 = .ok (.aload_n 3, 1) := by decide +kernel
theorem dX5_stop_12 : decode cX5_stop 12 = .ok (.getfield 198, 3) := by decide +kernel
theorem dX5_stop_15 : decode cX5_stop 15 = .ok (.invokevirtual 201, 3) := by decide +kernel
theorem dX5_stop_18 : decode cX5_stop 18 = .ok (.aload_n 3, 1) := by decide +kernel
theorem dX5_stop_19 : decode cX5_stop 19 = .ok (.dup, 1) := by decide +kernel
theorem dX5_stop_20 : decode cX5_stop 20 = .ok (.getfield 204, 3) := by decide +kernel
theorem dX5_stop_23 : decode cX5_stop 23 = .ok (.iconst 1, 1) := by decide +kernel
theorem dX5_stop_24 : decode cX5_stop 24 = .ok (.iadd, 1) := by decide +kernel
theorem dX5_stop_25 : decode cX5_stop 25 = .ok (.putfield 204, 3) := by decide +kernel
theorem dX5_stop_28 : decode cX5_stop 28 = .ok (.aload_n 3, 1) := by decide +kernel
theorem dX5_stop_29 : decode cX5_stop 29 = .ok (.getfield 204, 3) := by decide +kernel
theorem dX5_stop_32 : decode cX5_stop 32 = .ok (.ireturn, 1) := by decide +kernel
theorem dX5_growNext_0 : decode cX5_growNext 0 = .ok (.aload_n 1, 1) := by decide +kernel
theorem dX5_growNext_1 : decode cX5_growNext 1 = .ok (.getfield 162, 3) := by decide +kernel
theorem dX5_growNext_4 : decode cX5_growNext 4 = .ok (.astore_n 2, 1) := by decide +kernel
theorem dX5_growNext_5 : decode cX5_growNext 5 = .ok (.aload_n 2, 1) := by decide +kernel
theorem dX5_growNext_6 : decode cX5_growNext 6 = .ok (.ifnull 17, 3) := by decide +kernel
theorem dX5_growNext_9 : decode cX5_growNext 9 = .ok (.aload_n 2, 1) := by decide +kernel
theorem dX5_growNext_10 : decode cX5_growNext 10 = .ok (.getfield 207, 3) := by decide +kernel
theorem dX5_growNext_13 : decode cX5_growNext 13 = .ok (.aload_n 2, 1) := by decide +kernel
theorem dX5_growNext_14 : decode cX5_growNext 14 = .ok (.getfield 68, 3) := by decide +kernel
theorem dX5_growNext_17 : decode cX5_growNext 17 = .ok (.invokevirtual 92, 3) := by decide +kernel
theorem dX5_growNext_20 : decode cX5_growNext 20 = .ok (.if_icmp .lt 5, 3) := by decide +kernel
theorem dX5_growNext_23 : decode cX5_growNext 23 = .ok (.iconst 0, 1) := by decide +kernel
theorem dX5_growNext_24 : decode cX5_growNext 24 = .ok (.ireturn, 1) := by decide +kernel
theorem dX5_growNext_25 : decode cX5_growNext 25 = .ok (.aload_n 2, 1) := by decide +kernel
theorem dX5_growNext_26 : decode cX5_growNext 26 = .ok (.getfield 68, 3) := by decide +kernel
theorem dX5_growNext_29 : decode cX5_growNext 29 = .ok (.aload_n 2, 1) := by decide +kernel
theorem dX5_growNext_30 : decode cX5_growNext 30 = .ok (.getfield 207, 3) := by decide +kernel
theorem dX5_growNext_33 : decode cX5_growNext 33 = .ok (.invokevirtual 210, 3) := by decide +kernel
theorem dX5_growNext_36 : decode cX5_growNext 36 = .ok (.istore_n 3, 1) := by decide +kernel
theorem dX5_growNext_37 : decode cX5_growNext 37 = .ok (.aload_n 1, 1) := by decide +kernel
theorem dX5_growNext_38 : decode cX5_growNext 38 = .ok (.getfield 157, 3) := by decide +kernel
theorem dX5_growNext_41 : decode cX5_growNext 41 = .ok (.iload_n 3, 1) := by decide +kernel
theorem dX5_growNext_42 : decode cX5_growNext 42 = .ok (.if_icmp .ge 5, 3) := by decide +kernel
theorem dX5_growNext_45 : decode cX5_growNext 45 = .ok (.iconst 0, 1) := by decide +kernel
theorem dX5_growNext_46 : decode cX5_growNext 46 = .ok (.ireturn, 1) := by decide +kernel
theorem dX5_growNext_47 : decode cX5_growNext 47 = .ok (.aload_n 1, 1) := by decide +kernel
theorem dX5_growNext_48 : decode cX5_growNext 48 = .ok (.dup, 1) := by decide +kernel
theorem dX5_growNext_49 : decode cX5_growNext 49 = .ok (.getfield 157, 3) := by decide +kernel
theorem dX5_growNext_52 : decode cX5_growNext 52 = .ok (.iload_n 3, 1) := by decide +kernel
theorem dX5_growNext_53 : decode cX5_growNext 53 = .ok (.isub, 1) := by decide +kernel
theorem dX5_growNext_54 : decode cX5_growNext 54 = .ok (.putfield 157, 3) := by decide +kernel
theorem dX5_growNext_57 : decode cX5_growNext 57 = .ok (.aload_n 2, 1) := by decide +kernel
theorem dX5_growNext_58 : decode cX5_growNext 58 = .ok (.invokevirtual 214, 3) := by decide +kernel
theorem dX5_growNext_61 : decode cX5_growNext 61 = .ok (.aload_n 0, 1) := by decide +kernel
theorem dX5_growNext_62 : decode cX5_growNext 62 = .ok (.dup, 1) := by decide +kernel
theorem dX5_growNext_63 : decode cX5_growNext 63 = .ok (.getfield 217, 3) := by decide +kernel
theorem dX5_growNext_66 : decode cX5_growNext 66 = .ok (.iconst 1, 1) := by decide +kernel
theorem dX5_growNext_67 : decode cX5_growNext 67 = .ok (.iadd, 1) := by decide +kernel
theorem dX5_growNext_68 : decode cX5_growNext 68 = .ok (.putfield 217, 3) := by decide +kernel
theorem dX5_growNext_71 : decode cX5_growNext 71 = .ok (.aload_n 2, 1) := by decide +kernel
theorem dX5_growNext_72 : decode cX5_growNext 72 = .ok (.invokevirtual 220, 3) := by decide +kernel
theorem dX5_growNext_75 : decode cX5_growNext 75 = .ok (.ifCond .eq 27, 3) := by decide +kernel
theorem dX5_growNext_78 : decode cX5_growNext 78 = .ok (.aload_n 0, 1) := by decide +kernel
theorem dX5_growNext_79 : decode cX5_growNext 79 = .ok (.dup, 1) := by decide +kernel
theorem dX5_growNext_80 : decode cX5_growNext 80 = .ok (.getfield 224, 3) := by decide +kernel
theorem dX5_growNext_83 : decode cX5_growNext 83 = .ok (.iconst 1, 1) := by decide +kernel
theorem dX5_growNext_84 : decode cX5_growNext 84 = .ok (.iadd, 1) := by decide +kernel
theorem dX5_growNext_85 : decode cX5_growNext 85 = .ok (.putfield 224, 3) := by decide +kernel
theorem dX5_growNext_88 : decode cX5_growNext 88 = .ok (.aload_n 2, 1) := by decide +kernel
theorem dX5_growNext_89 : decode cX5_growNext 89 = .ok (.bipush 6, 2) := by decide +kernel
theorem dX5_growNext_91 : decode cX5_growNext 91 = .ok (.putfield 171, 3) := by decide +kernel
theorem dX5_growNext_94 : decode cX5_growNext 94 = .ok (.aload_n 1, 1) := by decide +kernel
theorem dX5_growNext_95 : decode cX5_growNext 95 = .ok (.aconst_null, 1) := by decide +kernel
theorem dX5_growNext_96 : decode cX5_growNext 96 = .ok (.putfield 162, 3) := by decide +kernel
theorem dX5_growNext_99 : decode cX5_growNext 99 = .ok (.goto 27, 3) := by decide +kernel
theorem dX5_growNext_102 : decode cX5_growNext 102 = .ok (.aload_n 2, 1) := by decide +kernel
theorem dX5_growNext_103 : decode cX5_growNext 103 = .ok (.getfield 207, 3) := by decide +kernel
theorem dX5_growNext_106 : decode cX5_growNext 106 = .ok (.aload_n 2, 1) := by decide +kernel
theorem dX5_growNext_107 : decode cX5_growNext 107 = .ok (.getfield 68, 3) := by decide +kernel
theorem dX5_growNext_110 : decode cX5_growNext 110 = .ok (.invokevirtual 92, 3) := by decide +kernel
theorem dX5_growNext_113 : decode cX5_growNext 113 = .ok (.if_icmp .lt 13, 3) := by decide +kernel
theorem dX5_growNext_116 : decode cX5_growNext 116 = .ok (.aload_n 2, 1) := by decide +kernel
theorem dX5_growNext_117 : decode cX5_growNext 117 = .ok (.iconst 2, 1) := by decide +kernel
theorem dX5_growNext_118 : decode cX5_growNext 118 = .ok (.putfield 171, 3) := by decide +kernel
theorem dX5_growNext_121 : decode cX5_growNext 121 = .ok (.aload_n 1, 1) := by decide +kernel
theorem dX5_growNext_122 : decode cX5_growNext 122 = .ok (.aconst_null, 1) := by decide +kernel
theorem dX5_growNext_123 : decode cX5_growNext 123 = .ok (.putfield 162, 3) := by decide +kernel
theorem dX5_growNext_126 : decode cX5_growNext 126 = .ok (.iconst 1, 1) := by decide +kernel
theorem dX5_growNext_127 : decode cX5_growNext 127 = .ok (.ireturn, 1) := by decide +kernel
theorem dX5_relieve_0 : decode cX5_relieve 0 = .ok (.aload_n 0, 1) := by decide +kernel
theorem dX5_relieve_1 : decode cX5_relieve 1 = .ok (.iload_n 1, 1) := by decide +kernel
theorem dX5_relieve_2 : decode cX5_relieve 2 = .ok (.invokevirtual 57, 3) := by decide +kernel
theorem dX5_relieve_5 : decode cX5_relieve 5 = .ok (.astore_n 2, 1) := by decide +kernel
theorem dX5_relieve_6 : decode cX5_relieve 6 = .ok (.aload_n 2, 1) := by decide +kernel
theorem dX5_relieve_7 : decode cX5_relieve 7 = .ok (.getfield 171, 3) := by decide +kernel
theorem dX5_relieve_10 : decode cX5_relieve 10 = .ok (.iconst 2, 1) := by decide +kernel
theorem dX5_relieve_11 : decode cX5_relieve 11 = .ok (.if_icmp .eq 13, 3) := by decide +kernel
theorem dX5_relieve_14 : decode cX5_relieve 14 = .ok (.new 50, 3) := by decide +kernel
theorem dX5_relieve_17 : decode cX5_relieve 17 = .ok (.dup, 1) := by decide +kernel
theorem dX5_relieve_18 : decode cX5_relieve 18 = .ok (.ldc 227, 2) := by decide +kernel
theorem dX5_relieve_20 : decode cX5_relieve 20 = .ok (.invokespecial 54, 3) := by decide +kernel
theorem dX5_relieve_23 : decode cX5_relieve 23 = .ok (.athrow, 1) := by decide +kernel
theorem dX5_relieve_24 : decode cX5_relieve 24 = .ok (.aload_n 2, 1) := by decide +kernel
theorem dX5_relieve_25 : decode cX5_relieve 25 = .ok (.iconst 3, 1) := by decide +kernel
theorem dX5_relieve_26 : decode cX5_relieve 26 = .ok (.putfield 171, 3) := by decide +kernel
theorem dX5_relieve_29 : decode cX5_relieve 29 = .ok (.aload_n 2, 1) := by decide +kernel
theorem dX5_relieve_30 : decode cX5_relieve 30 = .ok (.getfield 198, 3) := by decide +kernel
theorem dX5_relieve_33 : decode cX5_relieve 33 = .ok (.getfield 229, 3) := by decide +kernel
theorem dX5_relieve_36 : decode cX5_relieve 36 = .ok (.ireturn, 1) := by decide +kernel
theorem dX5_saw_0 : decode cX5_saw 0 = .ok (.aload_n 0, 1) := by decide +kernel
theorem dX5_saw_1 : decode cX5_saw 1 = .ok (.iload_n 1, 1) := by decide +kernel
theorem dX5_saw_2 : decode cX5_saw 2 = .ok (.invokevirtual 57, 3) := by decide +kernel
theorem dX5_saw_5 : decode cX5_saw 5 = .ok (.astore_n 2, 1) := by decide +kernel
theorem dX5_saw_6 : decode cX5_saw 6 = .ok (.aload_n 2, 1) := by decide +kernel
theorem dX5_saw_7 : decode cX5_saw 7 = .ok (.getfield 171, 3) := by decide +kernel
theorem dX5_saw_10 : decode cX5_saw 10 = .ok (.iconst 2, 1) := by decide +kernel
theorem dX5_saw_11 : decode cX5_saw 11 = .ok (.if_icmp .eq 21, 3) := by decide +kernel
theorem dX5_saw_14 : decode cX5_saw 14 = .ok (.aload_n 2, 1) := by decide +kernel
theorem dX5_saw_15 : decode cX5_saw 15 = .ok (.getfield 171, 3) := by decide +kernel
theorem dX5_saw_18 : decode cX5_saw 18 = .ok (.iconst 3, 1) := by decide +kernel
theorem dX5_saw_19 : decode cX5_saw 19 = .ok (.if_icmp .eq 13, 3) := by decide +kernel
theorem dX5_saw_22 : decode cX5_saw 22 = .ok (.new 50, 3) := by decide +kernel
theorem dX5_saw_25 : decode cX5_saw 25 = .ok (.dup, 1) := by decide +kernel
theorem dX5_saw_26 : decode cX5_saw 26 = .ok (.ldc 232, 2) := by decide +kernel
theorem dX5_saw_28 : decode cX5_saw 28 = .ok (.invokespecial 54, 3) := by decide +kernel
theorem dX5_saw_31 : decode cX5_saw 31 = .ok (.athrow, 1) := by decide +kernel
theorem dX5_saw_32 : decode cX5_saw 32 = .ok (.aload_n 2, 1) := by decide +kernel
theorem dX5_saw_33 : decode cX5_saw 33 = .ok (.aload_n 2, 1) := by decide +kernel
theorem dX5_saw_34 : decode cX5_saw 34 = .ok (.getfield 171, 3) := by decide +kernel
theorem dX5_saw_37 : decode cX5_saw 37 = .ok (.iconst 3, 1) := by decide +kernel
theorem dX5_saw_38 : decode cX5_saw 38 = .ok (.if_icmp .ne 7, 3) := by decide +kernel
theorem dX5_saw_41 : decode cX5_saw 41 = .ok (.iconst 4, 1) := by decide +kernel
theorem dX5_saw_42 : decode cX5_saw 42 = .ok (.goto 5, 3) := by decide +kernel
theorem dX5_saw_45 : decode cX5_saw 45 = .ok (.bipush 6, 2) := by decide +kernel
theorem dX5_saw_47 : decode cX5_saw 47 = .ok (.putfield 171, 3) := by decide +kernel
theorem dX5_saw_50 : decode cX5_saw 50 = .ok (.aload_n 2, 1) := by decide +kernel
theorem dX5_saw_51 : decode cX5_saw 51 = .ok (.getfield 171, 3) := by decide +kernel
theorem dX5_saw_54 : decode cX5_saw 54 = .ok (.iconst 4, 1) := by decide +kernel
theorem dX5_saw_55 : decode cX5_saw 55 = .ok (.if_icmp .ne 7, 3) := by decide +kernel
theorem dX5_saw_58 : decode cX5_saw 58 = .ok (.iconst 1, 1) := by decide +kernel
theorem dX5_saw_59 : decode cX5_saw 59 = .ok (.goto 4, 3) := by decide +kernel
theorem dX5_saw_62 : decode cX5_saw 62 = .ok (.iconst 0, 1) := by decide +kernel
theorem dX5_saw_63 : decode cX5_saw 63 = .ok (.ireturn, 1) := by decide +kernel
theorem dX5_press_0 : decode cX5_press 0 = .ok (.aload_n 0, 1) := by decide +kernel
theorem dX5_press_1 : decode cX5_press 1 = .ok (.iload_n 1, 1) := by decide +kernel
theorem dX5_press_2 : decode cX5_press 2 = .ok (.invokevirtual 57, 3) := by decide +kernel
theorem dX5_press_5 : decode cX5_press 5 = .ok (.astore_n 2, 1) := by decide +kernel
theorem dX5_press_6 : decode cX5_press 6 = .ok (.aload_n 2, 1) := by decide +kernel
theorem dX5_press_7 : decode cX5_press 7 = .ok (.getfield 171, 3) := by decide +kernel
theorem dX5_press_10 : decode cX5_press 10 = .ok (.iconst 3, 1) := by decide +kernel
theorem dX5_press_11 : decode cX5_press 11 = .ok (.if_icmp .eq 21, 3) := by decide +kernel
theorem dX5_press_14 : decode cX5_press 14 = .ok (.aload_n 2, 1) := by decide +kernel
theorem dX5_press_15 : decode cX5_press 15 = .ok (.getfield 171, 3) := by decide +kernel
theorem dX5_press_18 : decode cX5_press 18 = .ok (.iconst 4, 1) := by decide +kernel
theorem dX5_press_19 : decode cX5_press 19 = .ok (.if_icmp .eq 13, 3) := by decide +kernel
theorem dX5_press_22 : decode cX5_press 22 = .ok (.new 50, 3) := by decide +kernel
theorem dX5_press_25 : decode cX5_press 25 = .ok (.dup, 1) := by decide +kernel
theorem dX5_press_26 : decode cX5_press 26 = .ok (.ldc 234, 2) := by decide +kernel
theorem dX5_press_28 : decode cX5_press 28 = .ok (.invokespecial 54, 3) := by decide +kernel
theorem dX5_press_31 : decode cX5_press 31 = .ok (.athrow, 1) := by decide +kernel
theorem dX5_press_32 : decode cX5_press 32 = .ok (.aload_n 2, 1) := by decide +kernel
theorem dX5_press_33 : decode cX5_press 33 = .ok (.getfield 198, 3) := by decide +kernel
theorem dX5_press_36 : decode cX5_press 36 = .ok (.aload_n 2, 1) := by decide +kernel
theorem dX5_press_37 : decode cX5_press 37 = .ok (.getfield 198, 3) := by decide +kernel
theorem dX5_press_40 : decode cX5_press 40 = .ok (.getfield 229, 3) := by decide +kernel
theorem dX5_press_43 : decode cX5_press 43 = .ok (.iconst 4, 1) := by decide +kernel
theorem dX5_press_44 : decode cX5_press 44 = .ok (.idiv, 1) := by decide +kernel
theorem dX5_press_45 : decode cX5_press 45 = .ok (.putfield 229, 3) := by decide +kernel
theorem dX5_press_48 : decode cX5_press 48 = .ok (.aload_n 2, 1) := by decide +kernel
theorem dX5_press_49 : decode cX5_press 49 = .ok (.getfield 198, 3) := by decide +kernel
theorem dX5_press_52 : decode cX5_press 52 = .ok (.getfield 229, 3) := by decide +kernel
theorem dX5_press_55 : decode cX5_press 55 = .ok (.ireturn, 1) := by decide +kernel
theorem dX5_prove_0 : decode cX5_prove 0 = .ok (.aload_n 0, 1) := by decide +kernel
theorem dX5_prove_1 : decode cX5_prove 1 = .ok (.iload_n 1, 1) := by decide +kernel
theorem dX5_prove_2 : decode cX5_prove 2 = .ok (.invokevirtual 57, 3) := by decide +kernel
theorem dX5_prove_5 : decode cX5_prove 5 = .ok (.astore_n 2, 1) := by decide +kernel
theorem dX5_prove_6 : decode cX5_prove 6 = .ok (.aload_n 2, 1) := by decide +kernel
theorem dX5_prove_7 : decode cX5_prove 7 = .ok (.invokestatic 236, 3) := by decide +kernel
theorem dX5_prove_10 : decode cX5_prove 10 = .ok (.aload_n 2, 1) := by decide +kernel
theorem dX5_prove_11 : decode cX5_prove 11 = .ok (.getfield 239, 3) := by decide +kernel
theorem dX5_prove_14 : decode cX5_prove 14 = .ok (.ifnull 10, 3) := by decide +kernel
theorem dX5_prove_17 : decode cX5_prove 17 = .ok (.aload_n 2, 1) := by decide +kernel
theorem dX5_prove_18 : decode cX5_prove 18 = .ok (.invokevirtual 242, 3) := by decide +kernel
theorem dX5_prove_21 : decode cX5_prove 21 = .ok (.ifCond .ne 5, 3) := by decide +kernel
theorem dX5_prove_24 : decode cX5_prove 24 = .ok (.iconst 0, 1) := by decide +kernel
theorem dX5_prove_25 : decode cX5_prove 25 = .ok (.ireturn, 1) := by decide +kernel
theorem dX5_prove_26 : decode cX5_prove 26 = .ok (.aload_n 2, 1) := by decide +kernel
theorem dX5_prove_27 : decode cX5_prove 27 = .ok (.getfield 239, 3) := by decide +kernel
theorem dX5_prove_30 : decode cX5_prove 30 = .ok (.aload_n 2, 1) := by decide +kernel
theorem dX5_prove_31 : decode cX5_prove 31 = .ok (.getfield 245, 3) := by decide +kernel
theorem dX5_prove_34 : decode cX5_prove 34 = .ok (.invokevirtual 248, 3) := by decide +kernel
theorem dX5_prove_37 : decode cX5_prove 37 = .ok (.iconst 1, 1) := by decide +kernel
theorem dX5_prove_38 : decode cX5_prove 38 = .ok (.ireturn, 1) := by decide +kernel
theorem dX5_accept_0 : decode cX5_accept 0 = .ok (.aload_n 0, 1) := by decide +kernel
theorem dX5_accept_1 : decode cX5_accept 1 = .ok (.iload_n 1, 1) := by decide +kernel
theorem dX5_accept_2 : decode cX5_accept 2 = .ok (.invokevirtual 57, 3) := by decide +kernel
theorem dX5_accept_5 : decode cX5_accept 5 = .ok (.astore_n 2, 1) := by decide +kernel
theorem dX5_accept_6 : decode cX5_accept 6 = .ok (.aload_n 2, 1) := by decide +kernel
theorem dX5_accept_7 : decode cX5_accept 7 = .ok (.invokestatic 236, 3) := by decide +kernel
theorem dX5_accept_10 : decode cX5_accept 10 = .ok (.aload_n 2, 1) := by decide +kernel
theorem dX5_accept_11 : decode cX5_accept 11 = .ok (.getfield 239, 3) := by decide +kernel
theorem dX5_accept_14 : decode cX5_accept 14 = .ok (.ifnull 17, 3) := by decide +kernel
theorem dX5_accept_17 : decode cX5_accept 17 = .ok (.aload_n 2, 1) := by decide +kernel
theorem dX5_accept_18 : decode cX5_accept 18 = .ok (.getfield 239, 3) := by decide +kernel
theorem dX5_accept_21 : decode cX5_accept 21 = .ok (.aload_n 2, 1) := by decide +kernel
theorem dX5_accept_22 : decode cX5_accept 22 = .ok (.getfield 245, 3) := by decide +kernel
theorem dX5_accept_25 : decode cX5_accept 25 = .ok (.invokevirtual 251, 3) := by decide +kernel
theorem dX5_accept_28 : decode cX5_accept 28 = .ok (.ifCond .ne 5, 3) := by decide +kernel
theorem dX5_accept_31 : decode cX5_accept 31 = .ok (.iconst 1, 1) := by decide +kernel
theorem dX5_accept_32 : decode cX5_accept 32 = .ok (.ireturn, 1) := by decide +kernel
theorem dX5_accept_33 : decode cX5_accept 33 = .ok (.aload_n 2, 1) := by decide +kernel
theorem dX5_accept_34 : decode cX5_accept 34 = .ok (.invokevirtual 242, 3) := by decide +kernel
theorem dX5_accept_37 : decode cX5_accept 37 = .ok (.ifCond .ne 5, 3) := by decide +kernel
theorem dX5_accept_40 : decode cX5_accept 40 = .ok (.iconst 2, 1) := by decide +kernel
theorem dX5_accept_41 : decode cX5_accept 41 = .ok (.ireturn, 1) := by decide +kernel
theorem dX5_accept_42 : decode cX5_accept 42 = .ok (.aload_n 2, 1) := by decide +kernel
theorem dX5_accept_43 : decode cX5_accept 43 = .ok (.getfield 204, 3) := by decide +kernel
theorem dX5_accept_46 : decode cX5_accept 46 = .ok (.iconst 1, 1) := by decide +kernel
theorem dX5_accept_47 : decode cX5_accept 47 = .ok (.if_icmp .le 5, 3) := by decide +kernel
theorem dX5_accept_50 : decode cX5_accept 50 = .ok (.iconst 3, 1) := by decide +kernel
theorem dX5_accept_51 : decode cX5_accept 51 = .ok (.ireturn, 1) := by decide +kernel
theorem dX5_accept_52 : decode cX5_accept 52 = .ok (.aload_n 2, 1) := by decide +kernel
theorem dX5_accept_53 : decode cX5_accept 53 = .ok (.iconst 5, 1) := by decide +kernel
theorem dX5_accept_54 : decode cX5_accept 54 = .ok (.putfield 171, 3) := by decide +kernel
theorem dX5_accept_57 : decode cX5_accept 57 = .ok (.iconst 0, 1) := by decide +kernel
theorem dX5_accept_58 : decode cX5_accept 58 = .ok (.ireturn, 1) := by decide +kernel
theorem dX5_ofPiece_0 : decode cX5_ofPiece 0 = .ok (.aload_n 0, 1) := by decide +kernel
theorem dX5_ofPiece_1 : decode cX5_ofPiece 1 = .ok (.iload_n 1, 1) := by decide +kernel
theorem dX5_ofPiece_2 : decode cX5_ofPiece 2 = .ok (.invokevirtual 57, 3) := by decide +kernel
theorem dX5_ofPiece_5 : decode cX5_ofPiece 5 = .ok (.astore_n 3, 1) := by decide +kernel
theorem dX5_ofPiece_6 : decode cX5_ofPiece 6 = .ok (.iload_n 2, 1) := by decide +kernel
theorem dX5_ofPiece_7 : decode cX5_ofPiece 7 = .ok (.tableswitch 183 0 14 #[73, 78, 86, 94, 102, 110, 118, 123, 131, 139, 144, 163, 168, 173, 178], 73) := by decide +kernel
theorem dX5_ofPiece_80 : decode cX5_ofPiece 80 = .ok (.aload_n 3, 1) := by decide +kernel
theorem dX5_ofPiece_81 : decode cX5_ofPiece 81 = .ok (.getfield 171, 3) := by decide +kernel
theorem dX5_ofPiece_84 : decode cX5_ofPiece 84 = .ok (.ireturn, 1) := by decide +kernel
theorem dX5_ofPiece_85 : decode cX5_ofPiece 85 = .ok (.aload_n 3, 1) := by decide +kernel
theorem dX5_ofPiece_86 : decode cX5_ofPiece 86 = .ok (.getfield 68, 3) := by decide +kernel
theorem dX5_ofPiece_89 : decode cX5_ofPiece 89 = .ok (.invokevirtual 92, 3) := by decide +kernel
theorem dX5_ofPiece_92 : decode cX5_ofPiece 92 = .ok (.ireturn, 1) := by decide +kernel
theorem dX5_ofPiece_93 : decode cX5_ofPiece 93 = .ok (.aload_n 3, 1) := by decide +kernel
theorem dX5_ofPiece_94 : decode cX5_ofPiece 94 = .ok (.getfield 68, 3) := by decide +kernel
theorem dX5_ofPiece_97 : decode cX5_ofPiece 97 = .ok (.invokevirtual 255, 3) := by decide +kernel
theorem dX5_ofPiece_100 : decode cX5_ofPiece 100 = .ok (.ireturn, 1) := by decide +kernel
theorem dX5_ofPiece_101 : decode cX5_ofPiece 101 = .ok (.aload_n 3, 1) := by decide +kernel
theorem dX5_ofPiece_102 : decode cX5_ofPiece 102 = .ok (.getfield 68, 3) := by decide +kernel
theorem dX5_ofPiece_105 : decode cX5_ofPiece 105 = .ok (.invokevirtual 258, 3) := by decide +kernel
theorem dX5_ofPiece_108 : decode cX5_ofPiece 108 = .ok (.ireturn, 1) := by decide +kernel
theorem dX5_ofPiece_109 : decode cX5_ofPiece 109 = .ok (.aload_n 3, 1) := by decide +kernel
theorem dX5_ofPiece_110 : decode cX5_ofPiece 110 = .ok (.getfield 68, 3) := by decide +kernel
theorem dX5_ofPiece_113 : decode cX5_ofPiece 113 = .ok (.invokevirtual 261, 3) := by decide +kernel
theorem dX5_ofPiece_116 : decode cX5_ofPiece 116 = .ok (.ireturn, 1) := by decide +kernel
theorem dX5_ofPiece_117 : decode cX5_ofPiece 117 = .ok (.aload_n 3, 1) := by decide +kernel
theorem dX5_ofPiece_118 : decode cX5_ofPiece 118 = .ok (.getfield 68, 3) := by decide +kernel
theorem dX5_ofPiece_121 : decode cX5_ofPiece 121 = .ok (.invokevirtual 264, 3) := by decide +kernel
theorem dX5_ofPiece_124 : decode cX5_ofPiece 124 = .ok (.ireturn, 1) := by decide +kernel
theorem dX5_ofPiece_125 : decode cX5_ofPiece 125 = .ok (.aload_n 3, 1) := by decide +kernel
theorem dX5_ofPiece_126 : decode cX5_ofPiece 126 = .ok (.getfield 207, 3) := by decide +kernel
theorem dX5_ofPiece_129 : decode cX5_ofPiece 129 = .ok (.ireturn, 1) := by decide +kernel
theorem dX5_ofPiece_130 : decode cX5_ofPiece 130 = .ok (.aload_n 3, 1) := by decide +kernel
theorem dX5_ofPiece_131 : decode cX5_ofPiece 131 = .ok (.getfield 198, 3) := by decide +kernel
theorem dX5_ofPiece_134 : decode cX5_ofPiece 134 = .ok (.getfield 229, 3) := by decide +kernel
theorem dX5_ofPiece_137 : decode cX5_ofPiece 137 = .ok (.ireturn, 1) := by decide +kernel
theorem dX5_ofPiece_138 : decode cX5_ofPiece 138 = .ok (.aload_n 3, 1) := by decide +kernel
theorem dX5_ofPiece_139 : decode cX5_ofPiece 139 = .ok (.getfield 198, 3) := by decide +kernel
theorem dX5_ofPiece_142 : decode cX5_ofPiece 142 = .ok (.getfield 267, 3) := by decide +kernel
theorem dX5_ofPiece_145 : decode cX5_ofPiece 145 = .ok (.ireturn, 1) := by decide +kernel
theorem dX5_ofPiece_146 : decode cX5_ofPiece 146 = .ok (.aload_n 3, 1) := by decide +kernel
theorem dX5_ofPiece_147 : decode cX5_ofPiece 147 = .ok (.getfield 204, 3) := by decide +kernel
theorem dX5_ofPiece_150 : decode cX5_ofPiece 150 = .ok (.ireturn, 1) := by decide +kernel
theorem dX5_ofPiece_151 : decode cX5_ofPiece 151 = .ok (.aload_n 3, 1) := by decide +kernel
theorem dX5_ofPiece_152 : decode cX5_ofPiece 152 = .ok (.getfield 239, 3) := by decide +kernel
theorem dX5_ofPiece_155 : decode cX5_ofPiece 155 = .ok (.ifnonnull 7, 3) := by decide +kernel
theorem dX5_ofPiece_158 : decode cX5_ofPiece 158 = .ok (.iconst (-1), 1) := by decide +kernel
theorem dX5_ofPiece_159 : decode cX5_ofPiece 159 = .ok (.goto 10, 3) := by decide +kernel
theorem dX5_ofPiece_162 : decode cX5_ofPiece 162 = .ok (.aload_n 3, 1) := by decide +kernel
theorem dX5_ofPiece_163 : decode cX5_ofPiece 163 = .ok (.getfield 239, 3) := by decide +kernel
theorem dX5_ofPiece_166 : decode cX5_ofPiece 166 = .ok (.getfield 270, 3) := by decide +kernel
theorem dX5_ofPiece_169 : decode cX5_ofPiece 169 = .ok (.ireturn, 1) := by decide +kernel
theorem dX5_ofPiece_170 : decode cX5_ofPiece 170 = .ok (.aload_n 3, 1) := by decide +kernel
theorem dX5_ofPiece_171 : decode cX5_ofPiece 171 = .ok (.getfield 271, 3) := by decide +kernel
theorem dX5_ofPiece_174 : decode cX5_ofPiece 174 = .ok (.ireturn, 1) := by decide +kernel
theorem dX5_ofPiece_175 : decode cX5_ofPiece 175 = .ok (.aload_n 3, 1) := by decide +kernel
theorem dX5_ofPiece_176 : decode cX5_ofPiece 176 = .ok (.getfield 274, 3) := by decide +kernel
theorem dX5_ofPiece_179 : decode cX5_ofPiece 179 = .ok (.ireturn, 1) := by decide +kernel
theorem dX5_ofPiece_180 : decode cX5_ofPiece 180 = .ok (.aload_n 3, 1) := by decide +kernel
theorem dX5_ofPiece_181 : decode cX5_ofPiece 181 = .ok (.getfield 277, 3) := by decide +kernel
theorem dX5_ofPiece_184 : decode cX5_ofPiece 184 = .ok (.ireturn, 1) := by decide +kernel
theorem dX5_ofPiece_185 : decode cX5_ofPiece 185 = .ok (.aload_n 3, 1) := by decide +kernel
theorem dX5_ofPiece_186 : decode cX5_ofPiece 186 = .ok (.getfield 278, 3) := by decide +kernel
theorem dX5_ofPiece_189 : decode cX5_ofPiece 189 = .ok (.ireturn, 1) := by decide +kernel
theorem dX5_ofPiece_190 : decode cX5_ofPiece 190 = .ok (.new 96, 3) := by decide +kernel
theorem dX5_ofPiece_193 : decode cX5_ofPiece 193 = .ok (.dup, 1) := by decide +kernel
theorem dX5_ofPiece_194 : decode cX5_ofPiece 194 = .ok (.ldc_w 281, 3) := by decide +kernel
theorem dX5_ofPiece_197 : decode cX5_ofPiece 197 = .ok (.invokespecial 100, 3) := by decide +kernel
theorem dX5_ofPiece_200 : decode cX5_ofPiece 200 = .ok (.athrow, 1) := by decide +kernel
theorem dX5_ofLayer_0 : decode cX5_ofLayer 0 = .ok (.aload_n 0, 1) := by decide +kernel
theorem dX5_ofLayer_1 : decode cX5_ofLayer 1 = .ok (.iload_n 1, 1) := by decide +kernel
theorem dX5_ofLayer_2 : decode cX5_ofLayer 2 = .ok (.invokevirtual 57, 3) := by decide +kernel
theorem dX5_ofLayer_5 : decode cX5_ofLayer 5 = .ok (.astore 4, 2) := by decide +kernel
theorem dX5_ofLayer_7 : decode cX5_ofLayer 7 = .ok (.iload_n 2, 1) := by decide +kernel
theorem dX5_ofLayer_8 : decode cX5_ofLayer 8 = .ok (.invokestatic 61, 3) := by decide +kernel
theorem dX5_ofLayer_11 : decode cX5_ofLayer 11 = .ok (.iload_n 3, 1) := by decide +kernel
theorem dX5_ofLayer_12 : decode cX5_ofLayer 12 = .ok (.tableswitch 61 0 2 #[28, 39, 50], 28) := by decide +kernel
theorem dX5_ofLayer_40 : decode cX5_ofLayer 40 = .ok (.aload 4, 2) := by decide +kernel
theorem dX5_ofLayer_42 : decode cX5_ofLayer 42 = .ok (.getfield 68, 3) := by decide +kernel
theorem dX5_ofLayer_45 : decode cX5_ofLayer 45 = .ok (.getfield 283, 3) := by decide +kernel
theorem dX5_ofLayer_48 : decode cX5_ofLayer 48 = .ok (.iload_n 2, 1) := by decide +kernel
theorem dX5_ofLayer_49 : decode cX5_ofLayer 49 = .ok (.laload, 1) := by decide +kernel
theorem dX5_ofLayer_50 : decode cX5_ofLayer 50 = .ok (.lreturn, 1) := by decide +kernel
theorem dX5_ofLayer_51 : decode cX5_ofLayer 51 = .ok (.aload 4, 2) := by decide +kernel
theorem dX5_ofLayer_53 : decode cX5_ofLayer 53 = .ok (.getfield 68, 3) := by decide +kernel
theorem dX5_ofLayer_56 : decode cX5_ofLayer 56 = .ok (.getfield 287, 3) := by decide +kernel
theorem dX5_ofLayer_59 : decode cX5_ofLayer 59 = .ok (.iload_n 2, 1) := by decide +kernel
theorem dX5_ofLayer_60 : decode cX5_ofLayer 60 = .ok (.laload, 1) := by decide +kernel
theorem dX5_ofLayer_61 : decode cX5_ofLayer 61 = .ok (.lreturn, 1) := by decide +kernel
theorem dX5_ofLayer_62 : decode cX5_ofLayer 62 = .ok (.aload 4, 2) := by decide +kernel
theorem dX5_ofLayer_64 : decode cX5_ofLayer 64 = .ok (.getfield 68, 3) := by decide +kernel
theorem dX5_ofLayer_67 : decode cX5_ofLayer 67 = .ok (.getfield 290, 3) := by decide +kernel
theorem dX5_ofLayer_70 : decode cX5_ofLayer 70 = .ok (.iload_n 2, 1) := by decide +kernel
theorem dX5_ofLayer_71 : decode cX5_ofLayer 71 = .ok (.laload, 1) := by decide +kernel
theorem dX5_ofLayer_72 : decode cX5_ofLayer 72 = .ok (.lreturn, 1) := by decide +kernel
theorem dX5_ofLayer_73 : decode cX5_ofLayer 73 = .ok (.new 96, 3) := by decide +kernel
theorem dX5_ofLayer_76 : decode cX5_ofLayer 76 = .ok (.dup, 1) := by decide +kernel
theorem dX5_ofLayer_77 : decode cX5_ofLayer 77 = .ok (.ldc_w 293, 3) := by decide +kernel
theorem dX5_ofLayer_80 : decode cX5_ofLayer 80 = .ok (.invokespecial 100, 3) := by decide +kernel
theorem dX5_ofLayer_83 : decode cX5_ofLayer 83 = .ok (.athrow, 1) := by decide +kernel
theorem dX5_ofPowder_0 : decode cX5_ofPowder 0 = .ok (.aload_n 0, 1) := by decide +kernel
theorem dX5_ofPowder_1 : decode cX5_ofPowder 1 = .ok (.iload_n 1, 1) := by decide +kernel
theorem dX5_ofPowder_2 : decode cX5_ofPowder 2 = .ok (.invokevirtual 117, 3) := by decide +kernel
theorem dX5_ofPowder_5 : decode cX5_ofPowder 5 = .ok (.astore_n 3, 1) := by decide +kernel
theorem dX5_ofPowder_6 : decode cX5_ofPowder 6 = .ok (.iload_n 2, 1) := by decide +kernel
theorem dX5_ofPowder_7 : decode cX5_ofPowder 7 = .ok (.tableswitch 58 0 4 #[33, 38, 43, 48, 53], 33) := by decide +kernel
theorem dX5_ofPowder_40 : decode cX5_ofPowder 40 = .ok (.aload_n 3, 1) := by decide +kernel
theorem dX5_ofPowder_41 : decode cX5_ofPowder 41 = .ok (.getfield 108, 3) := by decide +kernel
theorem dX5_ofPowder_44 : decode cX5_ofPowder 44 = .ok (.ireturn, 1) := by decide +kernel
theorem dX5_ofPowder_45 : decode cX5_ofPowder 45 = .ok (.aload_n 3, 1) := by decide +kernel
theorem dX5_ofPowder_46 : decode cX5_ofPowder 46 = .ok (.getfield 111, 3) := by decide +kernel
theorem dX5_ofPowder_49 : decode cX5_ofPowder 49 = .ok (.ireturn, 1) := by decide +kernel
theorem dX5_ofPowder_50 : decode cX5_ofPowder 50 = .ok (.aload_n 3, 1) := by decide +kernel
theorem dX5_ofPowder_51 : decode cX5_ofPowder 51 = .ok (.getfield 151, 3) := by decide +kernel
theorem dX5_ofPowder_54 : decode cX5_ofPowder 54 = .ok (.ireturn, 1) := by decide +kernel
theorem dX5_ofPowder_55 : decode cX5_ofPowder 55 = .ok (.aload_n 3, 1) := by decide +kernel
theorem dX5_ofPowder_56 : decode cX5_ofPowder 56 = .ok (.getfield 295, 3) := by decide +kernel
theorem dX5_ofPowder_59 : decode cX5_ofPowder 59 = .ok (.ireturn, 1) := by decide +kernel
theorem dX5_ofPowder_60 : decode cX5_ofPowder 60 = .ok (.aload_n 3, 1) := by decide +kernel
theorem dX5_ofPowder_61 : decode cX5_ofPowder 61 = .ok (.getfield 125, 3) := by decide +kernel
theorem dX5_ofPowder_64 : decode cX5_ofPowder 64 = .ok (.ireturn, 1) := by decide +kernel
theorem dX5_ofPowder_65 : decode cX5_ofPowder 65 = .ok (.new 96, 3) := by decide +kernel
theorem dX5_ofPowder_68 : decode cX5_ofPowder 68 = .ok (.dup, 1) := by decide +kernel
theorem dX5_ofPowder_69 : decode cX5_ofPowder 69 = .ok (.ldc_w 296, 3) := by decide +kernel
theorem dX5_ofPowder_72 : decode cX5_ofPowder 72 = .ok (.invokespecial 100, 3) := by decide +kernel
theorem dX5_ofPowder_75 : decode cX5_ofPowder 75 = .ok (.athrow, 1) := by decide +kernel
theorem dX5_ofMachine_0 : decode cX5_ofMachine 0 = .ok (.aload_n 0, 1) := by decide +kernel
theorem dX5_ofMachine_1 : decode cX5_ofMachine 1 = .ok (.iload_n 1, 1) := by decide +kernel
theorem dX5_ofMachine_2 : decode cX5_ofMachine 2 = .ok (.invokevirtual 134, 3) := by decide +kernel
theorem dX5_ofMachine_5 : decode cX5_ofMachine 5 = .ok (.astore_n 3, 1) := by decide +kernel
theorem dX5_ofMachine_6 : decode cX5_ofMachine 6 = .ok (.iload_n 2, 1) := by decide +kernel
theorem dX5_ofMachine_7 : decode cX5_ofMachine 7 = .ok (.tableswitch 86 0 4 #[33, 38, 57, 62, 81], 33) := by decide +kernel
theorem dX5_ofMachine_40 : decode cX5_ofMachine 40 = .ok (.aload_n 3, 1) := by decide +kernel
theorem dX5_ofMachine_41 : decode cX5_ofMachine 41 = .ok (.getfield 148, 3) := by decide +kernel
theorem dX5_ofMachine_44 : decode cX5_ofMachine 44 = .ok (.ireturn, 1) := by decide +kernel
theorem dX5_ofMachine_45 : decode cX5_ofMachine 45 = .ok (.aload_n 3, 1) := by decide +kernel
theorem dX5_ofMachine_46 : decode cX5_ofMachine 46 = .ok (.getfield 138, 3) := by decide +kernel
theorem dX5_ofMachine_49 : decode cX5_ofMachine 49 = .ok (.ifnonnull 7, 3) := by decide +kernel
theorem dX5_ofMachine_52 : decode cX5_ofMachine 52 = .ok (.iconst (-1), 1) := by decide +kernel
theorem dX5_ofMachine_53 : decode cX5_ofMachine 53 = .ok (.goto 10, 3) := by decide +kernel
theorem dX5_ofMachine_56 : decode cX5_ofMachine 56 = .ok (.aload_n 3, 1) := by decide +kernel
theorem dX5_ofMachine_57 : decode cX5_ofMachine 57 = .ok (.getfield 138, 3) := by decide +kernel
theorem dX5_ofMachine_60 : decode cX5_ofMachine 60 = .ok (.getfield 114, 3) := by decide +kernel
theorem dX5_ofMachine_63 : decode cX5_ofMachine 63 = .ok (.ireturn, 1) := by decide +kernel
theorem dX5_ofMachine_64 : decode cX5_ofMachine 64 = .ok (.aload_n 3, 1) := by decide +kernel
theorem dX5_ofMachine_65 : decode cX5_ofMachine 65 = .ok (.getfield 157, 3) := by decide +kernel
theorem dX5_ofMachine_68 : decode cX5_ofMachine 68 = .ok (.ireturn, 1) := by decide +kernel
theorem dX5_ofMachine_69 : decode cX5_ofMachine 69 = .ok (.aload_n 3, 1) := by decide +kernel
theorem dX5_ofMachine_70 : decode cX5_ofMachine 70 = .ok (.getfield 162, 3) := by decide +kernel
theorem dX5_ofMachine_73 : decode cX5_ofMachine 73 = .ok (.ifnonnull 7, 3) := by decide +kernel
theorem dX5_ofMachine_76 : decode cX5_ofMachine 76 = .ok (.iconst (-1), 1) := by decide +kernel
theorem dX5_ofMachine_77 : decode cX5_ofMachine 77 = .ok (.goto 10, 3) := by decide +kernel
theorem dX5_ofMachine_80 : decode cX5_ofMachine 80 = .ok (.aload_n 3, 1) := by decide +kernel
theorem dX5_ofMachine_81 : decode cX5_ofMachine 81 = .ok (.getfield 162, 3) := by decide +kernel
theorem dX5_ofMachine_84 : decode cX5_ofMachine 84 = .ok (.getfield 298, 3) := by decide +kernel
theorem dX5_ofMachine_87 : decode cX5_ofMachine 87 = .ok (.ireturn, 1) := by decide +kernel
theorem dX5_ofMachine_88 : decode cX5_ofMachine 88 = .ok (.aload_n 3, 1) := by decide +kernel
theorem dX5_ofMachine_89 : decode cX5_ofMachine 89 = .ok (.getfield 174, 3) := by decide +kernel
theorem dX5_ofMachine_92 : decode cX5_ofMachine 92 = .ok (.ireturn, 1) := by decide +kernel
theorem dX5_ofMachine_93 : decode cX5_ofMachine 93 = .ok (.new 96, 3) := by decide +kernel
theorem dX5_ofMachine_96 : decode cX5_ofMachine 96 = .ok (.dup, 1) := by decide +kernel
theorem dX5_ofMachine_97 : decode cX5_ofMachine 97 = .ok (.ldc_w 296, 3) := by decide +kernel
theorem dX5_ofMachine_100 : decode cX5_ofMachine 100 = .ok (.invokespecial 100, 3) := by decide +kernel
theorem dX5_ofMachine_103 : decode cX5_ofMachine 103 = .ok (.athrow, 1) := by decide +kernel
theorem dX5_warm_0 : decode cX5_warm 0 = .ok (.aload_n 0, 1) := by decide +kernel
theorem dX5_warm_1 : decode cX5_warm 1 = .ok (.iload_n 1, 1) := by decide +kernel
theorem dX5_warm_2 : decode cX5_warm 2 = .ok (.invokevirtual 134, 3) := by decide +kernel
theorem dX5_warm_5 : decode cX5_warm 5 = .ok (.astore 4, 2) := by decide +kernel
theorem dX5_warm_7 : decode cX5_warm 7 = .ok (.iload_n 2, 1) := by decide +kernel
theorem dX5_warm_8 : decode cX5_warm 8 = .ok (.ifCond .lt 19, 3) := by decide +kernel
theorem dX5_warm_11 : decode cX5_warm 11 = .ok (.iload_n 2, 1) := by decide +kernel
theorem dX5_warm_12 : decode cX5_warm 12 = .ok (.bipush 8, 2) := by decide +kernel
theorem dX5_warm_14 : decode cX5_warm 14 = .ok (.if_icmp .ge 13, 3) := by decide +kernel
theorem dX5_warm_17 : decode cX5_warm 17 = .ok (.iload_n 3, 1) := by decide +kernel
theorem dX5_warm_18 : decode cX5_warm 18 = .ok (.ifCond .lt 9, 3) := by decide +kernel
theorem dX5_warm_21 : decode cX5_warm 21 = .ok (.iload_n 3, 1) := by decide +kernel
theorem dX5_warm_22 : decode cX5_warm 22 = .ok (.bipush 8, 2) := by decide +kernel
theorem dX5_warm_24 : decode cX5_warm 24 = .ok (.if_icmp .lt 14, 3) := by decide +kernel
theorem dX5_warm_27 : decode cX5_warm 27 = .ok (.new 299, 3) := by decide +kernel
theorem dX5_warm_30 : decode cX5_warm 30 = .ok (.dup, 1) := by decide +kernel
theorem dX5_warm_31 : decode cX5_warm 31 = .ok (.ldc_w 301, 3) := by decide +kernel
theorem dX5_warm_34 : decode cX5_warm 34 = .ok (.invokespecial 303, 3) := by decide +kernel
theorem dX5_warm_37 : decode cX5_warm 37 = .ok (.athrow, 1) := by decide +kernel
theorem dX5_warm_38 : decode cX5_warm 38 = .ok (.aload 4, 2) := by decide +kernel
theorem dX5_warm_40 : decode cX5_warm 40 = .ok (.getfield 162, 3) := by decide +kernel
theorem dX5_warm_43 : decode cX5_warm 43 = .ok (.ifnonnull 7, 3) := by decide +kernel
theorem dX5_warm_46 : decode cX5_warm 46 = .ok (.dconst 0, 1) := by decide +kernel
theorem dX5_warm_47 : decode cX5_warm 47 = .ok (.goto 21, 3) := by decide +kernel
theorem dX5_warm_50 : decode cX5_warm 50 = .ok (.aload 4, 2) := by decide +kernel
theorem dX5_warm_52 : decode cX5_warm 52 = .ok (.getfield 162, 3) := by decide +kernel
theorem dX5_warm_55 : decode cX5_warm 55 = .ok (.getfield 198, 3) := by decide +kernel
theorem dX5_warm_58 : decode cX5_warm 58 = .ok (.getfield 304, 3) := by decide +kernel
theorem dX5_warm_61 : decode cX5_warm 61 = .ok (.iload_n 2, 1) := by decide +kernel
theorem dX5_warm_62 : decode cX5_warm 62 = .ok (.bipush 8, 2) := by decide +kernel
theorem dX5_warm_64 : decode cX5_warm 64 = .ok (.iload_n 3, 1) := by decide +kernel
theorem dX5_warm_65 : decode cX5_warm 65 = .ok (.imul, 1) := by decide +kernel
theorem dX5_warm_66 : decode cX5_warm 66 = .ok (.iadd, 1) := by decide +kernel
theorem dX5_warm_67 : decode cX5_warm 67 = .ok (.daload, 1) := by decide +kernel
theorem dX5_warm_68 : decode cX5_warm 68 = .ok (.dreturn, 1) := by decide +kernel
theorem dX5_measure_0 : decode cX5_measure 0 = .ok (.aload_n 0, 1) := by decide +kernel
theorem dX5_measure_1 : decode cX5_measure 1 = .ok (.iload_n 1, 1) := by decide +kernel
theorem dX5_measure_2 : decode cX5_measure 2 = .ok (.invokevirtual 57, 3) := by decide +kernel
theorem dX5_measure_5 : decode cX5_measure 5 = .ok (.astore_n 3, 1) := by decide +kernel
theorem dX5_measure_6 : decode cX5_measure 6 = .ok (.iload_n 2, 1) := by decide +kernel
theorem dX5_measure_7 : decode cX5_measure 7 = .ok (.lookupswitch 35 #[(0, 25), (1, 30)], 25) := by decide +kernel
theorem dX5_measure_32 : decode cX5_measure 32 = .ok (.aload_n 3, 1) := by decide +kernel
theorem dX5_measure_33 : decode cX5_measure 33 = .ok (.invokevirtual 308, 3) := by decide +kernel
theorem dX5_measure_36 : decode cX5_measure 36 = .ok (.dreturn, 1) := by decide +kernel
theorem dX5_measure_37 : decode cX5_measure 37 = .ok (.aload_n 3, 1) := by decide +kernel
theorem dX5_measure_38 : decode cX5_measure 38 = .ok (.getfield 312, 3) := by decide +kernel
theorem dX5_measure_41 : decode cX5_measure 41 = .ok (.dreturn, 1) := by decide +kernel
theorem dX5_measure_42 : decode cX5_measure 42 = .ok (.new 96, 3) := by decide +kernel
theorem dX5_measure_45 : decode cX5_measure 45 = .ok (.dup, 1) := by decide +kernel
theorem dX5_measure_46 : decode cX5_measure 46 = .ok (.ldc_w 316, 3) := by decide +kernel
theorem dX5_measure_49 : decode cX5_measure 49 = .ok (.invokespecial 100, 3) := by decide +kernel
theorem dX5_measure_52 : decode cX5_measure 52 = .ok (.athrow, 1) := by decide +kernel
theorem dX5_recall_0 : decode cX5_recall 0 = .ok (.aload_n 0, 1) := by decide +kernel
theorem dX5_recall_1 : decode cX5_recall 1 = .ok (.iload_n 1, 1) := by decide +kernel
theorem dX5_recall_2 : decode cX5_recall 2 = .ok (.invokevirtual 117, 3) := by decide +kernel
theorem dX5_recall_5 : decode cX5_recall 5 = .ok (.astore_n 2, 1) := by decide +kernel
theorem dX5_recall_6 : decode cX5_recall 6 = .ok (.iconst 0, 1) := by decide +kernel
theorem dX5_recall_7 : decode cX5_recall 7 = .ok (.istore_n 3, 1) := by decide +kernel
theorem dX5_recall_8 : decode cX5_recall 8 = .ok (.iconst 0, 1) := by decide +kernel
theorem dX5_recall_9 : decode cX5_recall 9 = .ok (.istore 4, 2) := by decide +kernel
theorem dX5_recall_11 : decode cX5_recall 11 = .ok (.iload 4, 2) := by decide +kernel
theorem dX5_recall_13 : decode cX5_recall 13 = .ok (.aload_n 0, 1) := by decide +kernel
theorem dX5_recall_14 : decode cX5_recall 14 = .ok (.getfield 46, 3) := by decide +kernel
theorem dX5_recall_17 : decode cX5_recall 17 = .ok (.if_icmp .ge 49, 3) := by decide +kernel
theorem dX5_recall_20 : decode cX5_recall 20 = .ok (.aload_n 0, 1) := by decide +kernel
theorem dX5_recall_21 : decode cX5_recall 21 = .ok (.getfield 11, 3) := by decide +kernel
theorem dX5_recall_24 : decode cX5_recall 24 = .ok (.iload 4, 2) := by decide +kernel
theorem dX5_recall_26 : decode cX5_recall 26 = .ok (.aaload, 1) := by decide +kernel
theorem dX5_recall_27 : decode cX5_recall 27 = .ok (.getfield 239, 3) := by decide +kernel
theorem dX5_recall_30 : decode cX5_recall 30 = .ok (.ifnull 30, 3) := by decide +kernel
theorem dX5_recall_33 : decode cX5_recall 33 = .ok (.aload_n 0, 1) := by decide +kernel
theorem dX5_recall_34 : decode cX5_recall 34 = .ok (.getfield 11, 3) := by decide +kernel
theorem dX5_recall_37 : decode cX5_recall 37 = .ok (.iload 4, 2) := by decide +kernel
theorem dX5_recall_39 : decode cX5_recall 39 = .ok (.aaload, 1) := by decide +kernel
theorem dX5_recall_40 : decode cX5_recall 40 = .ok (.getfield 278, 3) := by decide +kernel
theorem dX5_recall_43 : decode cX5_recall 43 = .ok (.iconst 1, 1) := by decide +kernel
theorem dX5_recall_44 : decode cX5_recall 44 = .ok (.aload_n 2, 1) := by decide +kernel
theorem dX5_recall_45 : decode cX5_recall 45 = .ok (.getfield 114, 3) := by decide +kernel
theorem dX5_recall_48 : decode cX5_recall 48 = .ok (.ishl, 1) := by decide +kernel
theorem dX5_recall_49 : decode cX5_recall 49 = .ok (.iand, 1) := by decide +kernel
theorem dX5_recall_50 : decode cX5_recall 50 = .ok (.ifCond .eq 10, 3) := by decide +kernel
theorem dX5_recall_53 : decode cX5_recall 53 = .ok (.iload_n 3, 1) := by decide +kernel
theorem dX5_recall_54 : decode cX5_recall 54 = .ok (.iconst 1, 1) := by decide +kernel
theorem dX5_recall_55 : decode cX5_recall 55 = .ok (.iload 4, 2) := by decide +kernel
theorem dX5_recall_57 : decode cX5_recall 57 = .ok (.ishl, 1) := by decide +kernel
theorem dX5_recall_58 : decode cX5_recall 58 = .ok (.ior, 1) := by decide +kernel
theorem dX5_recall_59 : decode cX5_recall 59 = .ok (.istore_n 3, 1) := by decide +kernel
theorem dX5_recall_60 : decode cX5_recall 60 = .ok (.iinc 4 1, 3) := by decide +kernel
theorem dX5_recall_63 : decode cX5_recall 63 = .ok (.goto (-52), 3) := by decide +kernel
theorem dX5_recall_66 : decode cX5_recall 66 = .ok (.iload_n 3, 1) := by decide +kernel
theorem dX5_recall_67 : decode cX5_recall 67 = .ok (.ireturn, 1) := by decide +kernel
theorem dX5_many_0 : decode cX5_many 0 = .ok (.iload_n 1, 1) := by decide +kernel
theorem dX5_many_1 : decode cX5_many 1 = .ok (.tableswitch 90 0 7 #[47, 52, 57, 62, 68, 75, 80, 85], 47) := by decide +kernel
theorem dX5_many_48 : decode cX5_many 48 = .ok (.aload_n 0, 1) := by decide +kernel
theorem dX5_many_49 : decode cX5_many 49 = .ok (.getfield 46, 3) := by decide +kernel
theorem dX5_many_52 : decode cX5_many 52 = .ok (.ireturn, 1) := by decide +kernel
theorem dX5_many_53 : decode cX5_many 53 = .ok (.aload_n 0, 1) := by decide +kernel
theorem dX5_many_54 : decode cX5_many 54 = .ok (.getfield 103, 3) := by decide +kernel
theorem dX5_many_57 : decode cX5_many 57 = .ok (.ireturn, 1) := by decide +kernel
theorem dX5_many_58 : decode cX5_many 58 = .ok (.aload_n 0, 1) := by decide +kernel
theorem dX5_many_59 : decode cX5_many 59 = .ok (.invokevirtual 318, 3) := by decide +kernel
theorem dX5_many_62 : decode cX5_many 62 = .ok (.ireturn, 1) := by decide +kernel
theorem dX5_many_63 : decode cX5_many 63 = .ok (.aload_n 0, 1) := by decide +kernel
theorem dX5_many_64 : decode cX5_many 64 = .ok (.iconst 5, 1) := by decide +kernel
theorem dX5_many_65 : decode cX5_many 65 = .ok (.invokevirtual 321, 3) := by decide +kernel
theorem dX5_many_68 : decode cX5_many 68 = .ok (.ireturn, 1) := by decide +kernel
theorem dX5_many_69 : decode cX5_many 69 = .ok (.aload_n 0, 1) := by decide +kernel
theorem dX5_many_70 : decode cX5_many 70 = .ok (.bipush 6, 2) := by decide +kernel
theorem dX5_many_72 : decode cX5_many 72 = .ok (.invokevirtual 321, 3) := by decide +kernel
theorem dX5_many_75 : decode cX5_many 75 = .ok (.ireturn, 1) := by decide +kernel
theorem dX5_many_76 : decode cX5_many 76 = .ok (.aload_n 0, 1) := by decide +kernel
theorem dX5_many_77 : decode cX5_many 77 = .ok (.invokevirtual 324, 3) := by decide +kernel
theorem dX5_many_80 : decode cX5_many 80 = .ok (.ireturn, 1) := by decide +kernel
theorem dX5_many_81 : decode cX5_many 81 = .ok (.aload_n 0, 1) := by decide +kernel
theorem dX5_many_82 : decode cX5_many 82 = .ok (.getfield 224, 3) := by decide +kernel
theorem dX5_many_85 : decode cX5_many 85 = .ok (.ireturn, 1) := by decide +kernel
theorem dX5_many_86 : decode cX5_many 86 = .ok (.aload_n 0, 1) := by decide +kernel
theorem dX5_many_87 : decode cX5_many 87 = .ok (.getfield 217, 3) := by decide +kernel
theorem dX5_many_90 : decode cX5_many 90 = .ok (.ireturn, 1) := by decide +kernel
theorem dX5_many_91 : decode cX5_many 91 = .ok (.new 96, 3) := by decide +kernel
theorem dX5_many_94 : decode cX5_many 94 = .ok (.dup, 1) := by decide +kernel
theorem dX5_many_95 : decode cX5_many 95 = .ok (.ldc_w 327, 3) := by decide +kernel
theorem dX5_many_98 : decode cX5_many 98 = .ok (.invokespecial 100, 3) := by decide +kernel
theorem dX5_many_101 : decode cX5_many 101 = .ok (.athrow, 1) := by decide +kernel
theorem dX5_proofsOfAll_0 : decode cX5_proofsOfAll 0 = .ok (.iconst 0, 1) := by decide +kernel
theorem dX5_proofsOfAll_1 : decode cX5_proofsOfAll 1 = .ok (.istore_n 1, 1) := by decide +kernel
theorem dX5_proofsOfAll_2 : decode cX5_proofsOfAll 2 = .ok (.iconst 0, 1) := by decide +kernel
theorem dX5_proofsOfAll_3 : decode cX5_proofsOfAll 3 = .ok (.istore_n 2, 1) := by decide +kernel
theorem dX5_proofsOfAll_4 : decode cX5_proofsOfAll 4 = .ok (.iload_n 2, 1) := by decide +kernel
theorem dX5_proofsOfAll_5 : decode cX5_proofsOfAll 5 = .ok (.iconst 2, 1) := by decide +kernel
theorem dX5_proofsOfAll_6 : decode cX5_proofsOfAll 6 = .ok (.if_icmp .ge 21, 3) := by decide +kernel
theorem dX5_proofsOfAll_9 : decode cX5_proofsOfAll 9 = .ok (.iload_n 1, 1) := by decide +kernel
theorem dX5_proofsOfAll_10 : decode cX5_proofsOfAll 10 = .ok (.aload_n 0, 1) := by decide +kernel
theorem dX5_proofsOfAll_11 : decode cX5_proofsOfAll 11 = .ok (.getfield 23, 3) := by decide +kernel
theorem dX5_proofsOfAll_14 : decode cX5_proofsOfAll 14 = .ok (.iload_n 2, 1) := by decide +kernel
theorem dX5_proofsOfAll_15 : decode cX5_proofsOfAll 15 = .ok (.aaload, 1) := by decide +kernel
theorem dX5_proofsOfAll_16 : decode cX5_proofsOfAll 16 = .ok (.getfield 174, 3) := by decide +kernel
theorem dX5_proofsOfAll_19 : decode cX5_proofsOfAll 19 = .ok (.iadd, 1) := by decide +kernel
theorem dX5_proofsOfAll_20 : decode cX5_proofsOfAll 20 = .ok (.istore_n 1, 1) := by decide +kernel
theorem dX5_proofsOfAll_21 : decode cX5_proofsOfAll 21 = .ok (.iinc 2 1, 3) := by decide +kernel
theorem dX5_proofsOfAll_24 : decode cX5_proofsOfAll 24 = .ok (.goto (-20), 3) := by decide +kernel
theorem dX5_proofsOfAll_27 : decode cX5_proofsOfAll 27 = .ok (.iload_n 1, 1) := by decide +kernel
theorem dX5_proofsOfAll_28 : decode cX5_proofsOfAll 28 = .ok (.ireturn, 1) := by decide +kernel
theorem dX5_piecesThatAre_0 : decode cX5_piecesThatAre 0 = .ok (.iconst 0, 1) := by decide +kernel
theorem dX5_piecesThatAre_1 : decode cX5_piecesThatAre 1 = .ok (.istore_n 2, 1) := by decide +kernel
theorem dX5_piecesThatAre_2 : decode cX5_piecesThatAre 2 = .ok (.iconst 0, 1) := by decide +kernel
theorem dX5_piecesThatAre_3 : decode cX5_piecesThatAre 3 = .ok (.istore_n 3, 1) := by decide +kernel
theorem dX5_piecesThatAre_4 : decode cX5_piecesThatAre 4 = .ok (.iload_n 3, 1) := by decide +kernel
theorem dX5_piecesThatAre_5 : decode cX5_piecesThatAre 5 = .ok (.aload_n 0, 1) := by decide +kernel
theorem dX5_piecesThatAre_6 : decode cX5_piecesThatAre 6 = .ok (.getfield 46, 3) := by decide +kernel
theorem dX5_piecesThatAre_9 : decode cX5_piecesThatAre 9 = .ok (.if_icmp .ge 25, 3) := by decide +kernel
theorem dX5_piecesThatAre_12 : decode cX5_piecesThatAre 12 = .ok (.aload_n 0, 1) := by decide +kernel
theorem dX5_piecesThatAre_13 : decode cX5_piecesThatAre 13 = .ok (.getfield 11, 3) := by decide +kernel
theorem dX5_piecesThatAre_16 : decode cX5_piecesThatAre 16 = .ok (.iload_n 3, 1) := by decide +kernel
theorem dX5_piecesThatAre_17 : decode cX5_piecesThatAre 17 = .ok (.aaload, 1) := by decide +kernel
theorem dX5_piecesThatAre_18 : decode cX5_piecesThatAre 18 = .ok (.getfield 171, 3) := by decide +kernel
theorem dX5_piecesThatAre_21 : decode cX5_piecesThatAre 21 = .ok (.iload_n 1, 1) := by decide +kernel
theorem dX5_piecesThatAre_22 : decode cX5_piecesThatAre 22 = .ok (.if_icmp .ne 6, 3) := by decide +kernel
theorem dX5_piecesThatAre_25 : decode cX5_piecesThatAre 25 = .ok (.iinc 2 1, 3) := by decide +kernel
theorem dX5_piecesThatAre_28 : decode cX5_piecesThatAre 28 = .ok (.iinc 3 1, 3) := by decide +kernel
theorem dX5_piecesThatAre_31 : decode cX5_piecesThatAre 31 = .ok (.goto (-27), 3) := by decide +kernel
theorem dX5_piecesThatAre_34 : decode cX5_piecesThatAre 34 = .ok (.iload_n 2, 1) := by decide +kernel
theorem dX5_piecesThatAre_35 : decode cX5_piecesThatAre 35 = .ok (.ireturn, 1) := by decide +kernel
theorem dX5_gramsOfAll_0 : decode cX5_gramsOfAll 0 = .ok (.iconst 0, 1) := by decide +kernel
theorem dX5_gramsOfAll_1 : decode cX5_gramsOfAll 1 = .ok (.istore_n 1, 1) := by decide +kernel
theorem dX5_gramsOfAll_2 : decode cX5_gramsOfAll 2 = .ok (.iconst 0, 1) := by decide +kernel
theorem dX5_gramsOfAll_3 : decode cX5_gramsOfAll 3 = .ok (.istore_n 2, 1) := by decide +kernel
theorem dX5_gramsOfAll_4 : decode cX5_gramsOfAll 4 = .ok (.iload_n 2, 1) := by decide +kernel
theorem dX5_gramsOfAll_5 : decode cX5_gramsOfAll 5 = .ok (.aload_n 0, 1) := by decide +kernel
theorem dX5_gramsOfAll_6 : decode cX5_gramsOfAll 6 = .ok (.getfield 103, 3) := by decide +kernel
theorem dX5_gramsOfAll_9 : decode cX5_gramsOfAll 9 = .ok (.if_icmp .ge 21, 3) := by decide +kernel
theorem dX5_gramsOfAll_12 : decode cX5_gramsOfAll 12 = .ok (.iload_n 1, 1) := by decide +kernel
theorem dX5_gramsOfAll_13 : decode cX5_gramsOfAll 13 = .ok (.aload_n 0, 1) := by decide +kernel
theorem dX5_gramsOfAll_14 : decode cX5_gramsOfAll 14 = .ok (.getfield 17, 3) := by decide +kernel
theorem dX5_gramsOfAll_17 : decode cX5_gramsOfAll 17 = .ok (.iload_n 2, 1) := by decide +kernel
theorem dX5_gramsOfAll_18 : decode cX5_gramsOfAll 18 = .ok (.aaload, 1) := by decide +kernel
theorem dX5_gramsOfAll_19 : decode cX5_gramsOfAll 19 = .ok (.getfield 111, 3) := by decide +kernel
theorem dX5_gramsOfAll_22 : decode cX5_gramsOfAll 22 = .ok (.iadd, 1) := by decide +kernel
theorem dX5_gramsOfAll_23 : decode cX5_gramsOfAll 23 = .ok (.istore_n 1, 1) := by decide +kernel
theorem dX5_gramsOfAll_24 : decode cX5_gramsOfAll 24 = .ok (.iinc 2 1, 3) := by decide +kernel
theorem dX5_gramsOfAll_27 : decode cX5_gramsOfAll 27 = .ok (.goto (-23), 3) := by decide +kernel
theorem dX5_gramsOfAll_30 : decode cX5_gramsOfAll 30 = .ok (.iconst 0, 1) := by decide +kernel
theorem dX5_gramsOfAll_31 : decode cX5_gramsOfAll 31 = .ok (.istore_n 2, 1) := by decide +kernel
theorem dX5_gramsOfAll_32 : decode cX5_gramsOfAll 32 = .ok (.iload_n 2, 1) := by decide +kernel
theorem dX5_gramsOfAll_33 : decode cX5_gramsOfAll 33 = .ok (.iconst 2, 1) := by decide +kernel
theorem dX5_gramsOfAll_34 : decode cX5_gramsOfAll 34 = .ok (.if_icmp .ge 21, 3) := by decide +kernel
theorem dX5_gramsOfAll_37 : decode cX5_gramsOfAll 37 = .ok (.iload_n 1, 1) := by decide +kernel
theorem dX5_gramsOfAll_38 : decode cX5_gramsOfAll 38 = .ok (.aload_n 0, 1) := by decide +kernel
theorem dX5_gramsOfAll_39 : decode cX5_gramsOfAll 39 = .ok (.getfield 23, 3) := by decide +kernel
theorem dX5_gramsOfAll_42 : decode cX5_gramsOfAll 42 = .ok (.iload_n 2, 1) := by decide +kernel
theorem dX5_gramsOfAll_43 : decode cX5_gramsOfAll 43 = .ok (.aaload, 1) := by decide +kernel
theorem dX5_gramsOfAll_44 : decode cX5_gramsOfAll 44 = .ok (.getfield 157, 3) := by decide +kernel
theorem dX5_gramsOfAll_47 : decode cX5_gramsOfAll 47 = .ok (.iadd, 1) := by decide +kernel
theorem dX5_gramsOfAll_48 : decode cX5_gramsOfAll 48 = .ok (.istore_n 1, 1) := by decide +kernel
theorem dX5_gramsOfAll_49 : decode cX5_gramsOfAll 49 = .ok (.iinc 2 1, 3) := by decide +kernel
theorem dX5_gramsOfAll_52 : decode cX5_gramsOfAll 52 = .ok (.goto (-20), 3) := by decide +kernel
theorem dX5_gramsOfAll_55 : decode cX5_gramsOfAll 55 = .ok (.iload_n 1, 1) := by decide +kernel
theorem dX5_gramsOfAll_56 : decode cX5_gramsOfAll 56 = .ok (.ireturn, 1) := by decide +kernel
theorem dX5_wouldHold_0 : decode cX5_wouldHold 0 = .ok (.aload_n 0, 1) := by decide +kernel
theorem dX5_wouldHold_1 : decode cX5_wouldHold 1 = .ok (.iload_n 1, 1) := by decide +kernel
theorem dX5_wouldHold_2 : decode cX5_wouldHold 2 = .ok (.invokevirtual 57, 3) := by decide +kernel
theorem dX5_wouldHold_5 : decode cX5_wouldHold 5 = .ok (.astore_n 3, 1) := by decide +kernel
theorem dX5_wouldHold_6 : decode cX5_wouldHold 6 = .ok (.iload_n 2, 1) := by decide +kernel
theorem dX5_wouldHold_7 : decode cX5_wouldHold 7 = .ok (.invokestatic 81, 3) := by decide +kernel
theorem dX5_wouldHold_10 : decode cX5_wouldHold 10 = .ok (.aload_n 0, 1) := by decide +kernel
theorem dX5_wouldHold_11 : decode cX5_wouldHold 11 = .ok (.getfield 30, 3) := by decide +kernel
theorem dX5_wouldHold_14 : decode cX5_wouldHold 14 = .ok (.aload_n 3, 1) := by decide +kernel
theorem dX5_wouldHold_15 : decode cX5_wouldHold 15 = .ok (.getfield 68, 3) := by decide +kernel
theorem dX5_wouldHold_18 : decode cX5_wouldHold 18 = .ok (.iload_n 2, 1) := by decide +kernel
theorem dX5_wouldHold_19 : decode cX5_wouldHold 19 = .ok (.invokevirtual 84, 3) := by decide +kernel
theorem dX5_wouldHold_22 : decode cX5_wouldHold 22 = .ok (.aload_n 0, 1) := by decide +kernel
theorem dX5_wouldHold_23 : decode cX5_wouldHold 23 = .ok (.getfield 30, 3) := by decide +kernel
theorem dX5_wouldHold_26 : decode cX5_wouldHold 26 = .ok (.invokevirtual 264, 3) := by decide +kernel
theorem dX5_wouldHold_29 : decode cX5_wouldHold 29 = .ok (.ireturn, 1) := by decide +kernel
theorem dX5_bestWay_0 : decode cX5_bestWay 0 = .ok (.aload_n 0, 1) := by decide +kernel
theorem dX5_bestWay_1 : decode cX5_bestWay 1 = .ok (.iload_n 1, 1) := by decide +kernel
theorem dX5_bestWay_2 : decode cX5_bestWay 2 = .ok (.invokevirtual 57, 3) := by decide +kernel
theorem dX5_bestWay_5 : decode cX5_bestWay 5 = .ok (.astore_n 2, 1) := by decide +kernel
theorem dX5_bestWay_6 : decode cX5_bestWay 6 = .ok (.iconst 0, 1) := by decide +kernel
theorem dX5_bestWay_7 : decode cX5_bestWay 7 = .ok (.istore_n 3, 1) := by decide +kernel
theorem dX5_bestWay_8 : decode cX5_bestWay 8 = .ok (.iconst 0, 1) := by decide +kernel
theorem dX5_bestWay_9 : decode cX5_bestWay 9 = .ok (.istore 4, 2) := by decide +kernel
theorem dX5_bestWay_11 : decode cX5_bestWay 11 = .ok (.iconst 0, 1) := by decide +kernel
theorem dX5_bestWay_12 : decode cX5_bestWay 12 = .ok (.istore 5, 2) := by decide +kernel
theorem dX5_bestWay_14 : decode cX5_bestWay 14 = .ok (.iconst 0, 1) := by decide +kernel
theorem dX5_bestWay_15 : decode cX5_bestWay 15 = .ok (.istore 6, 2) := by decide +kernel
theorem dX5_bestWay_17 : decode cX5_bestWay 17 = .ok (.iload 6, 2) := by decide +kernel
theorem dX5_bestWay_19 : decode cX5_bestWay 19 = .ok (.bipush 6, 2) := by decide +kernel
theorem dX5_bestWay_21 : decode cX5_bestWay 21 = .ok (.if_icmp .ge 77, 3) := by decide +kernel
theorem dX5_bestWay_24 : decode cX5_bestWay 24 = .ok (.aload_n 0, 1) := by decide +kernel
theorem dX5_bestWay_25 : decode cX5_bestWay 25 = .ok (.getfield 30, 3) := by decide +kernel
theorem dX5_bestWay_28 : decode cX5_bestWay 28 = .ok (.aload_n 2, 1) := by decide +kernel
theorem dX5_bestWay_29 : decode cX5_bestWay 29 = .ok (.getfield 68, 3) := by decide +kernel
theorem dX5_bestWay_32 : decode cX5_bestWay 32 = .ok (.iload 6, 2) := by decide +kernel
theorem dX5_bestWay_34 : decode cX5_bestWay 34 = .ok (.invokevirtual 84, 3) := by decide +kernel
theorem dX5_bestWay_37 : decode cX5_bestWay 37 = .ok (.aload_n 0, 1) := by decide +kernel
theorem dX5_bestWay_38 : decode cX5_bestWay 38 = .ok (.getfield 30, 3) := by decide +kernel
theorem dX5_bestWay_41 : decode cX5_bestWay 41 = .ok (.invokevirtual 264, 3) := by decide +kernel
theorem dX5_bestWay_44 : decode cX5_bestWay 44 = .ok (.istore 7, 2) := by decide +kernel
theorem dX5_bestWay_46 : decode cX5_bestWay 46 = .ok (.aload_n 0, 1) := by decide +kernel
theorem dX5_bestWay_47 : decode cX5_bestWay 47 = .ok (.getfield 30, 3) := by decide +kernel
theorem dX5_bestWay_50 : decode cX5_bestWay 50 = .ok (.invokevirtual 92, 3) := by decide +kernel
theorem dX5_bestWay_53 : decode cX5_bestWay 53 = .ok (.istore 8, 2) := by decide +kernel
theorem dX5_bestWay_55 : decode cX5_bestWay 55 = .ok (.iload 6, 2) := by decide +kernel
theorem dX5_bestWay_57 : decode cX5_bestWay 57 = .ok (.ifCond .eq 24, 3) := by decide +kernel
theorem dX5_bestWay_60 : decode cX5_bestWay 60 = .ok (.iload 7, 2) := by decide +kernel
theorem dX5_bestWay_62 : decode cX5_bestWay 62 = .ok (.iload 4, 2) := by decide +kernel
theorem dX5_bestWay_64 : decode cX5_bestWay 64 = .ok (.if_icmp .lt 17, 3) := by decide +kernel
theorem dX5_bestWay_67 : decode cX5_bestWay 67 = .ok (.iload 7, 2) := by decide +kernel
theorem dX5_bestWay_69 : decode cX5_bestWay 69 = .ok (.iload 4, 2) := by decide +kernel
theorem dX5_bestWay_71 : decode cX5_bestWay 71 = .ok (.if_icmp .ne 21, 3) := by decide +kernel
theorem dX5_bestWay_74 : decode cX5_bestWay 74 = .ok (.iload 8, 2) := by decide +kernel
theorem dX5_bestWay_76 : decode cX5_bestWay 76 = .ok (.iload 5, 2) := by decide +kernel
theorem dX5_bestWay_78 : decode cX5_bestWay 78 = .ok (.if_icmp .ge 14, 3) := by decide +kernel
theorem dX5_bestWay_81 : decode cX5_bestWay 81 = .ok (.iload 6, 2) := by decide +kernel
theorem dX5_bestWay_83 : decode cX5_bestWay 83 = .ok (.istore_n 3, 1) := by decide +kernel
theorem dX5_bestWay_84 : decode cX5_bestWay 84 = .ok (.iload 7, 2) := by decide +kernel
theorem dX5_bestWay_86 : decode cX5_bestWay 86 = .ok (.istore 4, 2) := by decide +kernel
theorem dX5_bestWay_88 : decode cX5_bestWay 88 = .ok (.iload 8, 2) := by decide +kernel
theorem dX5_bestWay_90 : decode cX5_bestWay 90 = .ok (.istore 5, 2) := by decide +kernel
theorem dX5_bestWay_92 : decode cX5_bestWay 92 = .ok (.iinc 6 1, 3) := by decide +kernel
theorem dX5_bestWay_95 : decode cX5_bestWay 95 = .ok (.goto (-78), 3) := by decide +kernel
theorem dX5_bestWay_98 : decode cX5_bestWay 98 = .ok (.iload_n 3, 1) := by decide +kernel
theorem dX5_bestWay_99 : decode cX5_bestWay 99 = .ok (.ireturn, 1) := by decide +kernel
theorem dX5_bestSpeed_0 : decode cX5_bestSpeed 0 = .ok (.aload_n 0, 1) := by decide +kernel
theorem dX5_bestSpeed_1 : decode cX5_bestSpeed 1 = .ok (.iload_n 1, 1) := by decide +kernel
theorem dX5_bestSpeed_2 : decode cX5_bestSpeed 2 = .ok (.invokevirtual 57, 3) := by decide +kernel
theorem dX5_bestSpeed_5 : decode cX5_bestSpeed 5 = .ok (.astore_n 3, 1) := by decide +kernel
theorem dX5_bestSpeed_6 : decode cX5_bestSpeed 6 = .ok (.iload_n 2, 1) := by decide +kernel
theorem dX5_bestSpeed_7 : decode cX5_bestSpeed 7 = .ok (.invokestatic 177, 3) := by decide +kernel
theorem dX5_bestSpeed_10 : decode cX5_bestSpeed 10 = .ok (.iconst 1, 1) := by decide +kernel
theorem dX5_bestSpeed_11 : decode cX5_bestSpeed 11 = .ok (.istore 4, 2) := by decide +kernel
theorem dX5_bestSpeed_13 : decode cX5_bestSpeed 13 = .ok (.iconst 0, 1) := by decide +kernel
theorem dX5_bestSpeed_14 : decode cX5_bestSpeed 14 = .ok (.istore 5, 2) := by decide +kernel
theorem dX5_bestSpeed_16 : decode cX5_bestSpeed 16 = .ok (.iconst 1, 1) := by decide +kernel
theorem dX5_bestSpeed_17 : decode cX5_bestSpeed 17 = .ok (.istore 6, 2) := by decide +kernel
theorem dX5_bestSpeed_19 : decode cX5_bestSpeed 19 = .ok (.iload 6, 2) := by decide +kernel
theorem dX5_bestSpeed_21 : decode cX5_bestSpeed 21 = .ok (.bipush 20, 2) := by decide +kernel
theorem dX5_bestSpeed_23 : decode cX5_bestSpeed 23 = .ok (.if_icmp .gt 46, 3) := by decide +kernel
theorem dX5_bestSpeed_26 : decode cX5_bestSpeed 26 = .ok (.aload_n 0, 1) := by decide +kernel
theorem dX5_bestSpeed_27 : decode cX5_bestSpeed 27 = .ok (.aload_n 3, 1) := by decide +kernel
theorem dX5_bestSpeed_28 : decode cX5_bestSpeed 28 = .ok (.getfield 68, 3) := by decide +kernel
theorem dX5_bestSpeed_31 : decode cX5_bestSpeed 31 = .ok (.iload_n 2, 1) := by decide +kernel
theorem dX5_bestSpeed_32 : decode cX5_bestSpeed 32 = .ok (.iload 6, 2) := by decide +kernel
theorem dX5_bestSpeed_34 : decode cX5_bestSpeed 34 = .ok (.invokestatic 329, 3) := by decide +kernel
theorem dX5_bestSpeed_37 : decode cX5_bestSpeed 37 = .ok (.invokevirtual 333, 3) := by decide +kernel
theorem dX5_bestSpeed_40 : decode cX5_bestSpeed 40 = .ok (.istore 7, 2) := by decide +kernel
theorem dX5_bestSpeed_42 : decode cX5_bestSpeed 42 = .ok (.iload 6, 2) := by decide +kernel
theorem dX5_bestSpeed_44 : decode cX5_bestSpeed 44 = .ok (.iconst 1, 1) := by decide +kernel
theorem dX5_bestSpeed_45 : decode cX5_bestSpeed 45 = .ok (.if_icmp .eq 10, 3) := by decide +kernel
theorem dX5_bestSpeed_48 : decode cX5_bestSpeed 48 = .ok (.iload 7, 2) := by decide +kernel
theorem dX5_bestSpeed_50 : decode cX5_bestSpeed 50 = .ok (.iload 5, 2) := by decide +kernel
theorem dX5_bestSpeed_52 : decode cX5_bestSpeed 52 = .ok (.if_icmp .gt 11, 3) := by decide +kernel
theorem dX5_bestSpeed_55 : decode cX5_bestSpeed 55 = .ok (.iload 6, 2) := by decide +kernel
theorem dX5_bestSpeed_57 : decode cX5_bestSpeed 57 = .ok (.istore 4, 2) := by decide +kernel
theorem dX5_bestSpeed_59 : decode cX5_bestSpeed 59 = .ok (.iload 7, 2) := by decide +kernel
theorem dX5_bestSpeed_61 : decode cX5_bestSpeed 61 = .ok (.istore 5, 2) := by decide +kernel
theorem dX5_bestSpeed_63 : decode cX5_bestSpeed 63 = .ok (.iinc 6 1, 3) := by decide +kernel
theorem dX5_bestSpeed_66 : decode cX5_bestSpeed 66 = .ok (.goto (-47), 3) := by decide +kernel
theorem dX5_bestSpeed_69 : decode cX5_bestSpeed 69 = .ok (.iload 4, 2) := by decide +kernel
theorem dX5_bestSpeed_71 : decode cX5_bestSpeed 71 = .ok (.ireturn, 1) := by decide +kernel
theorem dX5_flawsAt_0 : decode cX5_flawsAt 0 = .ok (.aload_n 1, 1) := by decide +kernel
theorem dX5_flawsAt_1 : decode cX5_flawsAt 1 = .ok (.invokevirtual 92, 3) := by decide +kernel
theorem dX5_flawsAt_4 : decode cX5_flawsAt 4 = .ok (.istore 4, 2) := by decide +kernel
theorem dX5_flawsAt_6 : decode cX5_flawsAt 6 = .ok (.aload_n 0, 1) := by decide +kernel
theorem dX5_flawsAt_7 : decode cX5_flawsAt 7 = .ok (.getfield 37, 3) := by decide +kernel
theorem dX5_flawsAt_10 : decode cX5_flawsAt 10 = .ok (.invokevirtual 201, 3) := by decide +kernel
theorem dX5_flawsAt_13 : decode cX5_flawsAt 13 = .ok (.aload_n 0, 1) := by decide +kernel
theorem dX5_flawsAt_14 : decode cX5_flawsAt 14 = .ok (.getfield 37, 3) := by decide +kernel
theorem dX5_flawsAt_17 : decode cX5_flawsAt 17 = .ok (.iconst 0, 1) := by decide +kernel
theorem dX5_flawsAt_18 : decode cX5_flawsAt 18 = .ok (.putfield 229, 3) := by decide +kernel
theorem dX5_flawsAt_21 : decode cX5_flawsAt 21 = .ok (.aload_n 0, 1) := by decide +kernel
theorem dX5_flawsAt_22 : decode cX5_flawsAt 22 = .ok (.getfield 37, 3) := by decide +kernel
theorem dX5_flawsAt_25 : decode cX5_flawsAt 25 = .ok (.iconst 0, 1) := by decide +kernel
theorem dX5_flawsAt_26 : decode cX5_flawsAt 26 = .ok (.putfield 267, 3) := by decide +kernel
theorem dX5_flawsAt_29 : decode cX5_flawsAt 29 = .ok (.iconst 0, 1) := by decide +kernel
theorem dX5_flawsAt_30 : decode cX5_flawsAt 30 = .ok (.istore 5, 2) := by decide +kernel
theorem dX5_flawsAt_32 : decode cX5_flawsAt 32 = .ok (.iload 5, 2) := by decide +kernel
theorem dX5_flawsAt_34 : decode cX5_flawsAt 34 = .ok (.iload 4, 2) := by decide +kernel
theorem dX5_flawsAt_36 : decode cX5_flawsAt 36 = .ok (.if_icmp .ge 31, 3) := by decide +kernel
theorem dX5_flawsAt_39 : decode cX5_flawsAt 39 = .ok (.aload_n 0, 1) := by decide +kernel
theorem dX5_flawsAt_40 : decode cX5_flawsAt 40 = .ok (.getfield 37, 3) := by decide +kernel
theorem dX5_flawsAt_43 : decode cX5_flawsAt 43 = .ok (.aload_n 1, 1) := by decide +kernel
theorem dX5_flawsAt_44 : decode cX5_flawsAt 44 = .ok (.getfield 283, 3) := by decide +kernel
theorem dX5_flawsAt_47 : decode cX5_flawsAt 47 = .ok (.iload 5, 2) := by decide +kernel
theorem dX5_flawsAt_49 : decode cX5_flawsAt 49 = .ok (.laload, 1) := by decide +kernel
theorem dX5_flawsAt_50 : decode cX5_flawsAt 50 = .ok (.aload_n 1, 1) := by decide +kernel
theorem dX5_flawsAt_51 : decode cX5_flawsAt 51 = .ok (.getfield 287, 3) := by decide +kernel
theorem dX5_flawsAt_54 : decode cX5_flawsAt 54 = .ok (.iload 5, 2) := by decide +kernel
theorem dX5_flawsAt_56 : decode cX5_flawsAt 56 = .ok (.laload, 1) := by decide +kernel
theorem dX5_flawsAt_57 : decode cX5_flawsAt 57 = .ok (.dload_n 2, 1) := by decide +kernel
theorem dX5_flawsAt_58 : decode cX5_flawsAt 58 = .ok (.invokevirtual 337, 3) := by decide +kernel
theorem dX5_flawsAt_61 : decode cX5_flawsAt 61 = .ok (.iinc 5 1, 3) := by decide +kernel
theorem dX5_flawsAt_64 : decode cX5_flawsAt 64 = .ok (.goto (-32), 3) := by decide +kernel
theorem dX5_flawsAt_67 : decode cX5_flawsAt 67 = .ok (.aload_n 0, 1) := by decide +kernel
theorem dX5_flawsAt_68 : decode cX5_flawsAt 68 = .ok (.getfield 37, 3) := by decide +kernel
theorem dX5_flawsAt_71 : decode cX5_flawsAt 71 = .ok (.getfield 229, 3) := by decide +kernel
theorem dX5_flawsAt_74 : decode cX5_flawsAt 74 = .ok (.aload_n 0, 1) := by decide +kernel
theorem dX5_flawsAt_75 : decode cX5_flawsAt 75 = .ok (.getfield 37, 3) := by decide +kernel
theorem dX5_flawsAt_78 : decode cX5_flawsAt 78 = .ok (.getfield 267, 3) := by decide +kernel
theorem dX5_flawsAt_81 : decode cX5_flawsAt 81 = .ok (.iadd, 1) := by decide +kernel
theorem dX5_flawsAt_82 : decode cX5_flawsAt 82 = .ok (.ireturn, 1) := by decide +kernel
theorem dX5_digest_0 : decode cX5_digest 0 = .ok (.ldc2_w 341, 3) := by decide +kernel
theorem dX5_digest_3 : decode cX5_digest 3 = .ok (.lstore_n 1, 1) := by decide +kernel
theorem dX5_digest_4 : decode cX5_digest 4 = .ok (.iconst 0, 1) := by decide +kernel
theorem dX5_digest_5 : decode cX5_digest 5 = .ok (.istore_n 3, 1) := by decide +kernel
theorem dX5_digest_6 : decode cX5_digest 6 = .ok (.iload_n 3, 1) := by decide +kernel
theorem dX5_digest_7 : decode cX5_digest 7 = .ok (.bipush 8, 2) := by decide +kernel
theorem dX5_digest_9 : decode cX5_digest 9 = .ok (.if_icmp .ge 22, 3) := by decide +kernel
theorem dX5_digest_12 : decode cX5_digest 12 = .ok (.lload_n 1, 1) := by decide +kernel
theorem dX5_digest_13 : decode cX5_digest 13 = .ok (.ldc2_w 343, 3) := by decide +kernel
theorem dX5_digest_16 : decode cX5_digest 16 = .ok (.lmul, 1) := by decide +kernel
theorem dX5_digest_17 : decode cX5_digest 17 = .ok (.aload_n 0, 1) := by decide +kernel
theorem dX5_digest_18 : decode cX5_digest 18 = .ok (.iload_n 3, 1) := by decide +kernel
theorem dX5_digest_19 : decode cX5_digest 19 = .ok (.invokevirtual 345, 3) := by decide +kernel
theorem dX5_digest_22 : decode cX5_digest 22 = .ok (.i2l, 1) := by decide +kernel
theorem dX5_digest_23 : decode cX5_digest 23 = .ok (.ladd, 1) := by decide +kernel
theorem dX5_digest_24 : decode cX5_digest 24 = .ok (.lstore_n 1, 1) := by decide +kernel
theorem dX5_digest_25 : decode cX5_digest 25 = .ok (.iinc 3 1, 3) := by decide +kernel
theorem dX5_digest_28 : decode cX5_digest 28 = .ok (.goto (-22), 3) := by decide +kernel
theorem dX5_digest_31 : decode cX5_digest 31 = .ok (.iconst 0, 1) := by decide +kernel
theorem dX5_digest_32 : decode cX5_digest 32 = .ok (.istore_n 3, 1) := by decide +kernel
theorem dX5_digest_33 : decode cX5_digest 33 = .ok (.iload_n 3, 1) := by decide +kernel
theorem dX5_digest_34 : decode cX5_digest 34 = .ok (.aload_n 0, 1) := by decide +kernel
theorem dX5_digest_35 : decode cX5_digest 35 = .ok (.getfield 46, 3) := by decide +kernel
theorem dX5_digest_38 : decode cX5_digest 38 = .ok (.if_icmp .ge 16, 3) := by decide +kernel
theorem dX5_digest_41 : decode cX5_digest 41 = .ok (.aload_n 0, 1) := by decide +kernel
theorem dX5_digest_42 : decode cX5_digest 42 = .ok (.lload_n 1, 1) := by decide +kernel
theorem dX5_digest_43 : decode cX5_digest 43 = .ok (.iload_n 3, 1) := by decide +kernel
theorem dX5_digest_44 : decode cX5_digest 44 = .ok (.invokevirtual 348, 3) := by decide +kernel
theorem dX5_digest_47 : decode cX5_digest 47 = .ok (.lstore_n 1, 1) := by decide +kernel
theorem dX5_digest_48 : decode cX5_digest 48 = .ok (.iinc 3 1, 3) := by decide +kernel
theorem dX5_digest_51 : decode cX5_digest 51 = .ok (.goto (-18), 3) := by decide +kernel
theorem dX5_digest_54 : decode cX5_digest 54 = .ok (.iconst 0, 1) := by decide +kernel
theorem dX5_digest_55 : decode cX5_digest 55 = .ok (.istore_n 3, 1) := by decide +kernel
theorem dX5_digest_56 : decode cX5_digest 56 = .ok (.iload_n 3, 1) := by decide +kernel
theorem dX5_digest_57 : decode cX5_digest 57 = .ok (.aload_n 0, 1) := by decide +kernel
theorem dX5_digest_58 : decode cX5_digest 58 = .ok (.getfield 103, 3) := by decide +kernel
theorem dX5_digest_61 : decode cX5_digest 61 = .ok (.if_icmp .ge 52, 3) := by decide +kernel
theorem dX5_digest_64 : decode cX5_digest 64 = .ok (.iconst 0, 1) := by decide +kernel
theorem dX5_digest_65 : decode cX5_digest 65 = .ok (.istore 4, 2) := by decide +kernel
theorem dX5_digest_67 : decode cX5_digest 67 = .ok (.iload 4, 2) := by decide +kernel
theorem dX5_digest_69 : decode cX5_digest 69 = .ok (.iconst 5, 1) := by decide +kernel
theorem dX5_digest_70 : decode cX5_digest 70 = .ok (.if_icmp .ge 24, 3) := by decide +kernel
theorem dX5_digest_73 : decode cX5_digest 73 = .ok (.lload_n 1, 1) := by decide +kernel
theorem dX5_digest_74 : decode cX5_digest 74 = .ok (.ldc2_w 343, 3) := by decide +kernel
theorem dX5_digest_77 : decode cX5_digest 77 = .ok (.lmul, 1) := by decide +kernel
theorem dX5_digest_78 : decode cX5_digest 78 = .ok (.aload_n 0, 1) := by decide +kernel
theorem dX5_digest_79 : decode cX5_digest 79 = .ok (.iload_n 3, 1) := by decide +kernel
theorem dX5_digest_80 : decode cX5_digest 80 = .ok (.iload 4, 2) := by decide +kernel
theorem dX5_digest_82 : decode cX5_digest 82 = .ok (.invokevirtual 352, 3) := by decide +kernel
theorem dX5_digest_85 : decode cX5_digest 85 = .ok (.i2l, 1) := by decide +kernel
theorem dX5_digest_86 : decode cX5_digest 86 = .ok (.ladd, 1) := by decide +kernel
theorem dX5_digest_87 : decode cX5_digest 87 = .ok (.lstore_n 1, 1) := by decide +kernel
theorem dX5_digest_88 : decode cX5_digest 88 = .ok (.iinc 4 1, 3) := by decide +kernel
theorem dX5_digest_91 : decode cX5_digest 91 = .ok (.goto (-24), 3) := by decide +kernel
theorem dX5_digest_94 : decode cX5_digest 94 = .ok (.lload_n 1, 1) := by decide +kernel
theorem dX5_digest_95 : decode cX5_digest 95 = .ok (.ldc2_w 343, 3) := by decide +kernel
theorem dX5_digest_98 : decode cX5_digest 98 = .ok (.lmul, 1) := by decide +kernel
theorem dX5_digest_99 : decode cX5_digest 99 = .ok (.aload_n 0, 1) := by decide +kernel
theorem dX5_digest_100 : decode cX5_digest 100 = .ok (.iload_n 3, 1) := by decide +kernel
theorem dX5_digest_101 : decode cX5_digest 101 = .ok (.invokevirtual 356, 3) := by decide +kernel
theorem dX5_digest_104 : decode cX5_digest 104 = .ok (.i2l, 1) := by decide +kernel
theorem dX5_digest_105 : decode cX5_digest 105 = .ok (.ladd, 1) := by decide +kernel
theorem dX5_digest_106 : decode cX5_digest 106 = .ok (.lstore_n 1, 1) := by decide +kernel
theorem dX5_digest_107 : decode cX5_digest 107 = .ok (.iinc 3 1, 3) := by decide +kernel
theorem dX5_digest_110 : decode cX5_digest 110 = .ok (.goto (-54), 3) := by decide +kernel
theorem dX5_digest_113 : decode cX5_digest 113 = .ok (.iconst 0, 1) := by decide +kernel
theorem dX5_digest_114 : decode cX5_digest 114 = .ok (.istore_n 3, 1) := by decide +kernel
theorem dX5_digest_115 : decode cX5_digest 115 = .ok (.iload_n 3, 1) := by decide +kernel
theorem dX5_digest_116 : decode cX5_digest 116 = .ok (.iconst 2, 1) := by decide +kernel
theorem dX5_digest_117 : decode cX5_digest 117 = .ok (.if_icmp .ge 39, 3) := by decide +kernel
theorem dX5_digest_120 : decode cX5_digest 120 = .ok (.iconst 0, 1) := by decide +kernel
theorem dX5_digest_121 : decode cX5_digest 121 = .ok (.istore 4, 2) := by decide +kernel
theorem dX5_digest_123 : decode cX5_digest 123 = .ok (.iload 4, 2) := by decide +kernel
theorem dX5_digest_125 : decode cX5_digest 125 = .ok (.iconst 5, 1) := by decide +kernel
theorem dX5_digest_126 : decode cX5_digest 126 = .ok (.if_icmp .ge 24, 3) := by decide +kernel
theorem dX5_digest_129 : decode cX5_digest 129 = .ok (.lload_n 1, 1) := by decide +kernel
theorem dX5_digest_130 : decode cX5_digest 130 = .ok (.ldc2_w 343, 3) := by decide +kernel
theorem dX5_digest_133 : decode cX5_digest 133 = .ok (.lmul, 1) := by decide +kernel
theorem dX5_digest_134 : decode cX5_digest 134 = .ok (.aload_n 0, 1) := by decide +kernel
theorem dX5_digest_135 : decode cX5_digest 135 = .ok (.iload_n 3, 1) := by decide +kernel
theorem dX5_digest_136 : decode cX5_digest 136 = .ok (.iload 4, 2) := by decide +kernel
theorem dX5_digest_138 : decode cX5_digest 138 = .ok (.invokevirtual 359, 3) := by decide +kernel
theorem dX5_digest_141 : decode cX5_digest 141 = .ok (.i2l, 1) := by decide +kernel
theorem dX5_digest_142 : decode cX5_digest 142 = .ok (.ladd, 1) := by decide +kernel
theorem dX5_digest_143 : decode cX5_digest 143 = .ok (.lstore_n 1, 1) := by decide +kernel
theorem dX5_digest_144 : decode cX5_digest 144 = .ok (.iinc 4 1, 3) := by decide +kernel
theorem dX5_digest_147 : decode cX5_digest 147 = .ok (.goto (-24), 3) := by decide +kernel
theorem dX5_digest_150 : decode cX5_digest 150 = .ok (.iinc 3 1, 3) := by decide +kernel
theorem dX5_digest_153 : decode cX5_digest 153 = .ok (.goto (-38), 3) := by decide +kernel
theorem dX5_digest_156 : decode cX5_digest 156 = .ok (.lload_n 1, 1) := by decide +kernel
theorem dX5_digest_157 : decode cX5_digest 157 = .ok (.lreturn, 1) := by decide +kernel
theorem dX5_digestPiece_0 : decode cX5_digestPiece 0 = .ok (.lload_n 1, 1) := by decide +kernel
theorem dX5_digestPiece_1 : decode cX5_digestPiece 1 = .ok (.lstore 4, 2) := by decide +kernel
theorem dX5_digestPiece_3 : decode cX5_digestPiece 3 = .ok (.iconst 0, 1) := by decide +kernel
theorem dX5_digestPiece_4 : decode cX5_digestPiece 4 = .ok (.istore 6, 2) := by decide +kernel
theorem dX5_digestPiece_6 : decode cX5_digestPiece 6 = .ok (.iload 6, 2) := by decide +kernel
theorem dX5_digestPiece_8 : decode cX5_digestPiece 8 = .ok (.bipush 15, 2) := by decide +kernel
theorem dX5_digestPiece_10 : decode cX5_digestPiece 10 = .ok (.if_icmp .ge 26, 3) := by decide +kernel
theorem dX5_digestPiece_13 : decode cX5_digestPiece 13 = .ok (.lload 4, 2) := by decide +kernel
theorem dX5_digestPiece_15 : decode cX5_digestPiece 15 = .ok (.ldc2_w 343, 3) := by decide +kernel
theorem dX5_digestPiece_18 : decode cX5_digestPiece 18 = .ok (.lmul, 1) := by decide +kernel
theorem dX5_digestPiece_19 : decode cX5_digestPiece 19 = .ok (.aload_n 0, 1) := by decide +kernel
theorem dX5_digestPiece_20 : decode cX5_digestPiece 20 = .ok (.iload_n 3, 1) := by decide +kernel
theorem dX5_digestPiece_21 : decode cX5_digestPiece 21 = .ok (.iload 6, 2) := by decide +kernel
theorem dX5_digestPiece_23 : decode cX5_digestPiece 23 = .ok (.invokevirtual 362, 3) := by decide +kernel
theorem dX5_digestPiece_26 : decode cX5_digestPiece 26 = .ok (.i2l, 1) := by decide +kernel
theorem dX5_digestPiece_27 : decode cX5_digestPiece 27 = .ok (.ladd, 1) := by decide +kernel
theorem dX5_digestPiece_28 : decode cX5_digestPiece 28 = .ok (.lstore 4, 2) := by decide +kernel
theorem dX5_digestPiece_30 : decode cX5_digestPiece 30 = .ok (.iinc 6 1, 3) := by decide +kernel
theorem dX5_digestPiece_33 : decode cX5_digestPiece 33 = .ok (.goto (-27), 3) := by decide +kernel
theorem dX5_digestPiece_36 : decode cX5_digestPiece 36 = .ok (.lload 4, 2) := by decide +kernel
theorem dX5_digestPiece_38 : decode cX5_digestPiece 38 = .ok (.ldc2_w 343, 3) := by decide +kernel
theorem dX5_digestPiece_41 : decode cX5_digestPiece 41 = .ok (.lmul, 1) := by decide +kernel
theorem dX5_digestPiece_42 : decode cX5_digestPiece 42 = .ok (.aload_n 0, 1) := by decide +kernel
theorem dX5_digestPiece_43 : decode cX5_digestPiece 43 = .ok (.iload_n 3, 1) := by decide +kernel
theorem dX5_digestPiece_44 : decode cX5_digestPiece 44 = .ok (.iconst 1, 1) := by decide +kernel
theorem dX5_digestPiece_45 : decode cX5_digestPiece 45 = .ok (.invokevirtual 365, 3) := by decide +kernel
theorem dX5_digestPiece_48 : decode cX5_digestPiece 48 = .ok (.ldc2_w 368, 3) := by decide +kernel
theorem dX5_digestPiece_51 : decode cX5_digestPiece 51 = .ok (.dmul, 1) := by decide +kernel
theorem dX5_digestPiece_52 : decode cX5_digestPiece 52 = .ok (.d2l, 1) := by decide +kernel
theorem dX5_digestPiece_53 : decode cX5_digestPiece 53 = .ok (.ladd, 1) := by decide +kernel
theorem dX5_digestPiece_54 : decode cX5_digestPiece 54 = .ok (.lstore 4, 2) := by decide +kernel
theorem dX5_digestPiece_56 : decode cX5_digestPiece 56 = .ok (.lload 4, 2) := by decide +kernel
theorem dX5_digestPiece_58 : decode cX5_digestPiece 58 = .ok (.ldc2_w 343, 3) := by decide +kernel
theorem dX5_digestPiece_61 : decode cX5_digestPiece 61 = .ok (.lmul, 1) := by decide +kernel
theorem dX5_digestPiece_62 : decode cX5_digestPiece 62 = .ok (.aload_n 0, 1) := by decide +kernel
theorem dX5_digestPiece_63 : decode cX5_digestPiece 63 = .ok (.iload_n 3, 1) := by decide +kernel
theorem dX5_digestPiece_64 : decode cX5_digestPiece 64 = .ok (.invokevirtual 370, 3) := by decide +kernel
theorem dX5_digestPiece_67 : decode cX5_digestPiece 67 = .ok (.i2l, 1) := by decide +kernel
theorem dX5_digestPiece_68 : decode cX5_digestPiece 68 = .ok (.ladd, 1) := by decide +kernel
theorem dX5_digestPiece_69 : decode cX5_digestPiece 69 = .ok (.lstore 4, 2) := by decide +kernel
theorem dX5_digestPiece_71 : decode cX5_digestPiece 71 = .ok (.lload 4, 2) := by decide +kernel
theorem dX5_digestPiece_73 : decode cX5_digestPiece 73 = .ok (.ldc2_w 343, 3) := by decide +kernel
theorem dX5_digestPiece_76 : decode cX5_digestPiece 76 = .ok (.lmul, 1) := by decide +kernel
theorem dX5_digestPiece_77 : decode cX5_digestPiece 77 = .ok (.aload_n 0, 1) := by decide +kernel
theorem dX5_digestPiece_78 : decode cX5_digestPiece 78 = .ok (.iload_n 3, 1) := by decide +kernel
theorem dX5_digestPiece_79 : decode cX5_digestPiece 79 = .ok (.sipush 200, 3) := by decide +kernel
theorem dX5_digestPiece_82 : decode cX5_digestPiece 82 = .ok (.invokevirtual 373, 3) := by decide +kernel
theorem dX5_digestPiece_85 : decode cX5_digestPiece 85 = .ok (.i2l, 1) := by decide +kernel
theorem dX5_digestPiece_86 : decode cX5_digestPiece 86 = .ok (.ladd, 1) := by decide +kernel
theorem dX5_digestPiece_87 : decode cX5_digestPiece 87 = .ok (.lstore 4, 2) := by decide +kernel
theorem dX5_digestPiece_89 : decode cX5_digestPiece 89 = .ok (.iconst 0, 1) := by decide +kernel
theorem dX5_digestPiece_90 : decode cX5_digestPiece 90 = .ok (.istore 6, 2) := by decide +kernel
theorem dX5_digestPiece_92 : decode cX5_digestPiece 92 = .ok (.iload 6, 2) := by decide +kernel
theorem dX5_digestPiece_94 : decode cX5_digestPiece 94 = .ok (.bipush 8, 2) := by decide +kernel
theorem dX5_digestPiece_96 : decode cX5_digestPiece 96 = .ok (.if_icmp .ge 42, 3) := by decide +kernel
theorem dX5_digestPiece_99 : decode cX5_digestPiece 99 = .ok (.iconst 0, 1) := by decide +kernel
theorem dX5_digestPiece_100 : decode cX5_digestPiece 100 = .ok (.istore 7, 2) := by decide +kernel
theorem dX5_digestPiece_102 : decode cX5_digestPiece 102 = .ok (.iload 7, 2) := by decide +kernel
theorem dX5_digestPiece_104 : decode cX5_digestPiece 104 = .ok (.iconst 3, 1) := by decide +kernel
theorem dX5_digestPiece_105 : decode cX5_digestPiece 105 = .ok (.if_icmp .ge 27, 3) := by decide +kernel
theorem dX5_digestPiece_108 : decode cX5_digestPiece 108 = .ok (.lload 4, 2) := by decide +kernel
theorem dX5_digestPiece_110 : decode cX5_digestPiece 110 = .ok (.ldc2_w 343, 3) := by decide +kernel
theorem dX5_digestPiece_113 : decode cX5_digestPiece 113 = .ok (.lmul, 1) := by decide +kernel
theorem dX5_digestPiece_114 : decode cX5_digestPiece 114 = .ok (.aload_n 0, 1) := by decide +kernel
theorem dX5_digestPiece_115 : decode cX5_digestPiece 115 = .ok (.iload_n 3, 1) := by decide +kernel
theorem dX5_digestPiece_116 : decode cX5_digestPiece 116 = .ok (.iload 6, 2) := by decide +kernel
theorem dX5_digestPiece_118 : decode cX5_digestPiece 118 = .ok (.iload 7, 2) := by decide +kernel
theorem dX5_digestPiece_120 : decode cX5_digestPiece 120 = .ok (.invokevirtual 376, 3) := by decide +kernel
theorem dX5_digestPiece_123 : decode cX5_digestPiece 123 = .ok (.ladd, 1) := by decide +kernel
theorem dX5_digestPiece_124 : decode cX5_digestPiece 124 = .ok (.lstore 4, 2) := by decide +kernel
theorem dX5_digestPiece_126 : decode cX5_digestPiece 126 = .ok (.iinc 7 1, 3) := by decide +kernel
theorem dX5_digestPiece_129 : decode cX5_digestPiece 129 = .ok (.goto (-27), 3) := by decide +kernel
theorem dX5_digestPiece_132 : decode cX5_digestPiece 132 = .ok (.iinc 6 1, 3) := by decide +kernel
theorem dX5_digestPiece_135 : decode cX5_digestPiece 135 = .ok (.goto (-43), 3) := by decide +kernel
theorem dX5_digestPiece_138 : decode cX5_digestPiece 138 = .ok (.lload 4, 2) := by decide +kernel
theorem dX5_digestPiece_140 : decode cX5_digestPiece 140 = .ok (.lreturn, 1) := by decide +kernel
theorem dX5_pieceAt_0 : decode cX5_pieceAt 0 = .ok (.iload_n 1, 1) := by decide +kernel
theorem dX5_pieceAt_1 : decode cX5_pieceAt 1 = .ok (.ifCond .lt 11, 3) := by decide +kernel
theorem dX5_pieceAt_4 : decode cX5_pieceAt 4 = .ok (.iload_n 1, 1) := by decide +kernel
theorem dX5_pieceAt_5 : decode cX5_pieceAt 5 = .ok (.aload_n 0, 1) := by decide +kernel
theorem dX5_pieceAt_6 : decode cX5_pieceAt 6 = .ok (.getfield 46, 3) := by decide +kernel
theorem dX5_pieceAt_9 : decode cX5_pieceAt 9 = .ok (.if_icmp .lt 14, 3) := by decide +kernel
theorem dX5_pieceAt_12 : decode cX5_pieceAt 12 = .ok (.new 299, 3) := by decide +kernel
theorem dX5_pieceAt_15 : decode cX5_pieceAt 15 = .ok (.dup, 1) := by decide +kernel
theorem dX5_pieceAt_16 : decode cX5_pieceAt 16 = .ok (.ldc_w 380, 3) := by decide +kernel
theorem dX5_pieceAt_19 : decode cX5_pieceAt 19 = .ok (.invokespecial 303, 3) := by decide +kernel
theorem dX5_pieceAt_22 : decode cX5_pieceAt 22 = .ok (.athrow, 1) := by decide +kernel
theorem dX5_pieceAt_23 : decode cX5_pieceAt 23 = .ok (.aload_n 0, 1) := by decide +kernel
theorem dX5_pieceAt_24 : decode cX5_pieceAt 24 = .ok (.getfield 11, 3) := by decide +kernel
theorem dX5_pieceAt_27 : decode cX5_pieceAt 27 = .ok (.iload_n 1, 1) := by decide +kernel
theorem dX5_pieceAt_28 : decode cX5_pieceAt 28 = .ok (.aaload, 1) := by decide +kernel
theorem dX5_pieceAt_29 : decode cX5_pieceAt 29 = .ok (.areturn, 1) := by decide +kernel
theorem dX5_powderAt_0 : decode cX5_powderAt 0 = .ok (.iload_n 1, 1) := by decide +kernel
theorem dX5_powderAt_1 : decode cX5_powderAt 1 = .ok (.ifCond .lt 11, 3) := by decide +kernel
theorem dX5_powderAt_4 : decode cX5_powderAt 4 = .ok (.iload_n 1, 1) := by decide +kernel
theorem dX5_powderAt_5 : decode cX5_powderAt 5 = .ok (.aload_n 0, 1) := by decide +kernel
theorem dX5_powderAt_6 : decode cX5_powderAt 6 = .ok (.getfield 103, 3) := by decide +kernel
theorem dX5_powderAt_9 : decode cX5_powderAt 9 = .ok (.if_icmp .lt 14, 3) := by decide +kernel
theorem dX5_powderAt_12 : decode cX5_powderAt 12 = .ok (.new 299, 3) := by decide +kernel
theorem dX5_powderAt_15 : decode cX5_powderAt 15 = .ok (.dup, 1) := by decide +kernel
theorem dX5_powderAt_16 : decode cX5_powderAt 16 = .ok (.ldc_w 382, 3) := by decide +kernel
theorem dX5_powderAt_19 : decode cX5_powderAt 19 = .ok (.invokespecial 303, 3) := by decide +kernel
theorem dX5_powderAt_22 : decode cX5_powderAt 22 = .ok (.athrow, 1) := by decide +kernel
theorem dX5_powderAt_23 : decode cX5_powderAt 23 = .ok (.aload_n 0, 1) := by decide +kernel
theorem dX5_powderAt_24 : decode cX5_powderAt 24 = .ok (.getfield 17, 3) := by decide +kernel
theorem dX5_powderAt_27 : decode cX5_powderAt 27 = .ok (.iload_n 1, 1) := by decide +kernel
theorem dX5_powderAt_28 : decode cX5_powderAt 28 = .ok (.aaload, 1) := by decide +kernel
theorem dX5_powderAt_29 : decode cX5_powderAt 29 = .ok (.areturn, 1) := by decide +kernel
theorem dX5_machineAt_0 : decode cX5_machineAt 0 = .ok (.iload_n 1, 1) := by decide +kernel
theorem dX5_machineAt_1 : decode cX5_machineAt 1 = .ok (.ifCond .lt 8, 3) := by decide +kernel
theorem dX5_machineAt_4 : decode cX5_machineAt 4 = .ok (.iload_n 1, 1) := by decide +kernel
theorem dX5_machineAt_5 : decode cX5_machineAt 5 = .ok (.iconst 2, 1) := by decide +kernel
theorem dX5_machineAt_6 : decode cX5_machineAt 6 = .ok (.if_icmp .lt 14, 3) := by decide +kernel
theorem dX5_machineAt_9 : decode cX5_machineAt 9 = .ok (.new 299, 3) := by decide +kernel
theorem dX5_machineAt_12 : decode cX5_machineAt 12 = .ok (.dup, 1) := by decide +kernel
theorem dX5_machineAt_13 : decode cX5_machineAt 13 = .ok (.ldc_w 384, 3) := by decide +kernel
theorem dX5_machineAt_16 : decode cX5_machineAt 16 = .ok (.invokespecial 303, 3) := by decide +kernel
theorem dX5_machineAt_19 : decode cX5_machineAt 19 = .ok (.athrow, 1) := by decide +kernel
theorem dX5_machineAt_20 : decode cX5_machineAt 20 = .ok (.aload_n 0, 1) := by decide +kernel
theorem dX5_machineAt_21 : decode cX5_machineAt 21 = .ok (.getfield 23, 3) := by decide +kernel
theorem dX5_machineAt_24 : decode cX5_machineAt 24 = .ok (.iload_n 1, 1) := by decide +kernel
theorem dX5_machineAt_25 : decode cX5_machineAt 25 = .ok (.aaload, 1) := by decide +kernel
theorem dX5_machineAt_26 : decode cX5_machineAt 26 = .ok (.areturn, 1) := by decide +kernel
theorem dX5_checkLayer_0 : decode cX5_checkLayer 0 = .ok (.iload_n 0, 1) := by decide +kernel
theorem dX5_checkLayer_1 : decode cX5_checkLayer 1 = .ok (.ifCond .lt 9, 3) := by decide +kernel
theorem dX5_checkLayer_4 : decode cX5_checkLayer 4 = .ok (.iload_n 0, 1) := by decide +kernel
theorem dX5_checkLayer_5 : decode cX5_checkLayer 5 = .ok (.bipush 8, 2) := by decide +kernel
theorem dX5_checkLayer_7 : decode cX5_checkLayer 7 = .ok (.if_icmp .lt 14, 3) := by decide +kernel
theorem dX5_checkLayer_10 : decode cX5_checkLayer 10 = .ok (.new 299, 3) := by decide +kernel
theorem dX5_checkLayer_13 : decode cX5_checkLayer 13 = .ok (.dup, 1) := by decide +kernel
theorem dX5_checkLayer_14 : decode cX5_checkLayer 14 = .ok (.ldc_w 386, 3) := by decide +kernel
theorem dX5_checkLayer_17 : decode cX5_checkLayer 17 = .ok (.invokespecial 303, 3) := by decide +kernel
theorem dX5_checkLayer_20 : decode cX5_checkLayer 20 = .ok (.athrow, 1) := by decide +kernel
theorem dX5_checkLayer_21 : decode cX5_checkLayer 21 = .ok (.return_, 1) := by decide +kernel
theorem dX5_checkWay_0 : decode cX5_checkWay 0 = .ok (.iload_n 0, 1) := by decide +kernel
theorem dX5_checkWay_1 : decode cX5_checkWay 1 = .ok (.ifCond .lt 9, 3) := by decide +kernel
theorem dX5_checkWay_4 : decode cX5_checkWay 4 = .ok (.iload_n 0, 1) := by decide +kernel
theorem dX5_checkWay_5 : decode cX5_checkWay 5 = .ok (.bipush 6, 2) := by decide +kernel
theorem dX5_checkWay_7 : decode cX5_checkWay 7 = .ok (.if_icmp .lt 14, 3) := by decide +kernel
theorem dX5_checkWay_10 : decode cX5_checkWay 10 = .ok (.new 96, 3) := by decide +kernel
theorem dX5_checkWay_13 : decode cX5_checkWay 13 = .ok (.dup, 1) := by decide +kernel
theorem dX5_checkWay_14 : decode cX5_checkWay 14 = .ok (.ldc_w 388, 3) := by decide +kernel
theorem dX5_checkWay_17 : decode cX5_checkWay 17 = .ok (.invokespecial 100, 3) := by decide +kernel
theorem dX5_checkWay_20 : decode cX5_checkWay 20 = .ok (.athrow, 1) := by decide +kernel
theorem dX5_checkWay_21 : decode cX5_checkWay 21 = .ok (.return_, 1) := by decide +kernel
theorem dX5_checkPower_0 : decode cX5_checkPower 0 = .ok (.iload_n 0, 1) := by decide +kernel
theorem dX5_checkPower_1 : decode cX5_checkPower 1 = .ok (.bipush 50, 2) := by decide +kernel
theorem dX5_checkPower_3 : decode cX5_checkPower 3 = .ok (.if_icmp .lt 10, 3) := by decide +kernel
theorem dX5_checkPower_6 : decode cX5_checkPower 6 = .ok (.iload_n 0, 1) := by decide +kernel
theorem dX5_checkPower_7 : decode cX5_checkPower 7 = .ok (.sipush 400, 3) := by decide +kernel
theorem dX5_checkPower_10 : decode cX5_checkPower 10 = .ok (.if_icmp .le 14, 3) := by decide +kernel
theorem dX5_checkPower_13 : decode cX5_checkPower 13 = .ok (.new 96, 3) := by decide +kernel
theorem dX5_checkPower_16 : decode cX5_checkPower 16 = .ok (.dup, 1) := by decide +kernel
theorem dX5_checkPower_17 : decode cX5_checkPower 17 = .ok (.ldc_w 390, 3) := by decide +kernel
theorem dX5_checkPower_20 : decode cX5_checkPower 20 = .ok (.invokespecial 100, 3) := by decide +kernel
theorem dX5_checkPower_23 : decode cX5_checkPower 23 = .ok (.athrow, 1) := by decide +kernel
theorem dX5_checkPower_24 : decode cX5_checkPower 24 = .ok (.return_, 1) := by decide +kernel
theorem dX5_checkSolid_0 : decode cX5_checkSolid 0 = .ok (.aload_n 0, 1) := by decide +kernel
theorem dX5_checkSolid_1 : decode cX5_checkSolid 1 = .ok (.getfield 171, 3) := by decide +kernel
theorem dX5_checkSolid_4 : decode cX5_checkSolid 4 = .ok (.ifCond .eq 14, 3) := by decide +kernel
theorem dX5_checkSolid_7 : decode cX5_checkSolid 7 = .ok (.new 50, 3) := by decide +kernel
theorem dX5_checkSolid_10 : decode cX5_checkSolid 10 = .ok (.dup, 1) := by decide +kernel
theorem dX5_checkSolid_11 : decode cX5_checkSolid 11 = .ok (.ldc_w 392, 3) := by decide +kernel
theorem dX5_checkSolid_14 : decode cX5_checkSolid 14 = .ok (.invokespecial 54, 3) := by decide +kernel
theorem dX5_checkSolid_17 : decode cX5_checkSolid 17 = .ok (.athrow, 1) := by decide +kernel
theorem dX5_checkSolid_18 : decode cX5_checkSolid 18 = .ok (.return_, 1) := by decide +kernel
theorem dX5_checkSawn_0 : decode cX5_checkSawn 0 = .ok (.aload_n 0, 1) := by decide +kernel
theorem dX5_checkSawn_1 : decode cX5_checkSawn 1 = .ok (.getfield 171, 3) := by decide +kernel
theorem dX5_checkSawn_4 : decode cX5_checkSawn 4 = .ok (.iconst 4, 1) := by decide +kernel
theorem dX5_checkSawn_5 : decode cX5_checkSawn 5 = .ok (.if_icmp .eq 14, 3) := by decide +kernel
theorem dX5_checkSawn_8 : decode cX5_checkSawn 8 = .ok (.new 50, 3) := by decide +kernel
theorem dX5_checkSawn_11 : decode cX5_checkSawn 11 = .ok (.dup, 1) := by decide +kernel
theorem dX5_checkSawn_12 : decode cX5_checkSawn 12 = .ok (.ldc_w 394, 3) := by decide +kernel
theorem dX5_checkSawn_15 : decode cX5_checkSawn 15 = .ok (.invokespecial 54, 3) := by decide +kernel
theorem dX5_checkSawn_18 : decode cX5_checkSawn 18 = .ok (.athrow, 1) := by decide +kernel
theorem dX5_checkSawn_19 : decode cX5_checkSawn 19 = .ok (.return_, 1) := by decide +kernel
theorem dX5_checkGrowing_0 : decode cX5_checkGrowing 0 = .ok (.aload_n 0, 1) := by decide +kernel
theorem dX5_checkGrowing_1 : decode cX5_checkGrowing 1 = .ok (.getfield 162, 3) := by decide +kernel
theorem dX5_checkGrowing_4 : decode cX5_checkGrowing 4 = .ok (.astore_n 1, 1) := by decide +kernel
theorem dX5_checkGrowing_5 : decode cX5_checkGrowing 5 = .ok (.aload_n 1, 1) := by decide +kernel
theorem dX5_checkGrowing_6 : decode cX5_checkGrowing 6 = .ok (.ifnonnull 14, 3) := by decide +kernel
theorem dX5_checkGrowing_9 : decode cX5_checkGrowing 9 = .ok (.new 50, 3) := by decide +kernel
theorem dX5_checkGrowing_12 : decode cX5_checkGrowing 12 = .ok (.dup, 1) := by decide +kernel
theorem dX5_checkGrowing_13 : decode cX5_checkGrowing 13 = .ok (.ldc_w 396, 3) := by decide +kernel
theorem dX5_checkGrowing_16 : decode cX5_checkGrowing 16 = .ok (.invokespecial 54, 3) := by decide +kernel
theorem dX5_checkGrowing_19 : decode cX5_checkGrowing 19 = .ok (.athrow, 1) := by decide +kernel
theorem dX5_checkGrowing_20 : decode cX5_checkGrowing 20 = .ok (.aload_n 1, 1) := by decide +kernel
theorem dX5_checkGrowing_21 : decode cX5_checkGrowing 21 = .ok (.areturn, 1) := by decide +kernel
theorem dX5_energyOf_0 : decode cX5_energyOf 0 = .ok (.iload_n 0, 1) := by decide +kernel
theorem dX5_energyOf_1 : decode cX5_energyOf 1 = .ok (.i2d, 1) := by decide +kernel
theorem dX5_energyOf_2 : decode cX5_energyOf 2 = .ok (.iload_n 1, 1) := by decide +kernel
theorem dX5_energyOf_3 : decode cX5_energyOf 3 = .ok (.i2d, 1) := by decide +kernel
theorem dX5_energyOf_4 : decode cX5_energyOf 4 = .ok (.ddiv, 1) := by decide +kernel
theorem dX5_energyOf_5 : decode cX5_energyOf 5 = .ok (.ldc2_w 398, 3) := by decide +kernel
theorem dX5_energyOf_8 : decode cX5_energyOf 8 = .ok (.ddiv, 1) := by decide +kernel
theorem dX5_energyOf_9 : decode cX5_energyOf 9 = .ok (.dreturn, 1) := by decide +kernel
theorem dX6_init_0 : decode cX6_init 0 = .ok (.aload_n 0, 1) := by decide +kernel
theorem dX6_init_1 : decode cX6_init 1 = .ok (.invokespecial 1, 3) := by decide +kernel
theorem dX6_init_4 : decode cX6_init 4 = .ok (.aload_n 0, 1) := by decide +kernel
theorem dX6_init_5 : decode cX6_init 5 = .ok (.bipush 64, 2) := by decide +kernel
theorem dX6_init_7 : decode cX6_init 7 = .ok (.newarray .double, 2) := by decide +kernel
theorem dX6_init_9 : decode cX6_init 9 = .ok (.putfield 7, 3) := by decide +kernel
theorem dX6_init_12 : decode cX6_init 12 = .ok (.aload_n 0, 1) := by decide +kernel
theorem dX6_init_13 : decode cX6_init 13 = .ok (.iload_n 1, 1) := by decide +kernel
theorem dX6_init_14 : decode cX6_init 14 = .ok (.i2d, 1) := by decide +kernel
theorem dX6_init_15 : decode cX6_init 15 = .ok (.iload_n 2, 1) := by decide +kernel
theorem dX6_init_16 : decode cX6_init 16 = .ok (.i2d, 1) := by decide +kernel
theorem dX6_init_17 : decode cX6_init 17 = .ok (.ddiv, 1) := by decide +kernel
theorem dX6_init_18 : decode cX6_init 18 = .ok (.ldc2_w 13, 3) := by decide +kernel
theorem dX6_init_21 : decode cX6_init 21 = .ok (.ddiv, 1) := by decide +kernel
theorem dX6_init_22 : decode cX6_init 22 = .ok (.putfield 15, 3) := by decide +kernel
theorem dX6_init_25 : decode cX6_init 25 = .ok (.return_, 1) := by decide +kernel
theorem dX6_grow_0 : decode cX6_grow 0 = .ok (.aload_n 1, 1) := by decide +kernel
theorem dX6_grow_1 : decode cX6_grow 1 = .ok (.getfield 19, 3) := by decide +kernel
theorem dX6_grow_4 : decode cX6_grow 4 = .ok (.aload_n 0, 1) := by decide +kernel
theorem dX6_grow_5 : decode cX6_grow 5 = .ok (.getfield 25, 3) := by decide +kernel
theorem dX6_grow_8 : decode cX6_grow 8 = .ok (.laload, 1) := by decide +kernel
theorem dX6_grow_9 : decode cX6_grow 9 = .ok (.lstore_n 2, 1) := by decide +kernel
theorem dX6_grow_10 : decode cX6_grow 10 = .ok (.aload_n 1, 1) := by decide +kernel
theorem dX6_grow_11 : decode cX6_grow 11 = .ok (.aload_n 0, 1) := by decide +kernel
theorem dX6_grow_12 : decode cX6_grow 12 = .ok (.getfield 25, 3) := by decide +kernel
theorem dX6_grow_15 : decode cX6_grow 15 = .ok (.invokevirtual 29, 3) := by decide +kernel
theorem dX6_grow_18 : decode cX6_grow 18 = .ok (.lstore 4, 2) := by decide +kernel
theorem dX6_grow_20 : decode cX6_grow 20 = .ok (.iconst 0, 1) := by decide +kernel
theorem dX6_grow_21 : decode cX6_grow 21 = .ok (.istore 6, 2) := by decide +kernel
theorem dX6_grow_23 : decode cX6_grow 23 = .ok (.iload 6, 2) := by decide +kernel
theorem dX6_grow_25 : decode cX6_grow 25 = .ok (.bipush 64, 2) := by decide +kernel
theorem dX6_grow_27 : decode cX6_grow 27 = .ok (.if_icmp .ge 130, 3) := by decide +kernel
theorem dX6_grow_30 : decode cX6_grow 30 = .ok (.aload_n 0, 1) := by decide +kernel
theorem dX6_grow_31 : decode cX6_grow 31 = .ok (.getfield 7, 3) := by decide +kernel
theorem dX6_grow_34 : decode cX6_grow 34 = .ok (.iload 6, 2) := by decide +kernel
theorem dX6_grow_36 : decode cX6_grow 36 = .ok (.dup2, 1) := by decide +kernel
theorem dX6_grow_37 : decode cX6_grow 37 = .ok (.daload, 1) := by decide +kernel
theorem dX6_grow_38 : decode cX6_grow 38 = .ok (.ldc2_w 33, 3) := by decide +kernel
theorem dX6_grow_41 : decode cX6_grow 41 = .ok (.dmul, 1) := by decide +kernel
theorem dX6_grow_42 : decode cX6_grow 42 = .ok (.dastore, 1) := by decide +kernel
theorem dX6_grow_43 : decode cX6_grow 43 = .ok (.lload_n 2, 1) := by decide +kernel
theorem dX6_grow_44 : decode cX6_grow 44 = .ok (.iload 6, 2) := by decide +kernel
theorem dX6_grow_46 : decode cX6_grow 46 = .ok (.invokestatic 35, 3) := by decide +kernel
theorem dX6_grow_49 : decode cX6_grow 49 = .ok (.ifCond .ne 6, 3) := by decide +kernel
theorem dX6_grow_52 : decode cX6_grow 52 = .ok (.goto 99, 3) := by decide +kernel
theorem dX6_grow_55 : decode cX6_grow 55 = .ok (.aload_n 0, 1) := by decide +kernel
theorem dX6_grow_56 : decode cX6_grow 56 = .ok (.getfield 7, 3) := by decide +kernel
theorem dX6_grow_59 : decode cX6_grow 59 = .ok (.iload 6, 2) := by decide +kernel
theorem dX6_grow_61 : decode cX6_grow 61 = .ok (.dup2, 1) := by decide +kernel
theorem dX6_grow_62 : decode cX6_grow 62 = .ok (.daload, 1) := by decide +kernel
theorem dX6_grow_63 : decode cX6_grow 63 = .ok (.aload_n 0, 1) := by decide +kernel
theorem dX6_grow_64 : decode cX6_grow 64 = .ok (.getfield 15, 3) := by decide +kernel
theorem dX6_grow_67 : decode cX6_grow 67 = .ok (.ldc2_w 41, 3) := by decide +kernel
theorem dX6_grow_70 : decode cX6_grow 70 = .ok (.dmul, 1) := by decide +kernel
theorem dX6_grow_71 : decode cX6_grow 71 = .ok (.dadd, 1) := by decide +kernel
theorem dX6_grow_72 : decode cX6_grow 72 = .ok (.dastore, 1) := by decide +kernel
theorem dX6_grow_73 : decode cX6_grow 73 = .ok (.aload_n 0, 1) := by decide +kernel
theorem dX6_grow_74 : decode cX6_grow 74 = .ok (.getfield 15, 3) := by decide +kernel
theorem dX6_grow_77 : decode cX6_grow 77 = .ok (.aload_n 0, 1) := by decide +kernel
theorem dX6_grow_78 : decode cX6_grow 78 = .ok (.getfield 7, 3) := by decide +kernel
theorem dX6_grow_81 : decode cX6_grow 81 = .ok (.iload 6, 2) := by decide +kernel
theorem dX6_grow_83 : decode cX6_grow 83 = .ok (.daload, 1) := by decide +kernel
theorem dX6_grow_84 : decode cX6_grow 84 = .ok (.dadd, 1) := by decide +kernel
theorem dX6_grow_85 : decode cX6_grow 85 = .ok (.dstore 7, 2) := by decide +kernel
theorem dX6_grow_87 : decode cX6_grow 87 = .ok (.lload 4, 2) := by decide +kernel
theorem dX6_grow_89 : decode cX6_grow 89 = .ok (.iload 6, 2) := by decide +kernel
theorem dX6_grow_91 : decode cX6_grow 91 = .ok (.invokestatic 35, 3) := by decide +kernel
theorem dX6_grow_94 : decode cX6_grow 94 = .ok (.ifCond .eq 11, 3) := by decide +kernel
theorem dX6_grow_97 : decode cX6_grow 97 = .ok (.dload 7, 2) := by decide +kernel
theorem dX6_grow_99 : decode cX6_grow 99 = .ok (.ldc2_w 43, 3) := by decide +kernel
theorem dX6_grow_102 : decode cX6_grow 102 = .ok (.dmul, 1) := by decide +kernel
theorem dX6_grow_103 : decode cX6_grow 103 = .ok (.dstore 7, 2) := by decide +kernel
theorem dX6_grow_105 : decode cX6_grow 105 = .ok (.aload_n 0, 1) := by decide +kernel
theorem dX6_grow_106 : decode cX6_grow 106 = .ok (.dup, 1) := by decide +kernel
theorem dX6_grow_107 : decode cX6_grow 107 = .ok (.getfield 45, 3) := by decide +kernel
theorem dX6_grow_110 : decode cX6_grow 110 = .ok (.dload 7, 2) := by decide +kernel
theorem dX6_grow_112 : decode cX6_grow 112 = .ok (.ldc2_w 48, 3) := by decide +kernel
theorem dX6_grow_115 : decode cX6_grow 115 = .ok (.dcmp .g, 1) := by decide +kernel
theorem dX6_grow_116 : decode cX6_grow 116 = .ok (.ifCond .ge 7, 3) := by decide +kernel
theorem dX6_grow_119 : decode cX6_grow 119 = .ok (.iconst 1, 1) := by decide +kernel
theorem dX6_grow_120 : decode cX6_grow 120 = .ok (.goto 4, 3) := by decide +kernel
theorem dX6_grow_123 : decode cX6_grow 123 = .ok (.iconst 0, 1) := by decide +kernel
theorem dX6_grow_124 : decode cX6_grow 124 = .ok (.iadd, 1) := by decide +kernel
theorem dX6_grow_125 : decode cX6_grow 125 = .ok (.putfield 45, 3) := by decide +kernel
theorem dX6_grow_128 : decode cX6_grow 128 = .ok (.aload_n 0, 1) := by decide +kernel
theorem dX6_grow_129 : decode cX6_grow 129 = .ok (.dup, 1) := by decide +kernel
theorem dX6_grow_130 : decode cX6_grow 130 = .ok (.getfield 50, 3) := by decide +kernel
theorem dX6_grow_133 : decode cX6_grow 133 = .ok (.dload 7, 2) := by decide +kernel
theorem dX6_grow_135 : decode cX6_grow 135 = .ok (.ldc2_w 53, 3) := by decide +kernel
theorem dX6_grow_138 : decode cX6_grow 138 = .ok (.dcmp .l, 1) := by decide +kernel
theorem dX6_grow_139 : decode cX6_grow 139 = .ok (.ifCond .le 7, 3) := by decide +kernel
theorem dX6_grow_142 : decode cX6_grow 142 = .ok (.iconst 1, 1) := by decide +kernel
theorem dX6_grow_143 : decode cX6_grow 143 = .ok (.goto 4, 3) := by decide +kernel
theorem dX6_grow_146 : decode cX6_grow 146 = .ok (.iconst 0, 1) := by decide +kernel
theorem dX6_grow_147 : decode cX6_grow 147 = .ok (.iadd, 1) := by decide +kernel
theorem dX6_grow_148 : decode cX6_grow 148 = .ok (.putfield 50, 3) := by decide +kernel
theorem dX6_grow_151 : decode cX6_grow 151 = .ok (.iinc 6 1, 3) := by decide +kernel
theorem dX6_grow_154 : decode cX6_grow 154 = .ok (.goto (-131), 3) := by decide +kernel
theorem dX6_grow_157 : decode cX6_grow 157 = .ok (.aload_n 0, 1) := by decide +kernel
theorem dX6_grow_158 : decode cX6_grow 158 = .ok (.aload_n 0, 1) := by decide +kernel
theorem dX6_grow_159 : decode cX6_grow 159 = .ok (.getfield 55, 3) := by decide +kernel
theorem dX6_grow_162 : decode cX6_grow 162 = .ok (.ldc2_w 58, 3) := by decide +kernel
theorem dX6_grow_165 : decode cX6_grow 165 = .ok (.dmul, 1) := by decide +kernel
theorem dX6_grow_166 : decode cX6_grow 166 = .ok (.ldc2_w 60, 3) := by decide +kernel
theorem dX6_grow_169 : decode cX6_grow 169 = .ok (.lload 4, 2) := by decide +kernel
theorem dX6_grow_171 : decode cX6_grow 171 = .ok (.invokestatic 62, 3) := by decide +kernel
theorem dX6_grow_174 : decode cX6_grow 174 = .ok (.i2d, 1) := by decide +kernel
theorem dX6_grow_175 : decode cX6_grow 175 = .ok (.dmul, 1) := by decide +kernel
theorem dX6_grow_176 : decode cX6_grow 176 = .ok (.dadd, 1) := by decide +kernel
theorem dX6_grow_177 : decode cX6_grow 177 = .ok (.putfield 55, 3) := by decide +kernel
theorem dX6_grow_180 : decode cX6_grow 180 = .ok (.aload_n 0, 1) := by decide +kernel
theorem dX6_grow_181 : decode cX6_grow 181 = .ok (.dup, 1) := by decide +kernel
theorem dX6_grow_182 : decode cX6_grow 182 = .ok (.getfield 25, 3) := by decide +kernel
theorem dX6_grow_185 : decode cX6_grow 185 = .ok (.iconst 1, 1) := by decide +kernel
theorem dX6_grow_186 : decode cX6_grow 186 = .ok (.iadd, 1) := by decide +kernel
theorem dX6_grow_187 : decode cX6_grow 187 = .ok (.putfield 25, 3) := by decide +kernel
theorem dX6_grow_190 : decode cX6_grow 190 = .ok (.return_, 1) := by decide +kernel
theorem dX7_init_0 : decode cX7_init 0 = .ok (.aload_n 0, 1) := by decide +kernel
theorem dX7_init_1 : decode cX7_init 1 = .ok (.invokespecial 3, 3) := by decide +kernel
theorem dX7_init_4 : decode cX7_init 4 = .ok (.aload_n 0, 1) := by decide +kernel
theorem dX7_init_5 : decode cX7_init 5 = .ok (.iconst (-1), 1) := by decide +kernel
theorem dX7_init_6 : decode cX7_init 6 = .ok (.putfield 9, 3) := by decide +kernel
theorem dX7_init_9 : decode cX7_init 9 = .ok (.aload_n 0, 1) := by decide +kernel
theorem dX7_init_10 : decode cX7_init 10 = .ok (.iconst (-1), 1) := by decide +kernel
theorem dX7_init_11 : decode cX7_init 11 = .ok (.putfield 15, 3) := by decide +kernel
theorem dX7_init_14 : decode cX7_init 14 = .ok (.aload_n 0, 1) := by decide +kernel
theorem dX7_init_15 : decode cX7_init 15 = .ok (.iconst (-1), 1) := by decide +kernel
theorem dX7_init_16 : decode cX7_init 16 = .ok (.putfield 18, 3) := by decide +kernel
theorem dX7_init_19 : decode cX7_init 19 = .ok (.aload_n 0, 1) := by decide +kernel
theorem dX7_init_20 : decode cX7_init 20 = .ok (.new 21, 3) := by decide +kernel
theorem dX7_init_23 : decode cX7_init 23 = .ok (.dup, 1) := by decide +kernel
theorem dX7_init_24 : decode cX7_init 24 = .ok (.invokespecial 23, 3) := by decide +kernel
theorem dX7_init_27 : decode cX7_init 27 = .ok (.putfield 24, 3) := by decide +kernel
theorem dX7_init_30 : decode cX7_init 30 = .ok (.return_, 1) := by decide +kernel
theorem dX7_isProved_0 : decode cX7_isProved 0 = .ok (.iconst 0, 1) := by decide +kernel
theorem dX7_isProved_1 : decode cX7_isProved 1 = .ok (.istore 4, 2) := by decide +kernel
theorem dX7_isProved_3 : decode cX7_isProved 3 = .ok (.iload 4, 2) := by decide +kernel
theorem dX7_isProved_5 : decode cX7_isProved 5 = .ok (.aload_n 0, 1) := by decide +kernel
theorem dX7_isProved_6 : decode cX7_isProved 6 = .ok (.getfield 24, 3) := by decide +kernel
theorem dX7_isProved_9 : decode cX7_isProved 9 = .ok (.invokeinterface 28 1, 5) := by decide +kernel
theorem dX7_isProved_14 : decode cX7_isProved 14 = .ok (.if_icmp .ge 71, 3) := by decide +kernel
theorem dX7_isProved_17 : decode cX7_isProved 17 = .ok (.aload_n 0, 1) := by decide +kernel
theorem dX7_isProved_18 : decode cX7_isProved 18 = .ok (.getfield 24, 3) := by decide +kernel
theorem dX7_isProved_21 : decode cX7_isProved 21 = .ok (.iload 4, 2) := by decide +kernel
theorem dX7_isProved_23 : decode cX7_isProved 23 = .ok (.invokeinterface 34 2, 5) := by decide +kernel
theorem dX7_isProved_28 : decode cX7_isProved 28 = .ok (.checkcast 38, 3) := by decide +kernel
theorem dX7_isProved_31 : decode cX7_isProved 31 = .ok (.iconst 0, 1) := by decide +kernel
theorem dX7_isProved_32 : decode cX7_isProved 32 = .ok (.iaload, 1) := by decide +kernel
theorem dX7_isProved_33 : decode cX7_isProved 33 = .ok (.iload_n 1, 1) := by decide +kernel
theorem dX7_isProved_34 : decode cX7_isProved 34 = .ok (.if_icmp .ne 45, 3) := by decide +kernel
theorem dX7_isProved_37 : decode cX7_isProved 37 = .ok (.aload_n 0, 1) := by decide +kernel
theorem dX7_isProved_38 : decode cX7_isProved 38 = .ok (.getfield 24, 3) := by decide +kernel
theorem dX7_isProved_41 : decode cX7_isProved 41 = .ok (.iload 4, 2) := by decide +kernel
theorem dX7_isProved_43 : decode cX7_isProved 43 = .ok (.invokeinterface 34 2, 5) := by decide +kernel
theorem dX7_isProved_48 : decode cX7_isProved 48 = .ok (.checkcast 38, 3) := by decide +kernel
theorem dX7_isProved_51 : decode cX7_isProved 51 = .ok (.iconst 1, 1) := by decide +kernel
theorem dX7_isProved_52 : decode cX7_isProved 52 = .ok (.iaload, 1) := by decide +kernel
theorem dX7_isProved_53 : decode cX7_isProved 53 = .ok (.iload_n 2, 1) := by decide +kernel
theorem dX7_isProved_54 : decode cX7_isProved 54 = .ok (.if_icmp .ne 25, 3) := by decide +kernel
theorem dX7_isProved_57 : decode cX7_isProved 57 = .ok (.aload_n 0, 1) := by decide +kernel
theorem dX7_isProved_58 : decode cX7_isProved 58 = .ok (.getfield 24, 3) := by decide +kernel
theorem dX7_isProved_61 : decode cX7_isProved 61 = .ok (.iload 4, 2) := by decide +kernel
theorem dX7_isProved_63 : decode cX7_isProved 63 = .ok (.invokeinterface 34 2, 5) := by decide +kernel
theorem dX7_isProved_68 : decode cX7_isProved 68 = .ok (.checkcast 38, 3) := by decide +kernel
theorem dX7_isProved_71 : decode cX7_isProved 71 = .ok (.iconst 2, 1) := by decide +kernel
theorem dX7_isProved_72 : decode cX7_isProved 72 = .ok (.iaload, 1) := by decide +kernel
theorem dX7_isProved_73 : decode cX7_isProved 73 = .ok (.iload_n 3, 1) := by decide +kernel
theorem dX7_isProved_74 : decode cX7_isProved 74 = .ok (.if_icmp .ne 5, 3) := by decide +kernel
theorem dX7_isProved_77 : decode cX7_isProved 77 = .ok (.iconst 1, 1) := by decide +kernel
theorem dX7_isProved_78 : decode cX7_isProved 78 = .ok (.ireturn, 1) := by decide +kernel
theorem dX7_isProved_79 : decode cX7_isProved 79 = .ok (.iinc 4 1, 3) := by decide +kernel
theorem dX7_isProved_82 : decode cX7_isProved 82 = .ok (.goto (-79), 3) := by decide +kernel
theorem dX7_isProved_85 : decode cX7_isProved 85 = .ok (.iconst 0, 1) := by decide +kernel
theorem dX7_isProved_86 : decode cX7_isProved 86 = .ok (.ireturn, 1) := by decide +kernel
theorem dX8_init_0 : decode cX8_init 0 = .ok (.aload_n 0, 1) := by decide +kernel
theorem dX8_init_1 : decode cX8_init 1 = .ok (.invokespecial 3, 3) := by decide +kernel
theorem dX8_init_4 : decode cX8_init 4 = .ok (.aload_n 0, 1) := by decide +kernel
theorem dX8_init_5 : decode cX8_init 5 = .ok (.new 9, 3) := by decide +kernel
theorem dX8_init_8 : decode cX8_init 8 = .ok (.dup, 1) := by decide +kernel
theorem dX8_init_9 : decode cX8_init 9 = .ok (.invokespecial 11, 3) := by decide +kernel
theorem dX8_init_12 : decode cX8_init 12 = .ok (.putfield 12, 3) := by decide +kernel
theorem dX8_init_15 : decode cX8_init 15 = .ok (.aload_n 0, 1) := by decide +kernel
theorem dX8_init_16 : decode cX8_init 16 = .ok (.iconst 0, 1) := by decide +kernel
theorem dX8_init_17 : decode cX8_init 17 = .ok (.putfield 18, 3) := by decide +kernel
theorem dX8_init_20 : decode cX8_init 20 = .ok (.aload_n 0, 1) := by decide +kernel
theorem dX8_init_21 : decode cX8_init 21 = .ok (.new 22, 3) := by decide +kernel
theorem dX8_init_24 : decode cX8_init 24 = .ok (.dup, 1) := by decide +kernel
theorem dX8_init_25 : decode cX8_init 25 = .ok (.iconst 1, 1) := by decide +kernel
theorem dX8_init_26 : decode cX8_init 26 = .ok (.iconst 1, 1) := by decide +kernel
theorem dX8_init_27 : decode cX8_init 27 = .ok (.invokespecial 24, 3) := by decide +kernel
theorem dX8_init_30 : decode cX8_init 30 = .ok (.putfield 27, 3) := by decide +kernel
theorem dX8_init_33 : decode cX8_init 33 = .ok (.aload_n 0, 1) := by decide +kernel
theorem dX8_init_34 : decode cX8_init 34 = .ok (.iconst (-1), 1) := by decide +kernel
theorem dX8_init_35 : decode cX8_init 35 = .ok (.putfield 31, 3) := by decide +kernel
theorem dX8_init_38 : decode cX8_init 38 = .ok (.aload_n 0, 1) := by decide +kernel
theorem dX8_init_39 : decode cX8_init 39 = .ok (.iconst (-1), 1) := by decide +kernel
theorem dX8_init_40 : decode cX8_init 40 = .ok (.putfield 34, 3) := by decide +kernel
theorem dX8_init_43 : decode cX8_init 43 = .ok (.aload_n 0, 1) := by decide +kernel
theorem dX8_init_44 : decode cX8_init 44 = .ok (.iconst (-1), 1) := by decide +kernel
theorem dX8_init_45 : decode cX8_init 45 = .ok (.putfield 37, 3) := by decide +kernel
theorem dX8_init_48 : decode cX8_init 48 = .ok (.aload_n 0, 1) := by decide +kernel
theorem dX8_init_49 : decode cX8_init 49 = .ok (.iconst (-1), 1) := by decide +kernel
theorem dX8_init_50 : decode cX8_init 50 = .ok (.putfield 40, 3) := by decide +kernel
theorem dX8_init_53 : decode cX8_init 53 = .ok (.aload_n 0, 1) := by decide +kernel
theorem dX8_init_54 : decode cX8_init 54 = .ok (.iconst (-1), 1) := by decide +kernel
theorem dX8_init_55 : decode cX8_init 55 = .ok (.putfield 43, 3) := by decide +kernel
theorem dX8_init_58 : decode cX8_init 58 = .ok (.return_, 1) := by decide +kernel
theorem dX8_density_0 : decode cX8_density 0 = .ok (.aload_n 0, 1) := by decide +kernel
theorem dX8_density_1 : decode cX8_density 1 = .ok (.getfield 12, 3) := by decide +kernel
theorem dX8_density_4 : decode cX8_density 4 = .ok (.invokevirtual 46, 3) := by decide +kernel
theorem dX8_density_7 : decode cX8_density 7 = .ok (.istore_n 1, 1) := by decide +kernel
theorem dX8_density_8 : decode cX8_density 8 = .ok (.iload_n 1, 1) := by decide +kernel
theorem dX8_density_9 : decode cX8_density 9 = .ok (.ifCond .ne 7, 3) := by decide +kernel
theorem dX8_density_12 : decode cX8_density 12 = .ok (.dconst 0, 1) := by decide +kernel
theorem dX8_density_13 : decode cX8_density 13 = .ok (.goto 24, 3) := by decide +kernel
theorem dX8_density_16 : decode cX8_density 16 = .ok (.dconst 1, 1) := by decide +kernel
theorem dX8_density_17 : decode cX8_density 17 = .ok (.aload_n 0, 1) := by decide +kernel
theorem dX8_density_18 : decode cX8_density 18 = .ok (.getfield 27, 3) := by decide +kernel
theorem dX8_density_21 : decode cX8_density 21 = .ok (.getfield 50, 3) := by decide +kernel
theorem dX8_density_24 : decode cX8_density 24 = .ok (.aload_n 0, 1) := by decide +kernel
theorem dX8_density_25 : decode cX8_density 25 = .ok (.getfield 27, 3) := by decide +kernel
theorem dX8_density_28 : decode cX8_density 28 = .ok (.getfield 53, 3) := by decide +kernel
theorem dX8_density_31 : decode cX8_density 31 = .ok (.iadd, 1) := by decide +kernel
theorem dX8_density_32 : decode cX8_density 32 = .ok (.i2d, 1) := by decide +kernel
theorem dX8_density_33 : decode cX8_density 33 = .ok (.iload_n 1, 1) := by decide +kernel
theorem dX8_density_34 : decode cX8_density 34 = .ok (.i2d, 1) := by decide +kernel
theorem dX8_density_35 : decode cX8_density 35 = .ok (.ddiv, 1) := by decide +kernel
theorem dX8_density_36 : decode cX8_density 36 = .ok (.dsub, 1) := by decide +kernel
theorem dX8_density_37 : decode cX8_density 37 = .ok (.dreturn, 1) := by decide +kernel
theorem dX9_init_0 : decode cX9_init 0 = .ok (.aload_n 0, 1) := by decide +kernel
theorem dX9_init_1 : decode cX9_init 1 = .ok (.invokespecial 3, 3) := by decide +kernel
theorem dX9_init_4 : decode cX9_init 4 = .ok (.aload_n 0, 1) := by decide +kernel
theorem dX9_init_5 : decode cX9_init 5 = .ok (.iconst (-1), 1) := by decide +kernel
theorem dX9_init_6 : decode cX9_init 6 = .ok (.putfield 9, 3) := by decide +kernel
theorem dX9_init_9 : decode cX9_init 9 = .ok (.aload_n 0, 1) := by decide +kernel
theorem dX9_init_10 : decode cX9_init 10 = .ok (.iload_n 1, 1) := by decide +kernel
theorem dX9_init_11 : decode cX9_init 11 = .ok (.putfield 15, 3) := by decide +kernel
theorem dX9_init_14 : decode cX9_init 14 = .ok (.aload_n 0, 1) := by decide +kernel
theorem dX9_init_15 : decode cX9_init 15 = .ok (.iload_n 2, 1) := by decide +kernel
theorem dX9_init_16 : decode cX9_init 16 = .ok (.putfield 18, 3) := by decide +kernel
theorem dX9_init_19 : decode cX9_init 19 = .ok (.aload_n 0, 1) := by decide +kernel
theorem dX9_init_20 : decode cX9_init 20 = .ok (.iload_n 3, 1) := by decide +kernel
theorem dX9_init_21 : decode cX9_init 21 = .ok (.putfield 21, 3) := by decide +kernel
theorem dX9_init_24 : decode cX9_init 24 = .ok (.return_, 1) := by decide +kernel
theorem dX10_init_0 : decode cX10_init 0 = .ok (.aload_n 0, 1) := by decide +kernel
theorem dX10_init_1 : decode cX10_init 1 = .ok (.invokespecial 3, 3) := by decide +kernel
theorem dX10_init_4 : decode cX10_init 4 = .ok (.aload_n 0, 1) := by decide +kernel
theorem dX10_init_5 : decode cX10_init 5 = .ok (.bipush 8, 2) := by decide +kernel
theorem dX10_init_7 : decode cX10_init 7 = .ok (.newarray .long, 2) := by decide +kernel
theorem dX10_init_9 : decode cX10_init 9 = .ok (.putfield 9, 3) := by decide +kernel
theorem dX10_init_12 : decode cX10_init 12 = .ok (.return_, 1) := by decide +kernel
theorem dX10_height_0 : decode cX10_height 0 = .ok (.bipush 8, 2) := by decide +kernel
theorem dX10_height_2 : decode cX10_height 2 = .ok (.istore_n 1, 1) := by decide +kernel
theorem dX10_height_3 : decode cX10_height 3 = .ok (.iload_n 1, 1) := by decide +kernel
theorem dX10_height_4 : decode cX10_height 4 = .ok (.ifCond .le 22, 3) := by decide +kernel
theorem dX10_height_7 : decode cX10_height 7 = .ok (.aload_n 0, 1) := by decide +kernel
theorem dX10_height_8 : decode cX10_height 8 = .ok (.getfield 9, 3) := by decide +kernel
theorem dX10_height_11 : decode cX10_height 11 = .ok (.iload_n 1, 1) := by decide +kernel
theorem dX10_height_12 : decode cX10_height 12 = .ok (.iconst 1, 1) := by decide +kernel
theorem dX10_height_13 : decode cX10_height 13 = .ok (.isub, 1) := by decide +kernel
theorem dX10_height_14 : decode cX10_height 14 = .ok (.laload, 1) := by decide +kernel
theorem dX10_height_15 : decode cX10_height 15 = .ok (.lconst 0, 1) := by decide +kernel
theorem dX10_height_16 : decode cX10_height 16 = .ok (.lcmp, 1) := by decide +kernel
theorem dX10_height_17 : decode cX10_height 17 = .ok (.ifCond .ne 9, 3) := by decide +kernel
theorem dX10_height_20 : decode cX10_height 20 = .ok (.iinc 1 (-1), 3) := by decide +kernel
theorem dX10_height_23 : decode cX10_height 23 = .ok (.goto (-20), 3) := by decide +kernel
theorem dX10_height_26 : decode cX10_height 26 = .ok (.iload_n 1, 1) := by decide +kernel
theorem dX10_height_27 : decode cX10_height 27 = .ok (.ireturn, 1) := by decide +kernel
theorem dX10_cells_0 : decode cX10_cells 0 = .ok (.iconst 0, 1) := by decide +kernel
theorem dX10_cells_1 : decode cX10_cells 1 = .ok (.istore_n 1, 1) := by decide +kernel
theorem dX10_cells_2 : decode cX10_cells 2 = .ok (.aload_n 0, 1) := by decide +kernel
theorem dX10_cells_3 : decode cX10_cells 3 = .ok (.getfield 9, 3) := by decide +kernel
theorem dX10_cells_6 : decode cX10_cells 6 = .ok (.astore_n 2, 1) := by decide +kernel
theorem dX10_cells_7 : decode cX10_cells 7 = .ok (.aload_n 2, 1) := by decide +kernel
theorem dX10_cells_8 : decode cX10_cells 8 = .ok (.arraylength, 1) := by decide +kernel
theorem dX10_cells_9 : decode cX10_cells 9 = .ok (.istore_n 3, 1) := by decide +kernel
theorem dX10_cells_10 : decode cX10_cells 10 = .ok (.iconst 0, 1) := by decide +kernel
theorem dX10_cells_11 : decode cX10_cells 11 = .ok (.istore 4, 2) := by decide +kernel
theorem dX10_cells_13 : decode cX10_cells 13 = .ok (.iload 4, 2) := by decide +kernel
theorem dX10_cells_15 : decode cX10_cells 15 = .ok (.iload_n 3, 1) := by decide +kernel
theorem dX10_cells_16 : decode cX10_cells 16 = .ok (.if_icmp .ge 23, 3) := by decide +kernel
theorem dX10_cells_19 : decode cX10_cells 19 = .ok (.aload_n 2, 1) := by decide +kernel
theorem dX10_cells_20 : decode cX10_cells 20 = .ok (.iload 4, 2) := by decide +kernel
theorem dX10_cells_22 : decode cX10_cells 22 = .ok (.laload, 1) := by decide +kernel
theorem dX10_cells_23 : decode cX10_cells 23 = .ok (.lstore 5, 2) := by decide +kernel
theorem dX10_cells_25 : decode cX10_cells 25 = .ok (.iload_n 1, 1) := by decide +kernel
theorem dX10_cells_26 : decode cX10_cells 26 = .ok (.lload 5, 2) := by decide +kernel
theorem dX10_cells_28 : decode cX10_cells 28 = .ok (.invokestatic 15, 3) := by decide +kernel
theorem dX10_cells_31 : decode cX10_cells 31 = .ok (.iadd, 1) := by decide +kernel
theorem dX10_cells_32 : decode cX10_cells 32 = .ok (.istore_n 1, 1) := by decide +kernel
theorem dX10_cells_33 : decode cX10_cells 33 = .ok (.iinc 4 1, 3) := by decide +kernel
theorem dX10_cells_36 : decode cX10_cells 36 = .ok (.goto (-23), 3) := by decide +kernel
theorem dX10_cells_39 : decode cX10_cells 39 = .ok (.iload_n 1, 1) := by decide +kernel
theorem dX10_cells_40 : decode cX10_cells 40 = .ok (.ireturn, 1) := by decide +kernel
theorem dX10_hangs_0 : decode cX10_hangs 0 = .ok (.iload_n 1, 1) := by decide +kernel
theorem dX10_hangs_1 : decode cX10_hangs 1 = .ok (.ifCond .ne 7, 3) := by decide +kernel
theorem dX10_hangs_4 : decode cX10_hangs 4 = .ok (.lconst 0, 1) := by decide +kernel
theorem dX10_hangs_5 : decode cX10_hangs 5 = .ok (.goto 25, 3) := by decide +kernel
theorem dX10_hangs_8 : decode cX10_hangs 8 = .ok (.aload_n 0, 1) := by decide +kernel
theorem dX10_hangs_9 : decode cX10_hangs 9 = .ok (.getfield 9, 3) := by decide +kernel
theorem dX10_hangs_12 : decode cX10_hangs 12 = .ok (.iload_n 1, 1) := by decide +kernel
theorem dX10_hangs_13 : decode cX10_hangs 13 = .ok (.laload, 1) := by decide +kernel
theorem dX10_hangs_14 : decode cX10_hangs 14 = .ok (.aload_n 0, 1) := by decide +kernel
theorem dX10_hangs_15 : decode cX10_hangs 15 = .ok (.getfield 9, 3) := by decide +kernel
theorem dX10_hangs_18 : decode cX10_hangs 18 = .ok (.iload_n 1, 1) := by decide +kernel
theorem dX10_hangs_19 : decode cX10_hangs 19 = .ok (.iconst 1, 1) := by decide +kernel
theorem dX10_hangs_20 : decode cX10_hangs 20 = .ok (.isub, 1) := by decide +kernel
theorem dX10_hangs_21 : decode cX10_hangs 21 = .ok (.laload, 1) := by decide +kernel
theorem dX10_hangs_22 : decode cX10_hangs 22 = .ok (.invokestatic 19, 3) := by decide +kernel
theorem dX10_hangs_25 : decode cX10_hangs 25 = .ok (.ldc2_w 23, 3) := by decide +kernel
theorem dX10_hangs_28 : decode cX10_hangs 28 = .ok (.lxor, 1) := by decide +kernel
theorem dX10_hangs_29 : decode cX10_hangs 29 = .ok (.land, 1) := by decide +kernel
theorem dX10_hangs_30 : decode cX10_hangs 30 = .ok (.lreturn, 1) := by decide +kernel
theorem dX10_hangs__0 : decode cX10_hangs_ 0 = .ok (.iconst 0, 1) := by decide +kernel
theorem dX10_hangs__1 : decode cX10_hangs_ 1 = .ok (.istore_n 1, 1) := by decide +kernel
theorem dX10_hangs__2 : decode cX10_hangs_ 2 = .ok (.iconst 0, 1) := by decide +kernel
theorem dX10_hangs__3 : decode cX10_hangs_ 3 = .ok (.istore_n 2, 1) := by decide +kernel
theorem dX10_hangs__4 : decode cX10_hangs_ 4 = .ok (.iload_n 2, 1) := by decide +kernel
theorem dX10_hangs__5 : decode cX10_hangs_ 5 = .ok (.bipush 8, 2) := by decide +kernel
theorem dX10_hangs__7 : decode cX10_hangs_ 7 = .ok (.if_icmp .ge 20, 3) := by decide +kernel
theorem dX10_hangs__10 : decode cX10_hangs_ 10 = .ok (.iload_n 1, 1) := by decide +kernel
theorem dX10_hangs__11 : decode cX10_hangs_ 11 = .ok (.aload_n 0, 1) := by decide +kernel
theorem dX10_hangs__12 : decode cX10_hangs_ 12 = .ok (.iload_n 2, 1) := by decide +kernel
theorem dX10_hangs__13 : decode cX10_hangs_ 13 = .ok (.invokevirtual 25, 3) := by decide +kernel
theorem dX10_hangs__16 : decode cX10_hangs_ 16 = .ok (.invokestatic 15, 3) := by decide +kernel
theorem dX10_hangs__19 : decode cX10_hangs_ 19 = .ok (.iadd, 1) := by decide +kernel
theorem dX10_hangs__20 : decode cX10_hangs_ 20 = .ok (.istore_n 1, 1) := by decide +kernel
theorem dX10_hangs__21 : decode cX10_hangs_ 21 = .ok (.iinc 2 1, 3) := by decide +kernel
theorem dX10_hangs__24 : decode cX10_hangs_ 24 = .ok (.goto (-20), 3) := by decide +kernel
theorem dX10_hangs__27 : decode cX10_hangs_ 27 = .ok (.iload_n 1, 1) := by decide +kernel
theorem dX10_hangs__28 : decode cX10_hangs_ 28 = .ok (.ireturn, 1) := by decide +kernel
theorem dX10_support_0 : decode cX10_support 0 = .ok (.lconst 0, 1) := by decide +kernel
theorem dX10_support_1 : decode cX10_support 1 = .ok (.lstore_n 2, 1) := by decide +kernel
theorem dX10_support_2 : decode cX10_support 2 = .ok (.bipush 7, 2) := by decide +kernel
theorem dX10_support_4 : decode cX10_support 4 = .ok (.istore 4, 2) := by decide +kernel
theorem dX10_support_6 : decode cX10_support 6 = .ok (.iload 4, 2) := by decide +kernel
theorem dX10_support_8 : decode cX10_support 8 = .ok (.iload_n 1, 1) := by decide +kernel
theorem dX10_support_9 : decode cX10_support 9 = .ok (.if_icmp .le 30, 3) := by decide +kernel
theorem dX10_support_12 : decode cX10_support 12 = .ok (.aload_n 0, 1) := by decide +kernel
theorem dX10_support_13 : decode cX10_support 13 = .ok (.iload 4, 2) := by decide +kernel
theorem dX10_support_15 : decode cX10_support 15 = .ok (.invokevirtual 25, 3) := by decide +kernel
theorem dX10_support_18 : decode cX10_support 18 = .ok (.lload_n 2, 1) := by decide +kernel
theorem dX10_support_19 : decode cX10_support 19 = .ok (.aload_n 0, 1) := by decide +kernel
theorem dX10_support_20 : decode cX10_support 20 = .ok (.getfield 9, 3) := by decide +kernel
theorem dX10_support_23 : decode cX10_support 23 = .ok (.iload 4, 2) := by decide +kernel
theorem dX10_support_25 : decode cX10_support 25 = .ok (.laload, 1) := by decide +kernel
theorem dX10_support_26 : decode cX10_support 26 = .ok (.ldc2_w 23, 3) := by decide +kernel
theorem dX10_support_29 : decode cX10_support 29 = .ok (.lxor, 1) := by decide +kernel
theorem dX10_support_30 : decode cX10_support 30 = .ok (.land, 1) := by decide +kernel
theorem dX10_support_31 : decode cX10_support 31 = .ok (.lor, 1) := by decide +kernel
theorem dX10_support_32 : decode cX10_support 32 = .ok (.lstore_n 2, 1) := by decide +kernel
theorem dX10_support_33 : decode cX10_support 33 = .ok (.iinc 4 (-1), 3) := by decide +kernel
theorem dX10_support_36 : decode cX10_support 36 = .ok (.goto (-30), 3) := by decide +kernel
theorem dX10_support_39 : decode cX10_support 39 = .ok (.lload_n 2, 1) := by decide +kernel
theorem dX10_support_40 : decode cX10_support 40 = .ok (.aload_n 0, 1) := by decide +kernel
theorem dX10_support_41 : decode cX10_support 41 = .ok (.getfield 9, 3) := by decide +kernel
theorem dX10_support_44 : decode cX10_support 44 = .ok (.iload_n 1, 1) := by decide +kernel
theorem dX10_support_45 : decode cX10_support 45 = .ok (.laload, 1) := by decide +kernel
theorem dX10_support_46 : decode cX10_support 46 = .ok (.ldc2_w 23, 3) := by decide +kernel
theorem dX10_support_49 : decode cX10_support 49 = .ok (.lxor, 1) := by decide +kernel
theorem dX10_support_50 : decode cX10_support 50 = .ok (.land, 1) := by decide +kernel
theorem dX10_support_51 : decode cX10_support 51 = .ok (.lreturn, 1) := by decide +kernel
theorem dX10_supports_0 : decode cX10_supports 0 = .ok (.iconst 0, 1) := by decide +kernel
theorem dX10_supports_1 : decode cX10_supports 1 = .ok (.istore_n 1, 1) := by decide +kernel
theorem dX10_supports_2 : decode cX10_supports 2 = .ok (.iconst 0, 1) := by decide +kernel
theorem dX10_supports_3 : decode cX10_supports 3 = .ok (.istore_n 2, 1) := by decide +kernel
theorem dX10_supports_4 : decode cX10_supports 4 = .ok (.iload_n 2, 1) := by decide +kernel
theorem dX10_supports_5 : decode cX10_supports 5 = .ok (.bipush 8, 2) := by decide +kernel
theorem dX10_supports_7 : decode cX10_supports 7 = .ok (.if_icmp .ge 20, 3) := by decide +kernel
theorem dX10_supports_10 : decode cX10_supports 10 = .ok (.iload_n 1, 1) := by decide +kernel
theorem dX10_supports_11 : decode cX10_supports 11 = .ok (.aload_n 0, 1) := by decide +kernel
theorem dX10_supports_12 : decode cX10_supports 12 = .ok (.iload_n 2, 1) := by decide +kernel
theorem dX10_supports_13 : decode cX10_supports 13 = .ok (.invokevirtual 29, 3) := by decide +kernel
theorem dX10_supports_16 : decode cX10_supports 16 = .ok (.invokestatic 15, 3) := by decide +kernel
theorem dX10_supports_19 : decode cX10_supports 19 = .ok (.iadd, 1) := by decide +kernel
theorem dX10_supports_20 : decode cX10_supports 20 = .ok (.istore_n 1, 1) := by decide +kernel
theorem dX10_supports_21 : decode cX10_supports 21 = .ok (.iinc 2 1, 3) := by decide +kernel
theorem dX10_supports_24 : decode cX10_supports 24 = .ok (.goto (-20), 3) := by decide +kernel
theorem dX10_supports_27 : decode cX10_supports 27 = .ok (.iload_n 1, 1) := by decide +kernel
theorem dX10_supports_28 : decode cX10_supports 28 = .ok (.ireturn, 1) := by decide +kernel
theorem dX10_islands_0 : decode cX10_islands 0 = .ok (.iconst 0, 1) := by decide +kernel
theorem dX10_islands_1 : decode cX10_islands 1 = .ok (.istore_n 1, 1) := by decide +kernel
theorem dX10_islands_2 : decode cX10_islands 2 = .ok (.iconst 1, 1) := by decide +kernel
theorem dX10_islands_3 : decode cX10_islands 3 = .ok (.istore_n 2, 1) := by decide +kernel
theorem dX10_islands_4 : decode cX10_islands 4 = .ok (.iload_n 2, 1) := by decide +kernel
theorem dX10_islands_5 : decode cX10_islands 5 = .ok (.bipush 8, 2) := by decide +kernel
theorem dX10_islands_7 : decode cX10_islands 7 = .ok (.if_icmp .ge 97, 3) := by decide +kernel
theorem dX10_islands_10 : decode cX10_islands 10 = .ok (.aload_n 0, 1) := by decide +kernel
theorem dX10_islands_11 : decode cX10_islands 11 = .ok (.getfield 9, 3) := by decide +kernel
theorem dX10_islands_14 : decode cX10_islands 14 = .ok (.iload_n 2, 1) := by decide +kernel
theorem dX10_islands_15 : decode cX10_islands 15 = .ok (.laload, 1) := by decide +kernel
theorem dX10_islands_16 : decode cX10_islands 16 = .ok (.lstore_n 3, 1) := by decide +kernel
theorem dX10_islands_17 : decode cX10_islands 17 = .ok (.lload_n 3, 1) := by decide +kernel
theorem dX10_islands_18 : decode cX10_islands 18 = .ok (.lconst 0, 1) := by decide +kernel
theorem dX10_islands_19 : decode cX10_islands 19 = .ok (.lcmp, 1) := by decide +kernel
theorem dX10_islands_20 : decode cX10_islands 20 = .ok (.ifCond .eq 78, 3) := by decide +kernel
theorem dX10_islands_23 : decode cX10_islands 23 = .ok (.lload_n 3, 1) := by decide +kernel
theorem dX10_islands_24 : decode cX10_islands 24 = .ok (.lload_n 3, 1) := by decide +kernel
theorem dX10_islands_25 : decode cX10_islands 25 = .ok (.lneg, 1) := by decide +kernel
theorem dX10_islands_26 : decode cX10_islands 26 = .ok (.land, 1) := by decide +kernel
theorem dX10_islands_27 : decode cX10_islands 27 = .ok (.lstore 5, 2) := by decide +kernel
theorem dX10_islands_29 : decode cX10_islands 29 = .ok (.lload 5, 2) := by decide +kernel
theorem dX10_islands_31 : decode cX10_islands 31 = .ok (.invokestatic 19, 3) := by decide +kernel
theorem dX10_islands_34 : decode cX10_islands 34 = .ok (.lload_n 3, 1) := by decide +kernel
theorem dX10_islands_35 : decode cX10_islands 35 = .ok (.land, 1) := by decide +kernel
theorem dX10_islands_36 : decode cX10_islands 36 = .ok (.lstore 7, 2) := by decide +kernel
theorem dX10_islands_38 : decode cX10_islands 38 = .ok (.lload 7, 2) := by decide +kernel
theorem dX10_islands_40 : decode cX10_islands 40 = .ok (.lload 5, 2) := by decide +kernel
theorem dX10_islands_42 : decode cX10_islands 42 = .ok (.lcmp, 1) := by decide +kernel
theorem dX10_islands_43 : decode cX10_islands 43 = .ok (.ifCond .eq 19, 3) := by decide +kernel
theorem dX10_islands_46 : decode cX10_islands 46 = .ok (.lload 7, 2) := by decide +kernel
theorem dX10_islands_48 : decode cX10_islands 48 = .ok (.lstore 5, 2) := by decide +kernel
theorem dX10_islands_50 : decode cX10_islands 50 = .ok (.lload 5, 2) := by decide +kernel
theorem dX10_islands_52 : decode cX10_islands 52 = .ok (.invokestatic 19, 3) := by decide +kernel
theorem dX10_islands_55 : decode cX10_islands 55 = .ok (.lload_n 3, 1) := by decide +kernel
theorem dX10_islands_56 : decode cX10_islands 56 = .ok (.land, 1) := by decide +kernel
theorem dX10_islands_57 : decode cX10_islands 57 = .ok (.lstore 7, 2) := by decide +kernel
theorem dX10_islands_59 : decode cX10_islands 59 = .ok (.goto (-21), 3) := by decide +kernel
theorem dX10_islands_62 : decode cX10_islands 62 = .ok (.iload_n 1, 1) := by decide +kernel
theorem dX10_islands_63 : decode cX10_islands 63 = .ok (.lload 5, 2) := by decide +kernel
theorem dX10_islands_65 : decode cX10_islands 65 = .ok (.aload_n 0, 1) := by decide +kernel
theorem dX10_islands_66 : decode cX10_islands 66 = .ok (.getfield 9, 3) := by decide +kernel
theorem dX10_islands_69 : decode cX10_islands 69 = .ok (.iload_n 2, 1) := by decide +kernel
theorem dX10_islands_70 : decode cX10_islands 70 = .ok (.iconst 1, 1) := by decide +kernel
theorem dX10_islands_71 : decode cX10_islands 71 = .ok (.isub, 1) := by decide +kernel
theorem dX10_islands_72 : decode cX10_islands 72 = .ok (.laload, 1) := by decide +kernel
theorem dX10_islands_73 : decode cX10_islands 73 = .ok (.land, 1) := by decide +kernel
theorem dX10_islands_74 : decode cX10_islands 74 = .ok (.lconst 0, 1) := by decide +kernel
theorem dX10_islands_75 : decode cX10_islands 75 = .ok (.lcmp, 1) := by decide +kernel
theorem dX10_islands_76 : decode cX10_islands 76 = .ok (.ifCond .ne 7, 3) := by decide +kernel
theorem dX10_islands_79 : decode cX10_islands 79 = .ok (.iconst 1, 1) := by decide +kernel
theorem dX10_islands_80 : decode cX10_islands 80 = .ok (.goto 4, 3) := by decide +kernel
theorem dX10_islands_83 : decode cX10_islands 83 = .ok (.iconst 0, 1) := by decide +kernel
theorem dX10_islands_84 : decode cX10_islands 84 = .ok (.iadd, 1) := by decide +kernel
theorem dX10_islands_85 : decode cX10_islands 85 = .ok (.istore_n 1, 1) := by decide +kernel
theorem dX10_islands_86 : decode cX10_islands 86 = .ok (.lload_n 3, 1) := by decide +kernel
theorem dX10_islands_87 : decode cX10_islands 87 = .ok (.lload 5, 2) := by decide +kernel
theorem dX10_islands_89 : decode cX10_islands 89 = .ok (.ldc2_w 23, 3) := by decide +kernel
theorem dX10_islands_92 : decode cX10_islands 92 = .ok (.lxor, 1) := by decide +kernel
theorem dX10_islands_93 : decode cX10_islands 93 = .ok (.land, 1) := by decide +kernel
theorem dX10_islands_94 : decode cX10_islands 94 = .ok (.lstore_n 3, 1) := by decide +kernel
theorem dX10_islands_95 : decode cX10_islands 95 = .ok (.goto (-78), 3) := by decide +kernel
theorem dX10_islands_98 : decode cX10_islands 98 = .ok (.iinc 2 1, 3) := by decide +kernel
theorem dX10_islands_101 : decode cX10_islands 101 = .ok (.goto (-97), 3) := by decide +kernel
theorem dX10_islands_104 : decode cX10_islands 104 = .ok (.iload_n 1, 1) := by decide +kernel
theorem dX10_islands_105 : decode cX10_islands 105 = .ok (.ireturn, 1) := by decide +kernel
theorem dX10_laid_0 : decode cX10_laid 0 = .ok (.new 10, 3) := by decide +kernel
theorem dX10_laid_3 : decode cX10_laid 3 = .ok (.dup, 1) := by decide +kernel
theorem dX10_laid_4 : decode cX10_laid 4 = .ok (.invokespecial 32, 3) := by decide +kernel
theorem dX10_laid_7 : decode cX10_laid 7 = .ok (.astore_n 2, 1) := by decide +kernel
theorem dX10_laid_8 : decode cX10_laid 8 = .ok (.iconst 0, 1) := by decide +kernel
theorem dX10_laid_9 : decode cX10_laid 9 = .ok (.istore_n 3, 1) := by decide +kernel
theorem dX10_laid_10 : decode cX10_laid 10 = .ok (.iload_n 3, 1) := by decide +kernel
theorem dX10_laid_11 : decode cX10_laid 11 = .ok (.bipush 8, 2) := by decide +kernel
theorem dX10_laid_13 : decode cX10_laid 13 = .ok (.if_icmp .ge 144, 3) := by decide +kernel
theorem dX10_laid_16 : decode cX10_laid 16 = .ok (.iconst 0, 1) := by decide +kernel
theorem dX10_laid_17 : decode cX10_laid 17 = .ok (.istore 4, 2) := by decide +kernel
theorem dX10_laid_19 : decode cX10_laid 19 = .ok (.iload 4, 2) := by decide +kernel
theorem dX10_laid_21 : decode cX10_laid 21 = .ok (.bipush 64, 2) := by decide +kernel
theorem dX10_laid_23 : decode cX10_laid 23 = .ok (.if_icmp .ge 128, 3) := by decide +kernel
theorem dX10_laid_26 : decode cX10_laid 26 = .ok (.aload_n 0, 1) := by decide +kernel
theorem dX10_laid_27 : decode cX10_laid 27 = .ok (.getfield 9, 3) := by decide +kernel
theorem dX10_laid_30 : decode cX10_laid 30 = .ok (.iload_n 3, 1) := by decide +kernel
theorem dX10_laid_31 : decode cX10_laid 31 = .ok (.laload, 1) := by decide +kernel
theorem dX10_laid_32 : decode cX10_laid 32 = .ok (.iload 4, 2) := by decide +kernel
theorem dX10_laid_34 : decode cX10_laid 34 = .ok (.invokestatic 33, 3) := by decide +kernel
theorem dX10_laid_37 : decode cX10_laid 37 = .ok (.ifCond .ne 6, 3) := by decide +kernel
theorem dX10_laid_40 : decode cX10_laid 40 = .ok (.goto 105, 3) := by decide +kernel
theorem dX10_laid_43 : decode cX10_laid 43 = .ok (.iload 4, 2) := by decide +kernel
theorem dX10_laid_45 : decode cX10_laid 45 = .ok (.bipush 8, 2) := by decide +kernel
theorem dX10_laid_47 : decode cX10_laid 47 = .ok (.irem, 1) := by decide +kernel
theorem dX10_laid_48 : decode cX10_laid 48 = .ok (.istore 5, 2) := by decide +kernel
theorem dX10_laid_50 : decode cX10_laid 50 = .ok (.iload 4, 2) := by decide +kernel
theorem dX10_laid_52 : decode cX10_laid 52 = .ok (.bipush 8, 2) := by decide +kernel
theorem dX10_laid_54 : decode cX10_laid 54 = .ok (.idiv, 1) := by decide +kernel
theorem dX10_laid_55 : decode cX10_laid 55 = .ok (.istore 6, 2) := by decide +kernel
theorem dX10_laid_57 : decode cX10_laid 57 = .ok (.iload_n 1, 1) := by decide +kernel
theorem dX10_laid_58 : decode cX10_laid 58 = .ok (.iconst 2, 1) := by decide +kernel
theorem dX10_laid_59 : decode cX10_laid 59 = .ok (.if_icmp .ge 7, 3) := by decide +kernel
theorem dX10_laid_62 : decode cX10_laid 62 = .ok (.iload_n 3, 1) := by decide +kernel
theorem dX10_laid_63 : decode cX10_laid 63 = .ok (.goto 15, 3) := by decide +kernel
theorem dX10_laid_66 : decode cX10_laid 66 = .ok (.iload_n 1, 1) := by decide +kernel
theorem dX10_laid_67 : decode cX10_laid 67 = .ok (.iconst 4, 1) := by decide +kernel
theorem dX10_laid_68 : decode cX10_laid 68 = .ok (.if_icmp .ge 8, 3) := by decide +kernel
theorem dX10_laid_71 : decode cX10_laid 71 = .ok (.iload 5, 2) := by decide +kernel
theorem dX10_laid_73 : decode cX10_laid 73 = .ok (.goto 5, 3) := by decide +kernel
theorem dX10_laid_76 : decode cX10_laid 76 = .ok (.iload 6, 2) := by decide +kernel
theorem dX10_laid_78 : decode cX10_laid 78 = .ok (.istore 7, 2) := by decide +kernel
theorem dX10_laid_80 : decode cX10_laid 80 = .ok (.iload_n 1, 1) := by decide +kernel
theorem dX10_laid_81 : decode cX10_laid 81 = .ok (.iconst 2, 1) := by decide +kernel
theorem dX10_laid_82 : decode cX10_laid 82 = .ok (.if_icmp .eq 8, 3) := by decide +kernel
theorem dX10_laid_85 : decode cX10_laid 85 = .ok (.iload_n 1, 1) := by decide +kernel
theorem dX10_laid_86 : decode cX10_laid 86 = .ok (.iconst 3, 1) := by decide +kernel
theorem dX10_laid_87 : decode cX10_laid 87 = .ok (.if_icmp .ne 7, 3) := by decide +kernel
theorem dX10_laid_90 : decode cX10_laid 90 = .ok (.iload_n 3, 1) := by decide +kernel
theorem dX10_laid_91 : decode cX10_laid 91 = .ok (.goto 5, 3) := by decide +kernel
theorem dX10_laid_94 : decode cX10_laid 94 = .ok (.iload 5, 2) := by decide +kernel
theorem dX10_laid_96 : decode cX10_laid 96 = .ok (.istore 8, 2) := by decide +kernel
theorem dX10_laid_98 : decode cX10_laid 98 = .ok (.iload_n 1, 1) := by decide +kernel
theorem dX10_laid_99 : decode cX10_laid 99 = .ok (.iconst 3, 1) := by decide +kernel
theorem dX10_laid_100 : decode cX10_laid 100 = .ok (.if_icmp .le 7, 3) := by decide +kernel
theorem dX10_laid_103 : decode cX10_laid 103 = .ok (.iload_n 3, 1) := by decide +kernel
theorem dX10_laid_104 : decode cX10_laid 104 = .ok (.goto 5, 3) := by decide +kernel
theorem dX10_laid_107 : decode cX10_laid 107 = .ok (.iload 6, 2) := by decide +kernel
theorem dX10_laid_109 : decode cX10_laid 109 = .ok (.istore 9, 2) := by decide +kernel
theorem dX10_laid_111 : decode cX10_laid 111 = .ok (.aload_n 2, 1) := by decide +kernel
theorem dX10_laid_112 : decode cX10_laid 112 = .ok (.getfield 9, 3) := by decide +kernel
theorem dX10_laid_115 : decode cX10_laid 115 = .ok (.iload_n 1, 1) := by decide +kernel
theorem dX10_laid_116 : decode cX10_laid 116 = .ok (.iconst 2, 1) := by decide +kernel
theorem dX10_laid_117 : decode cX10_laid 117 = .ok (.irem, 1) := by decide +kernel
theorem dX10_laid_118 : decode cX10_laid 118 = .ok (.ifCond .ne 8, 3) := by decide +kernel
theorem dX10_laid_121 : decode cX10_laid 121 = .ok (.iload 7, 2) := by decide +kernel
theorem dX10_laid_123 : decode cX10_laid 123 = .ok (.goto 8, 3) := by decide +kernel
theorem dX10_laid_126 : decode cX10_laid 126 = .ok (.bipush 7, 2) := by decide +kernel
theorem dX10_laid_128 : decode cX10_laid 128 = .ok (.iload 7, 2) := by decide +kernel
theorem dX10_laid_130 : decode cX10_laid 130 = .ok (.isub, 1) := by decide +kernel
theorem dX10_laid_131 : decode cX10_laid 131 = .ok (.dup2, 1) := by decide +kernel
theorem dX10_laid_132 : decode cX10_laid 132 = .ok (.laload, 1) := by decide +kernel
theorem dX10_laid_133 : decode cX10_laid 133 = .ok (.lconst 1, 1) := by decide +kernel
theorem dX10_laid_134 : decode cX10_laid 134 = .ok (.iload 8, 2) := by decide +kernel
theorem dX10_laid_136 : decode cX10_laid 136 = .ok (.bipush 8, 2) := by decide +kernel
theorem dX10_laid_138 : decode cX10_laid 138 = .ok (.iload 9, 2) := by decide +kernel
theorem dX10_laid_140 : decode cX10_laid 140 = .ok (.imul, 1) := by decide +kernel
theorem dX10_laid_141 : decode cX10_laid 141 = .ok (.iadd, 1) := by decide +kernel
theorem dX10_laid_142 : decode cX10_laid 142 = .ok (.lshl, 1) := by decide +kernel
theorem dX10_laid_143 : decode cX10_laid 143 = .ok (.lor, 1) := by decide +kernel
theorem dX10_laid_144 : decode cX10_laid 144 = .ok (.lastore, 1) := by decide +kernel
theorem dX10_laid_145 : decode cX10_laid 145 = .ok (.iinc 4 1, 3) := by decide +kernel
theorem dX10_laid_148 : decode cX10_laid 148 = .ok (.goto (-129), 3) := by decide +kernel
theorem dX10_laid_151 : decode cX10_laid 151 = .ok (.iinc 3 1, 3) := by decide +kernel
theorem dX10_laid_154 : decode cX10_laid 154 = .ok (.goto (-144), 3) := by decide +kernel
theorem dX10_laid_157 : decode cX10_laid 157 = .ok (.aload_n 2, 1) := by decide +kernel
theorem dX10_laid_158 : decode cX10_laid 158 = .ok (.invokevirtual 37, 3) := by decide +kernel
theorem dX10_laid_161 : decode cX10_laid 161 = .ok (.ifCond .le 40, 3) := by decide +kernel
theorem dX10_laid_164 : decode cX10_laid 164 = .ok (.aload_n 2, 1) := by decide +kernel
theorem dX10_laid_165 : decode cX10_laid 165 = .ok (.getfield 9, 3) := by decide +kernel
theorem dX10_laid_168 : decode cX10_laid 168 = .ok (.iconst 0, 1) := by decide +kernel
theorem dX10_laid_169 : decode cX10_laid 169 = .ok (.laload, 1) := by decide +kernel
theorem dX10_laid_170 : decode cX10_laid 170 = .ok (.lconst 0, 1) := by decide +kernel
theorem dX10_laid_171 : decode cX10_laid 171 = .ok (.lcmp, 1) := by decide +kernel
theorem dX10_laid_172 : decode cX10_laid 172 = .ok (.ifCond .ne 29, 3) := by decide +kernel
theorem dX10_laid_175 : decode cX10_laid 175 = .ok (.aload_n 2, 1) := by decide +kernel
theorem dX10_laid_176 : decode cX10_laid 176 = .ok (.getfield 9, 3) := by decide +kernel
theorem dX10_laid_179 : decode cX10_laid 179 = .ok (.iconst 1, 1) := by decide +kernel
theorem dX10_laid_180 : decode cX10_laid 180 = .ok (.aload_n 2, 1) := by decide +kernel
theorem dX10_laid_181 : decode cX10_laid 181 = .ok (.getfield 9, 3) := by decide +kernel
theorem dX10_laid_184 : decode cX10_laid 184 = .ok (.iconst 0, 1) := by decide +kernel
theorem dX10_laid_185 : decode cX10_laid 185 = .ok (.bipush 7, 2) := by decide +kernel
theorem dX10_laid_187 : decode cX10_laid 187 = .ok (.invokestatic 41, 3) := by decide +kernel
theorem dX10_laid_190 : decode cX10_laid 190 = .ok (.aload_n 2, 1) := by decide +kernel
theorem dX10_laid_191 : decode cX10_laid 191 = .ok (.getfield 9, 3) := by decide +kernel
theorem dX10_laid_194 : decode cX10_laid 194 = .ok (.bipush 7, 2) := by decide +kernel
theorem dX10_laid_196 : decode cX10_laid 196 = .ok (.lconst 0, 1) := by decide +kernel
theorem dX10_laid_197 : decode cX10_laid 197 = .ok (.lastore, 1) := by decide +kernel
theorem dX10_laid_198 : decode cX10_laid 198 = .ok (.goto (-41), 3) := by decide +kernel
theorem dX10_laid_201 : decode cX10_laid 201 = .ok (.aload_n 2, 1) := by decide +kernel
theorem dX10_laid_202 : decode cX10_laid 202 = .ok (.areturn, 1) := by decide +kernel
theorem dX11_init_0 : decode cX11_init 0 = .ok (.aload_n 0, 1) := by decide +kernel
theorem dX11_init_1 : decode cX11_init 1 = .ok (.invokespecial 1, 3) := by decide +kernel
theorem dX11_init_4 : decode cX11_init 4 = .ok (.aload_n 0, 1) := by decide +kernel
theorem dX11_init_5 : decode cX11_init 5 = .ok (.new 7, 3) := by decide +kernel
theorem dX11_init_8 : decode cX11_init 8 = .ok (.dup, 1) := by decide +kernel
theorem dX11_init_9 : decode cX11_init 9 = .ok (.invokespecial 9, 3) := by decide +kernel
theorem dX11_init_12 : decode cX11_init 12 = .ok (.putfield 10, 3) := by decide +kernel
theorem dX11_init_15 : decode cX11_init 15 = .ok (.aload_n 0, 1) := by decide +kernel
theorem dX11_init_16 : decode cX11_init 16 = .ok (.new 7, 3) := by decide +kernel
theorem dX11_init_19 : decode cX11_init 19 = .ok (.dup, 1) := by decide +kernel
theorem dX11_init_20 : decode cX11_init 20 = .ok (.invokespecial 9, 3) := by decide +kernel
theorem dX11_init_23 : decode cX11_init 23 = .ok (.putfield 16, 3) := by decide +kernel
theorem dX11_init_26 : decode cX11_init 26 = .ok (.aload_n 0, 1) := by decide +kernel
theorem dX11_init_27 : decode cX11_init 27 = .ok (.iconst 2, 1) := by decide +kernel
theorem dX11_init_28 : decode cX11_init 28 = .ok (.anewarray 19, 3) := by decide +kernel
theorem dX11_init_31 : decode cX11_init 31 = .ok (.dup, 1) := by decide +kernel
theorem dX11_init_32 : decode cX11_init 32 = .ok (.iconst 0, 1) := by decide +kernel
theorem dX11_init_33 : decode cX11_init 33 = .ok (.new 19, 3) := by decide +kernel
theorem dX11_init_36 : decode cX11_init 36 = .ok (.dup, 1) := by decide +kernel
theorem dX11_init_37 : decode cX11_init 37 = .ok (.invokespecial 21, 3) := by decide +kernel
theorem dX11_init_40 : decode cX11_init 40 = .ok (.aastore, 1) := by decide +kernel
theorem dX11_init_41 : decode cX11_init 41 = .ok (.dup, 1) := by decide +kernel
theorem dX11_init_42 : decode cX11_init 42 = .ok (.iconst 1, 1) := by decide +kernel
theorem dX11_init_43 : decode cX11_init 43 = .ok (.new 19, 3) := by decide +kernel
theorem dX11_init_46 : decode cX11_init 46 = .ok (.dup, 1) := by decide +kernel
theorem dX11_init_47 : decode cX11_init 47 = .ok (.invokespecial 21, 3) := by decide +kernel
theorem dX11_init_50 : decode cX11_init 50 = .ok (.aastore, 1) := by decide +kernel
theorem dX11_init_51 : decode cX11_init 51 = .ok (.putfield 22, 3) := by decide +kernel
theorem dX11_init_54 : decode cX11_init 54 = .ok (.return_, 1) := by decide +kernel
theorem dX11_thrown_0 : decode cX11_thrown 0 = .ok (.aload_n 0, 1) := by decide +kernel
theorem dX11_thrown_1 : decode cX11_thrown 1 = .ok (.getfield 26, 3) := by decide +kernel
theorem dX11_thrown_4 : decode cX11_thrown 4 = .ok (.ireturn, 1) := by decide +kernel
theorem dX11_no_0 : decode cX11_no 0 = .ok (.aload_n 0, 1) := by decide +kernel
theorem dX11_no_1 : decode cX11_no 1 = .ok (.iload_n 1, 1) := by decide +kernel
theorem dX11_no_2 : decode cX11_no 2 = .ok (.putfield 26, 3) := by decide +kernel
theorem dX11_no_5 : decode cX11_no 5 = .ok (.iconst 0, 1) := by decide +kernel
theorem dX11_no_6 : decode cX11_no 6 = .ok (.ireturn, 1) := by decide +kernel
theorem dX11_in_0 : decode cX11_in 0 = .ok (.iload_n 0, 1) := by decide +kernel
theorem dX11_in_1 : decode cX11_in 1 = .ok (.iload_n 1, 1) := by decide +kernel
theorem dX11_in_2 : decode cX11_in 2 = .ok (.if_icmp .lt 12, 3) := by decide +kernel
theorem dX11_in_5 : decode cX11_in 5 = .ok (.iload_n 0, 1) := by decide +kernel
theorem dX11_in_6 : decode cX11_in 6 = .ok (.iload_n 2, 1) := by decide +kernel
theorem dX11_in_7 : decode cX11_in 7 = .ok (.if_icmp .gt 7, 3) := by decide +kernel
theorem dX11_in_10 : decode cX11_in 10 = .ok (.iconst 1, 1) := by decide +kernel
theorem dX11_in_11 : decode cX11_in 11 = .ok (.goto 4, 3) := by decide +kernel
theorem dX11_in_14 : decode cX11_in 14 = .ok (.iconst 0, 1) := by decide +kernel
theorem dX11_in_15 : decode cX11_in 15 = .ok (.ireturn, 1) := by decide +kernel
theorem dX11_has_0 : decode cX11_has 0 = .ok (.lload_n 0, 1) := by decide +kernel
theorem dX11_has_1 : decode cX11_has 1 = .ok (.iload_n 2, 1) := by decide +kernel
theorem dX11_has_2 : decode cX11_has 2 = .ok (.lushr, 1) := by decide +kernel
theorem dX11_has_3 : decode cX11_has 3 = .ok (.lconst 1, 1) := by decide +kernel
theorem dX11_has_4 : decode cX11_has 4 = .ok (.land, 1) := by decide +kernel
theorem dX11_has_5 : decode cX11_has 5 = .ok (.lconst 1, 1) := by decide +kernel
theorem dX11_has_6 : decode cX11_has 6 = .ok (.lcmp, 1) := by decide +kernel
theorem dX11_has_7 : decode cX11_has 7 = .ok (.ifCond .ne 7, 3) := by decide +kernel
theorem dX11_has_10 : decode cX11_has 10 = .ok (.iconst 1, 1) := by decide +kernel
theorem dX11_has_11 : decode cX11_has 11 = .ok (.goto 4, 3) := by decide +kernel
theorem dX11_has_14 : decode cX11_has 14 = .ok (.iconst 0, 1) := by decide +kernel
theorem dX11_has_15 : decode cX11_has 15 = .ok (.ireturn, 1) := by decide +kernel
theorem dX11_size_0 : decode cX11_size 0 = .ok (.iconst 0, 1) := by decide +kernel
theorem dX11_size_1 : decode cX11_size 1 = .ok (.istore_n 2, 1) := by decide +kernel
theorem dX11_size_2 : decode cX11_size 2 = .ok (.iconst 0, 1) := by decide +kernel
theorem dX11_size_3 : decode cX11_size 3 = .ok (.istore_n 3, 1) := by decide +kernel
theorem dX11_size_4 : decode cX11_size 4 = .ok (.iload_n 3, 1) := by decide +kernel
theorem dX11_size_5 : decode cX11_size 5 = .ok (.bipush 64, 2) := by decide +kernel
theorem dX11_size_7 : decode cX11_size 7 = .ok (.if_icmp .ge 25, 3) := by decide +kernel
theorem dX11_size_10 : decode cX11_size 10 = .ok (.iload_n 2, 1) := by decide +kernel
theorem dX11_size_11 : decode cX11_size 11 = .ok (.lload_n 0, 1) := by decide +kernel
theorem dX11_size_12 : decode cX11_size 12 = .ok (.iload_n 3, 1) := by decide +kernel
theorem dX11_size_13 : decode cX11_size 13 = .ok (.invokestatic 30, 3) := by decide +kernel
theorem dX11_size_16 : decode cX11_size 16 = .ok (.ifCond .eq 7, 3) := by decide +kernel
theorem dX11_size_19 : decode cX11_size 19 = .ok (.iconst 1, 1) := by decide +kernel
theorem dX11_size_20 : decode cX11_size 20 = .ok (.goto 4, 3) := by decide +kernel
theorem dX11_size_23 : decode cX11_size 23 = .ok (.iconst 0, 1) := by decide +kernel
theorem dX11_size_24 : decode cX11_size 24 = .ok (.iadd, 1) := by decide +kernel
theorem dX11_size_25 : decode cX11_size 25 = .ok (.istore_n 2, 1) := by decide +kernel
theorem dX11_size_26 : decode cX11_size 26 = .ok (.iinc 3 1, 3) := by decide +kernel
theorem dX11_size_29 : decode cX11_size 29 = .ok (.goto (-25), 3) := by decide +kernel
theorem dX11_size_32 : decode cX11_size 32 = .ok (.iload_n 2, 1) := by decide +kernel
theorem dX11_size_33 : decode cX11_size 33 = .ok (.ireturn, 1) := by decide +kernel
theorem dX11_grown_0 : decode cX11_grown 0 = .ok (.lload_n 0, 1) := by decide +kernel
theorem dX11_grown_1 : decode cX11_grown 1 = .ok (.lload_n 0, 1) := by decide +kernel
theorem dX11_grown_2 : decode cX11_grown 2 = .ok (.bipush 8, 2) := by decide +kernel
theorem dX11_grown_4 : decode cX11_grown 4 = .ok (.lshl, 1) := by decide +kernel
theorem dX11_grown_5 : decode cX11_grown 5 = .ok (.lor, 1) := by decide +kernel
theorem dX11_grown_6 : decode cX11_grown 6 = .ok (.lload_n 0, 1) := by decide +kernel
theorem dX11_grown_7 : decode cX11_grown 7 = .ok (.bipush 8, 2) := by decide +kernel
theorem dX11_grown_9 : decode cX11_grown 9 = .ok (.lushr, 1) := by decide +kernel
theorem dX11_grown_10 : decode cX11_grown 10 = .ok (.lor, 1) := by decide +kernel
theorem dX11_grown_11 : decode cX11_grown 11 = .ok (.lstore_n 2, 1) := by decide +kernel
theorem dX11_grown_12 : decode cX11_grown 12 = .ok (.iconst 0, 1) := by decide +kernel
theorem dX11_grown_13 : decode cX11_grown 13 = .ok (.istore 4, 2) := by decide +kernel
theorem dX11_grown_15 : decode cX11_grown 15 = .ok (.iload 4, 2) := by decide +kernel
theorem dX11_grown_17 : decode cX11_grown 17 = .ok (.bipush 64, 2) := by decide +kernel
theorem dX11_grown_19 : decode cX11_grown 19 = .ok (.if_icmp .ge 57, 3) := by decide +kernel
theorem dX11_grown_22 : decode cX11_grown 22 = .ok (.lload_n 0, 1) := by decide +kernel
theorem dX11_grown_23 : decode cX11_grown 23 = .ok (.iload 4, 2) := by decide +kernel
theorem dX11_grown_25 : decode cX11_grown 25 = .ok (.invokestatic 30, 3) := by decide +kernel
theorem dX11_grown_28 : decode cX11_grown 28 = .ok (.ifCond .ne 6, 3) := by decide +kernel
theorem dX11_grown_31 : decode cX11_grown 31 = .ok (.goto 39, 3) := by decide +kernel
theorem dX11_grown_34 : decode cX11_grown 34 = .ok (.iload 4, 2) := by decide +kernel
theorem dX11_grown_36 : decode cX11_grown 36 = .ok (.bipush 8, 2) := by decide +kernel
theorem dX11_grown_38 : decode cX11_grown 38 = .ok (.irem, 1) := by decide +kernel
theorem dX11_grown_39 : decode cX11_grown 39 = .ok (.ifCond .le 12, 3) := by decide +kernel
theorem dX11_grown_42 : decode cX11_grown 42 = .ok (.lload_n 2, 1) := by decide +kernel
theorem dX11_grown_43 : decode cX11_grown 43 = .ok (.lconst 1, 1) := by decide +kernel
theorem dX11_grown_44 : decode cX11_grown 44 = .ok (.iload 4, 2) := by decide +kernel
theorem dX11_grown_46 : decode cX11_grown 46 = .ok (.iconst 1, 1) := by decide +kernel
theorem dX11_grown_47 : decode cX11_grown 47 = .ok (.isub, 1) := by decide +kernel
theorem dX11_grown_48 : decode cX11_grown 48 = .ok (.lshl, 1) := by decide +kernel
theorem dX11_grown_49 : decode cX11_grown 49 = .ok (.lor, 1) := by decide +kernel
theorem dX11_grown_50 : decode cX11_grown 50 = .ok (.lstore_n 2, 1) := by decide +kernel
theorem dX11_grown_51 : decode cX11_grown 51 = .ok (.iload 4, 2) := by decide +kernel
theorem dX11_grown_53 : decode cX11_grown 53 = .ok (.bipush 8, 2) := by decide +kernel
theorem dX11_grown_55 : decode cX11_grown 55 = .ok (.irem, 1) := by decide +kernel
theorem dX11_grown_56 : decode cX11_grown 56 = .ok (.bipush 7, 2) := by decide +kernel
theorem dX11_grown_58 : decode cX11_grown 58 = .ok (.if_icmp .ge 12, 3) := by decide +kernel
theorem dX11_grown_61 : decode cX11_grown 61 = .ok (.lload_n 2, 1) := by decide +kernel
theorem dX11_grown_62 : decode cX11_grown 62 = .ok (.lconst 1, 1) := by decide +kernel
theorem dX11_grown_63 : decode cX11_grown 63 = .ok (.iload 4, 2) := by decide +kernel
theorem dX11_grown_65 : decode cX11_grown 65 = .ok (.iconst 1, 1) := by decide +kernel
theorem dX11_grown_66 : decode cX11_grown 66 = .ok (.iadd, 1) := by decide +kernel
theorem dX11_grown_67 : decode cX11_grown 67 = .ok (.lshl, 1) := by decide +kernel
theorem dX11_grown_68 : decode cX11_grown 68 = .ok (.lor, 1) := by decide +kernel
theorem dX11_grown_69 : decode cX11_grown 69 = .ok (.lstore_n 2, 1) := by decide +kernel
theorem dX11_grown_70 : decode cX11_grown 70 = .ok (.iinc 4 1, 3) := by decide +kernel
theorem dX11_grown_73 : decode cX11_grown 73 = .ok (.goto (-58), 3) := by decide +kernel
theorem dX11_grown_76 : decode cX11_grown 76 = .ok (.lload_n 2, 1) := by decide +kernel
theorem dX11_grown_77 : decode cX11_grown 77 = .ok (.lreturn, 1) := by decide +kernel
theorem dX11_isPiece_0 : decode cX11_isPiece 0 = .ok (.iload_n 1, 1) := by decide +kernel
theorem dX11_isPiece_1 : decode cX11_isPiece 1 = .ok (.iconst 0, 1) := by decide +kernel
theorem dX11_isPiece_2 : decode cX11_isPiece 2 = .ok (.aload_n 0, 1) := by decide +kernel
theorem dX11_isPiece_3 : decode cX11_isPiece 3 = .ok (.getfield 10, 3) := by decide +kernel
theorem dX11_isPiece_6 : decode cX11_isPiece 6 = .ok (.invokeinterface 34 1, 5) := by decide +kernel
theorem dX11_isPiece_11 : decode cX11_isPiece 11 = .ok (.iconst 1, 1) := by decide +kernel
theorem dX11_isPiece_12 : decode cX11_isPiece 12 = .ok (.isub, 1) := by decide +kernel
theorem dX11_isPiece_13 : decode cX11_isPiece 13 = .ok (.invokestatic 40, 3) := by decide +kernel
theorem dX11_isPiece_16 : decode cX11_isPiece 16 = .ok (.ireturn, 1) := by decide +kernel
theorem dX11_isPowder_0 : decode cX11_isPowder 0 = .ok (.iload_n 1, 1) := by decide +kernel
theorem dX11_isPowder_1 : decode cX11_isPowder 1 = .ok (.iconst 0, 1) := by decide +kernel
theorem dX11_isPowder_2 : decode cX11_isPowder 2 = .ok (.aload_n 0, 1) := by decide +kernel
theorem dX11_isPowder_3 : decode cX11_isPowder 3 = .ok (.getfield 16, 3) := by decide +kernel
theorem dX11_isPowder_6 : decode cX11_isPowder 6 = .ok (.invokeinterface 34 1, 5) := by decide +kernel
theorem dX11_isPowder_11 : decode cX11_isPowder 11 = .ok (.iconst 1, 1) := by decide +kernel
theorem dX11_isPowder_12 : decode cX11_isPowder 12 = .ok (.isub, 1) := by decide +kernel
theorem dX11_isPowder_13 : decode cX11_isPowder 13 = .ok (.invokestatic 40, 3) := by decide +kernel
theorem dX11_isPowder_16 : decode cX11_isPowder 16 = .ok (.ireturn, 1) := by decide +kernel
theorem dX11_isMachine_0 : decode cX11_isMachine 0 = .ok (.iload_n 0, 1) := by decide +kernel
theorem dX11_isMachine_1 : decode cX11_isMachine 1 = .ok (.iconst 0, 1) := by decide +kernel
theorem dX11_isMachine_2 : decode cX11_isMachine 2 = .ok (.iconst 1, 1) := by decide +kernel
theorem dX11_isMachine_3 : decode cX11_isMachine 3 = .ok (.invokestatic 40, 3) := by decide +kernel
theorem dX11_isMachine_6 : decode cX11_isMachine 6 = .ok (.ireturn, 1) := by decide +kernel
theorem dX11_piece_0 : decode cX11_piece 0 = .ok (.aload_n 0, 1) := by decide +kernel
theorem dX11_piece_1 : decode cX11_piece 1 = .ok (.iconst 0, 1) := by decide +kernel
theorem dX11_piece_2 : decode cX11_piece 2 = .ok (.putfield 26, 3) := by decide +kernel
theorem dX11_piece_5 : decode cX11_piece 5 = .ok (.aload_n 0, 1) := by decide +kernel
theorem dX11_piece_6 : decode cX11_piece 6 = .ok (.getfield 10, 3) := by decide +kernel
theorem dX11_piece_9 : decode cX11_piece 9 = .ok (.invokeinterface 34 1, 5) := by decide +kernel
theorem dX11_piece_14 : decode cX11_piece 14 = .ok (.iconst 4, 1) := by decide +kernel
theorem dX11_piece_15 : decode cX11_piece 15 = .ok (.if_icmp .ne 9, 3) := by decide +kernel
theorem dX11_piece_18 : decode cX11_piece 18 = .ok (.aload_n 0, 1) := by decide +kernel
theorem dX11_piece_19 : decode cX11_piece 19 = .ok (.iconst 1, 1) := by decide +kernel
theorem dX11_piece_20 : decode cX11_piece 20 = .ok (.invokevirtual 44, 3) := by decide +kernel
theorem dX11_piece_23 : decode cX11_piece 23 = .ok (.ireturn, 1) := by decide +kernel
theorem dX11_piece_24 : decode cX11_piece 24 = .ok (.aload_n 0, 1) := by decide +kernel
theorem dX11_piece_25 : decode cX11_piece 25 = .ok (.getfield 10, 3) := by decide +kernel
theorem dX11_piece_28 : decode cX11_piece 28 = .ok (.new 48, 3) := by decide +kernel
theorem dX11_piece_31 : decode cX11_piece 31 = .ok (.dup, 1) := by decide +kernel
theorem dX11_piece_32 : decode cX11_piece 32 = .ok (.invokespecial 50, 3) := by decide +kernel
theorem dX11_piece_35 : decode cX11_piece 35 = .ok (.invokeinterface 51 2, 5) := by decide +kernel
theorem dX11_piece_40 : decode cX11_piece 40 = .ok (.pop, 1) := by decide +kernel
theorem dX11_piece_41 : decode cX11_piece 41 = .ok (.aload_n 0, 1) := by decide +kernel
theorem dX11_piece_42 : decode cX11_piece 42 = .ok (.getfield 10, 3) := by decide +kernel
theorem dX11_piece_45 : decode cX11_piece 45 = .ok (.invokeinterface 34 1, 5) := by decide +kernel
theorem dX11_piece_50 : decode cX11_piece 50 = .ok (.iconst 1, 1) := by decide +kernel
theorem dX11_piece_51 : decode cX11_piece 51 = .ok (.isub, 1) := by decide +kernel
theorem dX11_piece_52 : decode cX11_piece 52 = .ok (.ireturn, 1) := by decide +kernel
theorem dX11_layer_0 : decode cX11_layer 0 = .ok (.aload_n 0, 1) := by decide +kernel
theorem dX11_layer_1 : decode cX11_layer 1 = .ok (.iconst 0, 1) := by decide +kernel
theorem dX11_layer_2 : decode cX11_layer 2 = .ok (.putfield 26, 3) := by decide +kernel
theorem dX11_layer_5 : decode cX11_layer 5 = .ok (.aload_n 0, 1) := by decide +kernel
theorem dX11_layer_6 : decode cX11_layer 6 = .ok (.iload_n 1, 1) := by decide +kernel
theorem dX11_layer_7 : decode cX11_layer 7 = .ok (.invokevirtual 55, 3) := by decide +kernel
theorem dX11_layer_10 : decode cX11_layer 10 = .ok (.ifCond .eq 13, 3) := by decide +kernel
theorem dX11_layer_13 : decode cX11_layer 13 = .ok (.iload_n 2, 1) := by decide +kernel
theorem dX11_layer_14 : decode cX11_layer 14 = .ok (.iconst 0, 1) := by decide +kernel
theorem dX11_layer_15 : decode cX11_layer 15 = .ok (.bipush 7, 2) := by decide +kernel
theorem dX11_layer_17 : decode cX11_layer 17 = .ok (.invokestatic 40, 3) := by decide +kernel
theorem dX11_layer_20 : decode cX11_layer 20 = .ok (.ifCond .ne 9, 3) := by decide +kernel
theorem dX11_layer_23 : decode cX11_layer 23 = .ok (.aload_n 0, 1) := by decide +kernel
theorem dX11_layer_24 : decode cX11_layer 24 = .ok (.iconst 1, 1) := by decide +kernel
theorem dX11_layer_25 : decode cX11_layer 25 = .ok (.invokevirtual 44, 3) := by decide +kernel
theorem dX11_layer_28 : decode cX11_layer 28 = .ok (.ireturn, 1) := by decide +kernel
theorem dX11_layer_29 : decode cX11_layer 29 = .ok (.aload_n 0, 1) := by decide +kernel
theorem dX11_layer_30 : decode cX11_layer 30 = .ok (.getfield 10, 3) := by decide +kernel
theorem dX11_layer_33 : decode cX11_layer 33 = .ok (.iload_n 1, 1) := by decide +kernel
theorem dX11_layer_34 : decode cX11_layer 34 = .ok (.invokeinterface 59 2, 5) := by decide +kernel
theorem dX11_layer_39 : decode cX11_layer 39 = .ok (.checkcast 48, 3) := by decide +kernel
theorem dX11_layer_42 : decode cX11_layer 42 = .ok (.getfield 63, 3) := by decide +kernel
theorem dX11_layer_45 : decode cX11_layer 45 = .ok (.ifCond .eq 9, 3) := by decide +kernel
theorem dX11_layer_48 : decode cX11_layer 48 = .ok (.aload_n 0, 1) := by decide +kernel
theorem dX11_layer_49 : decode cX11_layer 49 = .ok (.iconst 2, 1) := by decide +kernel
theorem dX11_layer_50 : decode cX11_layer 50 = .ok (.invokevirtual 44, 3) := by decide +kernel
theorem dX11_layer_53 : decode cX11_layer 53 = .ok (.ireturn, 1) := by decide +kernel
theorem dX11_layer_54 : decode cX11_layer 54 = .ok (.aload_n 0, 1) := by decide +kernel
theorem dX11_layer_55 : decode cX11_layer 55 = .ok (.getfield 10, 3) := by decide +kernel
theorem dX11_layer_58 : decode cX11_layer 58 = .ok (.iload_n 1, 1) := by decide +kernel
theorem dX11_layer_59 : decode cX11_layer 59 = .ok (.invokeinterface 59 2, 5) := by decide +kernel
theorem dX11_layer_64 : decode cX11_layer 64 = .ok (.checkcast 48, 3) := by decide +kernel
theorem dX11_layer_67 : decode cX11_layer 67 = .ok (.getfield 66, 3) := by decide +kernel
theorem dX11_layer_70 : decode cX11_layer 70 = .ok (.getfield 70, 3) := by decide +kernel
theorem dX11_layer_73 : decode cX11_layer 73 = .ok (.iload_n 2, 1) := by decide +kernel
theorem dX11_layer_74 : decode cX11_layer 74 = .ok (.lload_n 3, 1) := by decide +kernel
theorem dX11_layer_75 : decode cX11_layer 75 = .ok (.lastore, 1) := by decide +kernel
theorem dX11_layer_76 : decode cX11_layer 76 = .ok (.lload_n 3, 1) := by decide +kernel
theorem dX11_layer_77 : decode cX11_layer 77 = .ok (.invokestatic 76, 3) := by decide +kernel
theorem dX11_layer_80 : decode cX11_layer 80 = .ok (.ireturn, 1) := by decide +kernel
theorem dX11_lay_0 : decode cX11_lay 0 = .ok (.aload_n 0, 1) := by decide +kernel
theorem dX11_lay_1 : decode cX11_lay 1 = .ok (.iconst 0, 1) := by decide +kernel
theorem dX11_lay_2 : decode cX11_lay 2 = .ok (.putfield 26, 3) := by decide +kernel
theorem dX11_lay_5 : decode cX11_lay 5 = .ok (.aload_n 0, 1) := by decide +kernel
theorem dX11_lay_6 : decode cX11_lay 6 = .ok (.iload_n 1, 1) := by decide +kernel
theorem dX11_lay_7 : decode cX11_lay 7 = .ok (.invokevirtual 55, 3) := by decide +kernel
theorem dX11_lay_10 : decode cX11_lay 10 = .ok (.ifCond .ne 9, 3) := by decide +kernel
theorem dX11_lay_13 : decode cX11_lay 13 = .ok (.aload_n 0, 1) := by decide +kernel
theorem dX11_lay_14 : decode cX11_lay 14 = .ok (.iconst 1, 1) := by decide +kernel
theorem dX11_lay_15 : decode cX11_lay 15 = .ok (.invokevirtual 44, 3) := by decide +kernel
theorem dX11_lay_18 : decode cX11_lay 18 = .ok (.ireturn, 1) := by decide +kernel
theorem dX11_lay_19 : decode cX11_lay 19 = .ok (.iload_n 2, 1) := by decide +kernel
theorem dX11_lay_20 : decode cX11_lay 20 = .ok (.iconst 0, 1) := by decide +kernel
theorem dX11_lay_21 : decode cX11_lay 21 = .ok (.iconst 5, 1) := by decide +kernel
theorem dX11_lay_22 : decode cX11_lay 22 = .ok (.invokestatic 40, 3) := by decide +kernel
theorem dX11_lay_25 : decode cX11_lay 25 = .ok (.ifCond .ne 9, 3) := by decide +kernel
theorem dX11_lay_28 : decode cX11_lay 28 = .ok (.aload_n 0, 1) := by decide +kernel
theorem dX11_lay_29 : decode cX11_lay 29 = .ok (.iconst 2, 1) := by decide +kernel
theorem dX11_lay_30 : decode cX11_lay 30 = .ok (.invokevirtual 44, 3) := by decide +kernel
theorem dX11_lay_33 : decode cX11_lay 33 = .ok (.ireturn, 1) := by decide +kernel
theorem dX11_lay_34 : decode cX11_lay 34 = .ok (.aload_n 0, 1) := by decide +kernel
theorem dX11_lay_35 : decode cX11_lay 35 = .ok (.getfield 10, 3) := by decide +kernel
theorem dX11_lay_38 : decode cX11_lay 38 = .ok (.iload_n 1, 1) := by decide +kernel
theorem dX11_lay_39 : decode cX11_lay 39 = .ok (.invokeinterface 59 2, 5) := by decide +kernel
theorem dX11_lay_44 : decode cX11_lay 44 = .ok (.checkcast 48, 3) := by decide +kernel
theorem dX11_lay_47 : decode cX11_lay 47 = .ok (.astore_n 3, 1) := by decide +kernel
theorem dX11_lay_48 : decode cX11_lay 48 = .ok (.aload_n 3, 1) := by decide +kernel
theorem dX11_lay_49 : decode cX11_lay 49 = .ok (.getfield 63, 3) := by decide +kernel
theorem dX11_lay_52 : decode cX11_lay 52 = .ok (.ifCond .eq 9, 3) := by decide +kernel
theorem dX11_lay_55 : decode cX11_lay 55 = .ok (.aload_n 0, 1) := by decide +kernel
theorem dX11_lay_56 : decode cX11_lay 56 = .ok (.iconst 3, 1) := by decide +kernel
theorem dX11_lay_57 : decode cX11_lay 57 = .ok (.invokevirtual 44, 3) := by decide +kernel
theorem dX11_lay_60 : decode cX11_lay 60 = .ok (.ireturn, 1) := by decide +kernel
theorem dX11_lay_61 : decode cX11_lay 61 = .ok (.aload_n 3, 1) := by decide +kernel
theorem dX11_lay_62 : decode cX11_lay 62 = .ok (.aload_n 3, 1) := by decide +kernel
theorem dX11_lay_63 : decode cX11_lay 63 = .ok (.getfield 66, 3) := by decide +kernel
theorem dX11_lay_66 : decode cX11_lay 66 = .ok (.iload_n 2, 1) := by decide +kernel
theorem dX11_lay_67 : decode cX11_lay 67 = .ok (.invokevirtual 79, 3) := by decide +kernel
theorem dX11_lay_70 : decode cX11_lay 70 = .ok (.putfield 66, 3) := by decide +kernel
theorem dX11_lay_73 : decode cX11_lay 73 = .ok (.aload_n 3, 1) := by decide +kernel
theorem dX11_lay_74 : decode cX11_lay 74 = .ok (.getfield 66, 3) := by decide +kernel
theorem dX11_lay_77 : decode cX11_lay 77 = .ok (.invokevirtual 83, 3) := by decide +kernel
theorem dX11_lay_80 : decode cX11_lay 80 = .ok (.ireturn, 1) := by decide +kernel
theorem dX11_powder_0 : decode cX11_powder 0 = .ok (.aload_n 0, 1) := by decide +kernel
theorem dX11_powder_1 : decode cX11_powder 1 = .ok (.iconst 0, 1) := by decide +kernel
theorem dX11_powder_2 : decode cX11_powder 2 = .ok (.putfield 26, 3) := by decide +kernel
theorem dX11_powder_5 : decode cX11_powder 5 = .ok (.iload_n 1, 1) := by decide +kernel
theorem dX11_powder_6 : decode cX11_powder 6 = .ok (.iconst 0, 1) := by decide +kernel
theorem dX11_powder_7 : decode cX11_powder 7 = .ok (.iconst 2, 1) := by decide +kernel
theorem dX11_powder_8 : decode cX11_powder 8 = .ok (.invokestatic 40, 3) := by decide +kernel
theorem dX11_powder_11 : decode cX11_powder 11 = .ok (.ifCond .eq 14, 3) := by decide +kernel
theorem dX11_powder_14 : decode cX11_powder 14 = .ok (.iload_n 2, 1) := by decide +kernel
theorem dX11_powder_15 : decode cX11_powder 15 = .ok (.iconst 1, 1) := by decide +kernel
theorem dX11_powder_16 : decode cX11_powder 16 = .ok (.sipush 2000, 3) := by decide +kernel
theorem dX11_powder_19 : decode cX11_powder 19 = .ok (.invokestatic 40, 3) := by decide +kernel
theorem dX11_powder_22 : decode cX11_powder 22 = .ok (.ifCond .ne 9, 3) := by decide +kernel
theorem dX11_powder_25 : decode cX11_powder 25 = .ok (.aload_n 0, 1) := by decide +kernel
theorem dX11_powder_26 : decode cX11_powder 26 = .ok (.iconst 1, 1) := by decide +kernel
theorem dX11_powder_27 : decode cX11_powder 27 = .ok (.invokevirtual 44, 3) := by decide +kernel
theorem dX11_powder_30 : decode cX11_powder 30 = .ok (.ireturn, 1) := by decide +kernel
theorem dX11_powder_31 : decode cX11_powder 31 = .ok (.aload_n 0, 1) := by decide +kernel
theorem dX11_powder_32 : decode cX11_powder 32 = .ok (.getfield 16, 3) := by decide +kernel
theorem dX11_powder_35 : decode cX11_powder 35 = .ok (.invokeinterface 34 1, 5) := by decide +kernel
theorem dX11_powder_40 : decode cX11_powder 40 = .ok (.bipush 6, 2) := by decide +kernel
theorem dX11_powder_42 : decode cX11_powder 42 = .ok (.if_icmp .ne 9, 3) := by decide +kernel
theorem dX11_powder_45 : decode cX11_powder 45 = .ok (.aload_n 0, 1) := by decide +kernel
theorem dX11_powder_46 : decode cX11_powder 46 = .ok (.iconst 2, 1) := by decide +kernel
theorem dX11_powder_47 : decode cX11_powder 47 = .ok (.invokevirtual 44, 3) := by decide +kernel
theorem dX11_powder_50 : decode cX11_powder 50 = .ok (.ireturn, 1) := by decide +kernel
theorem dX11_powder_51 : decode cX11_powder 51 = .ok (.aload_n 0, 1) := by decide +kernel
theorem dX11_powder_52 : decode cX11_powder 52 = .ok (.getfield 16, 3) := by decide +kernel
theorem dX11_powder_55 : decode cX11_powder 55 = .ok (.new 86, 3) := by decide +kernel
theorem dX11_powder_58 : decode cX11_powder 58 = .ok (.dup, 1) := by decide +kernel
theorem dX11_powder_59 : decode cX11_powder 59 = .ok (.iload_n 1, 1) := by decide +kernel
theorem dX11_powder_60 : decode cX11_powder 60 = .ok (.iload_n 2, 1) := by decide +kernel
theorem dX11_powder_61 : decode cX11_powder 61 = .ok (.iconst 1, 1) := by decide +kernel
theorem dX11_powder_62 : decode cX11_powder 62 = .ok (.aload_n 0, 1) := by decide +kernel
theorem dX11_powder_63 : decode cX11_powder 63 = .ok (.getfield 16, 3) := by decide +kernel
theorem dX11_powder_66 : decode cX11_powder 66 = .ok (.invokeinterface 34 1, 5) := by decide +kernel
theorem dX11_powder_71 : decode cX11_powder 71 = .ok (.ishl, 1) := by decide +kernel
theorem dX11_powder_72 : decode cX11_powder 72 = .ok (.invokespecial 88, 3) := by decide +kernel
theorem dX11_powder_75 : decode cX11_powder 75 = .ok (.invokeinterface 51 2, 5) := by decide +kernel
theorem dX11_powder_80 : decode cX11_powder 80 = .ok (.pop, 1) := by decide +kernel
theorem dX11_powder_81 : decode cX11_powder 81 = .ok (.aload_n 0, 1) := by decide +kernel
theorem dX11_powder_82 : decode cX11_powder 82 = .ok (.getfield 16, 3) := by decide +kernel
theorem dX11_powder_85 : decode cX11_powder 85 = .ok (.invokeinterface 34 1, 5) := by decide +kernel
theorem dX11_powder_90 : decode cX11_powder 90 = .ok (.iconst 1, 1) := by decide +kernel
theorem dX11_powder_91 : decode cX11_powder 91 = .ok (.isub, 1) := by decide +kernel
theorem dX11_powder_92 : decode cX11_powder 92 = .ok (.ireturn, 1) := by decide +kernel
theorem dX11_blend_0 : decode cX11_blend 0 = .ok (.aload_n 0, 1) := by decide +kernel
theorem dX11_blend_1 : decode cX11_blend 1 = .ok (.iconst 0, 1) := by decide +kernel
theorem dX11_blend_2 : decode cX11_blend 2 = .ok (.putfield 26, 3) := by decide +kernel
theorem dX11_blend_5 : decode cX11_blend 5 = .ok (.aload_n 0, 1) := by decide +kernel
theorem dX11_blend_6 : decode cX11_blend 6 = .ok (.iload_n 1, 1) := by decide +kernel
theorem dX11_blend_7 : decode cX11_blend 7 = .ok (.invokevirtual 91, 3) := by decide +kernel
theorem dX11_blend_10 : decode cX11_blend 10 = .ok (.ifCond .eq 11, 3) := by decide +kernel
theorem dX11_blend_13 : decode cX11_blend 13 = .ok (.aload_n 0, 1) := by decide +kernel
theorem dX11_blend_14 : decode cX11_blend 14 = .ok (.iload_n 2, 1) := by decide +kernel
theorem dX11_blend_15 : decode cX11_blend 15 = .ok (.invokevirtual 91, 3) := by decide +kernel
theorem dX11_blend_18 : decode cX11_blend 18 = .ok (.ifCond .ne 9, 3) := by decide +kernel
theorem dX11_blend_21 : decode cX11_blend 21 = .ok (.aload_n 0, 1) := by decide +kernel
theorem dX11_blend_22 : decode cX11_blend 22 = .ok (.iconst 1, 1) := by decide +kernel
theorem dX11_blend_23 : decode cX11_blend 23 = .ok (.invokevirtual 44, 3) := by decide +kernel
theorem dX11_blend_26 : decode cX11_blend 26 = .ok (.ireturn, 1) := by decide +kernel
theorem dX11_blend_27 : decode cX11_blend 27 = .ok (.aload_n 0, 1) := by decide +kernel
theorem dX11_blend_28 : decode cX11_blend 28 = .ok (.getfield 16, 3) := by decide +kernel
theorem dX11_blend_31 : decode cX11_blend 31 = .ok (.iload_n 1, 1) := by decide +kernel
theorem dX11_blend_32 : decode cX11_blend 32 = .ok (.invokeinterface 59 2, 5) := by decide +kernel
theorem dX11_blend_37 : decode cX11_blend 37 = .ok (.checkcast 86, 3) := by decide +kernel
theorem dX11_blend_40 : decode cX11_blend 40 = .ok (.astore_n 3, 1) := by decide +kernel
theorem dX11_blend_41 : decode cX11_blend 41 = .ok (.aload_n 0, 1) := by decide +kernel
theorem dX11_blend_42 : decode cX11_blend 42 = .ok (.getfield 16, 3) := by decide +kernel
theorem dX11_blend_45 : decode cX11_blend 45 = .ok (.iload_n 2, 1) := by decide +kernel
theorem dX11_blend_46 : decode cX11_blend 46 = .ok (.invokeinterface 59 2, 5) := by decide +kernel
theorem dX11_blend_51 : decode cX11_blend 51 = .ok (.checkcast 86, 3) := by decide +kernel
theorem dX11_blend_54 : decode cX11_blend 54 = .ok (.astore 4, 2) := by decide +kernel
theorem dX11_blend_56 : decode cX11_blend 56 = .ok (.iload_n 1, 1) := by decide +kernel
theorem dX11_blend_57 : decode cX11_blend 57 = .ok (.iload_n 2, 1) := by decide +kernel
theorem dX11_blend_58 : decode cX11_blend 58 = .ok (.if_icmp .eq 15, 3) := by decide +kernel
theorem dX11_blend_61 : decode cX11_blend 61 = .ok (.aload_n 3, 1) := by decide +kernel
theorem dX11_blend_62 : decode cX11_blend 62 = .ok (.getfield 94, 3) := by decide +kernel
theorem dX11_blend_65 : decode cX11_blend 65 = .ok (.aload 4, 2) := by decide +kernel
theorem dX11_blend_67 : decode cX11_blend 67 = .ok (.getfield 94, 3) := by decide +kernel
theorem dX11_blend_70 : decode cX11_blend 70 = .ok (.if_icmp .eq 9, 3) := by decide +kernel
theorem dX11_blend_73 : decode cX11_blend 73 = .ok (.aload_n 0, 1) := by decide +kernel
theorem dX11_blend_74 : decode cX11_blend 74 = .ok (.iconst 2, 1) := by decide +kernel
theorem dX11_blend_75 : decode cX11_blend 75 = .ok (.invokevirtual 44, 3) := by decide +kernel
theorem dX11_blend_78 : decode cX11_blend 78 = .ok (.ireturn, 1) := by decide +kernel
theorem dX11_blend_79 : decode cX11_blend 79 = .ok (.aload_n 3, 1) := by decide +kernel
theorem dX11_blend_80 : decode cX11_blend 80 = .ok (.getfield 97, 3) := by decide +kernel
theorem dX11_blend_83 : decode cX11_blend 83 = .ok (.iconst (-1), 1) := by decide +kernel
theorem dX11_blend_84 : decode cX11_blend 84 = .ok (.if_icmp .ne 12, 3) := by decide +kernel
theorem dX11_blend_87 : decode cX11_blend 87 = .ok (.aload 4, 2) := by decide +kernel
theorem dX11_blend_89 : decode cX11_blend 89 = .ok (.getfield 97, 3) := by decide +kernel
theorem dX11_blend_92 : decode cX11_blend 92 = .ok (.iconst (-1), 1) := by decide +kernel
theorem dX11_blend_93 : decode cX11_blend 93 = .ok (.if_icmp .eq 9, 3) := by decide +kernel
theorem dX11_blend_96 : decode cX11_blend 96 = .ok (.aload_n 0, 1) := by decide +kernel
theorem dX11_blend_97 : decode cX11_blend 97 = .ok (.iconst 3, 1) := by decide +kernel
theorem dX11_blend_98 : decode cX11_blend 98 = .ok (.invokevirtual 44, 3) := by decide +kernel
theorem dX11_blend_101 : decode cX11_blend 101 = .ok (.ireturn, 1) := by decide +kernel
theorem dX11_blend_102 : decode cX11_blend 102 = .ok (.aload_n 3, 1) := by decide +kernel
theorem dX11_blend_103 : decode cX11_blend 103 = .ok (.dup, 1) := by decide +kernel
theorem dX11_blend_104 : decode cX11_blend 104 = .ok (.getfield 100, 3) := by decide +kernel
theorem dX11_blend_107 : decode cX11_blend 107 = .ok (.aload 4, 2) := by decide +kernel
theorem dX11_blend_109 : decode cX11_blend 109 = .ok (.getfield 100, 3) := by decide +kernel
theorem dX11_blend_112 : decode cX11_blend 112 = .ok (.iadd, 1) := by decide +kernel
theorem dX11_blend_113 : decode cX11_blend 113 = .ok (.putfield 100, 3) := by decide +kernel
theorem dX11_blend_116 : decode cX11_blend 116 = .ok (.aload 4, 2) := by decide +kernel
theorem dX11_blend_118 : decode cX11_blend 118 = .ok (.iconst 0, 1) := by decide +kernel
theorem dX11_blend_119 : decode cX11_blend 119 = .ok (.putfield 100, 3) := by decide +kernel
theorem dX11_blend_122 : decode cX11_blend 122 = .ok (.aload_n 3, 1) := by decide +kernel
theorem dX11_blend_123 : decode cX11_blend 123 = .ok (.aload_n 3, 1) := by decide +kernel
theorem dX11_blend_124 : decode cX11_blend 124 = .ok (.getfield 103, 3) := by decide +kernel
theorem dX11_blend_127 : decode cX11_blend 127 = .ok (.aload 4, 2) := by decide +kernel
theorem dX11_blend_129 : decode cX11_blend 129 = .ok (.getfield 103, 3) := by decide +kernel
theorem dX11_blend_132 : decode cX11_blend 132 = .ok (.invokestatic 106, 3) := by decide +kernel
theorem dX11_blend_135 : decode cX11_blend 135 = .ok (.putfield 103, 3) := by decide +kernel
theorem dX11_blend_138 : decode cX11_blend 138 = .ok (.aload_n 3, 1) := by decide +kernel
theorem dX11_blend_139 : decode cX11_blend 139 = .ok (.dup, 1) := by decide +kernel
theorem dX11_blend_140 : decode cX11_blend 140 = .ok (.getfield 112, 3) := by decide +kernel
theorem dX11_blend_143 : decode cX11_blend 143 = .ok (.aload 4, 2) := by decide +kernel
theorem dX11_blend_145 : decode cX11_blend 145 = .ok (.getfield 112, 3) := by decide +kernel
theorem dX11_blend_148 : decode cX11_blend 148 = .ok (.ior, 1) := by decide +kernel
theorem dX11_blend_149 : decode cX11_blend 149 = .ok (.putfield 112, 3) := by decide +kernel
theorem dX11_blend_152 : decode cX11_blend 152 = .ok (.aload_n 3, 1) := by decide +kernel
theorem dX11_blend_153 : decode cX11_blend 153 = .ok (.getfield 100, 3) := by decide +kernel
theorem dX11_blend_156 : decode cX11_blend 156 = .ok (.ireturn, 1) := by decide +kernel
theorem dX11_load_0 : decode cX11_load 0 = .ok (.aload_n 0, 1) := by decide +kernel
theorem dX11_load_1 : decode cX11_load 1 = .ok (.iconst 0, 1) := by decide +kernel
theorem dX11_load_2 : decode cX11_load 2 = .ok (.putfield 26, 3) := by decide +kernel
theorem dX11_load_5 : decode cX11_load 5 = .ok (.iload_n 1, 1) := by decide +kernel
theorem dX11_load_6 : decode cX11_load 6 = .ok (.invokestatic 115, 3) := by decide +kernel
theorem dX11_load_9 : decode cX11_load 9 = .ok (.ifCond .eq 11, 3) := by decide +kernel
theorem dX11_load_12 : decode cX11_load 12 = .ok (.aload_n 0, 1) := by decide +kernel
theorem dX11_load_13 : decode cX11_load 13 = .ok (.iload_n 2, 1) := by decide +kernel
theorem dX11_load_14 : decode cX11_load 14 = .ok (.invokevirtual 91, 3) := by decide +kernel
theorem dX11_load_17 : decode cX11_load 17 = .ok (.ifCond .ne 9, 3) := by decide +kernel
theorem dX11_load_20 : decode cX11_load 20 = .ok (.aload_n 0, 1) := by decide +kernel
theorem dX11_load_21 : decode cX11_load 21 = .ok (.iconst 1, 1) := by decide +kernel
theorem dX11_load_22 : decode cX11_load 22 = .ok (.invokevirtual 44, 3) := by decide +kernel
theorem dX11_load_25 : decode cX11_load 25 = .ok (.ireturn, 1) := by decide +kernel
theorem dX11_load_26 : decode cX11_load 26 = .ok (.aload_n 0, 1) := by decide +kernel
theorem dX11_load_27 : decode cX11_load 27 = .ok (.getfield 22, 3) := by decide +kernel
theorem dX11_load_30 : decode cX11_load 30 = .ok (.iload_n 1, 1) := by decide +kernel
theorem dX11_load_31 : decode cX11_load 31 = .ok (.aaload, 1) := by decide +kernel
theorem dX11_load_32 : decode cX11_load 32 = .ok (.astore_n 3, 1) := by decide +kernel
theorem dX11_load_33 : decode cX11_load 33 = .ok (.aload_n 0, 1) := by decide +kernel
theorem dX11_load_34 : decode cX11_load 34 = .ok (.getfield 16, 3) := by decide +kernel
theorem dX11_load_37 : decode cX11_load 37 = .ok (.iload_n 2, 1) := by decide +kernel
theorem dX11_load_38 : decode cX11_load 38 = .ok (.invokeinterface 59 2, 5) := by decide +kernel
theorem dX11_load_43 : decode cX11_load 43 = .ok (.checkcast 86, 3) := by decide +kernel
theorem dX11_load_46 : decode cX11_load 46 = .ok (.astore 4, 2) := by decide +kernel
theorem dX11_load_48 : decode cX11_load 48 = .ok (.aload_n 3, 1) := by decide +kernel
theorem dX11_load_49 : decode cX11_load 49 = .ok (.getfield 118, 3) := by decide +kernel
theorem dX11_load_52 : decode cX11_load 52 = .ok (.iconst (-1), 1) := by decide +kernel
theorem dX11_load_53 : decode cX11_load 53 = .ok (.if_icmp .ne 20, 3) := by decide +kernel
theorem dX11_load_56 : decode cX11_load 56 = .ok (.aload 4, 2) := by decide +kernel
theorem dX11_load_58 : decode cX11_load 58 = .ok (.getfield 97, 3) := by decide +kernel
theorem dX11_load_61 : decode cX11_load 61 = .ok (.iconst (-1), 1) := by decide +kernel
theorem dX11_load_62 : decode cX11_load 62 = .ok (.if_icmp .ne 11, 3) := by decide +kernel
theorem dX11_load_65 : decode cX11_load 65 = .ok (.aload 4, 2) := by decide +kernel
theorem dX11_load_67 : decode cX11_load 67 = .ok (.getfield 100, 3) := by decide +kernel
theorem dX11_load_70 : decode cX11_load 70 = .ok (.ifCond .ne 9, 3) := by decide +kernel
theorem dX11_load_73 : decode cX11_load 73 = .ok (.aload_n 0, 1) := by decide +kernel
theorem dX11_load_74 : decode cX11_load 74 = .ok (.iconst 2, 1) := by decide +kernel
theorem dX11_load_75 : decode cX11_load 75 = .ok (.invokevirtual 44, 3) := by decide +kernel
theorem dX11_load_78 : decode cX11_load 78 = .ok (.ireturn, 1) := by decide +kernel
theorem dX11_load_79 : decode cX11_load 79 = .ok (.aload_n 3, 1) := by decide +kernel
theorem dX11_load_80 : decode cX11_load 80 = .ok (.getfield 121, 3) := by decide +kernel
theorem dX11_load_83 : decode cX11_load 83 = .ok (.iconst (-1), 1) := by decide +kernel
theorem dX11_load_84 : decode cX11_load 84 = .ok (.if_icmp .eq 18, 3) := by decide +kernel
theorem dX11_load_87 : decode cX11_load 87 = .ok (.aload_n 3, 1) := by decide +kernel
theorem dX11_load_88 : decode cX11_load 88 = .ok (.getfield 121, 3) := by decide +kernel
theorem dX11_load_91 : decode cX11_load 91 = .ok (.aload 4, 2) := by decide +kernel
theorem dX11_load_93 : decode cX11_load 93 = .ok (.getfield 94, 3) := by decide +kernel
theorem dX11_load_96 : decode cX11_load 96 = .ok (.if_icmp .eq 6, 3) := by decide +kernel
theorem dX11_load_99 : decode cX11_load 99 = .ok (.bipush (-2), 2) := by decide +kernel
theorem dX11_load_101 : decode cX11_load 101 = .ok (.ireturn, 1) := by decide +kernel
theorem dX11_load_102 : decode cX11_load 102 = .ok (.aload 4, 2) := by decide +kernel
theorem dX11_load_104 : decode cX11_load 104 = .ok (.getfield 103, 3) := by decide +kernel
theorem dX11_load_107 : decode cX11_load 107 = .ok (.iconst 4, 1) := by decide +kernel
theorem dX11_load_108 : decode cX11_load 108 = .ok (.if_icmp .le 6, 3) := by decide +kernel
theorem dX11_load_111 : decode cX11_load 111 = .ok (.bipush (-3), 2) := by decide +kernel
theorem dX11_load_113 : decode cX11_load 113 = .ok (.ireturn, 1) := by decide +kernel
theorem dX11_load_114 : decode cX11_load 114 = .ok (.aload_n 3, 1) := by decide +kernel
theorem dX11_load_115 : decode cX11_load 115 = .ok (.aload 4, 2) := by decide +kernel
theorem dX11_load_117 : decode cX11_load 117 = .ok (.getfield 94, 3) := by decide +kernel
theorem dX11_load_120 : decode cX11_load 120 = .ok (.putfield 121, 3) := by decide +kernel
theorem dX11_load_123 : decode cX11_load 123 = .ok (.aload_n 3, 1) := by decide +kernel
theorem dX11_load_124 : decode cX11_load 124 = .ok (.iload_n 2, 1) := by decide +kernel
theorem dX11_load_125 : decode cX11_load 125 = .ok (.putfield 118, 3) := by decide +kernel
theorem dX11_load_128 : decode cX11_load 128 = .ok (.aload_n 3, 1) := by decide +kernel
theorem dX11_load_129 : decode cX11_load 129 = .ok (.aload 4, 2) := by decide +kernel
theorem dX11_load_131 : decode cX11_load 131 = .ok (.getfield 100, 3) := by decide +kernel
theorem dX11_load_134 : decode cX11_load 134 = .ok (.putfield 124, 3) := by decide +kernel
theorem dX11_load_137 : decode cX11_load 137 = .ok (.aload 4, 2) := by decide +kernel
theorem dX11_load_139 : decode cX11_load 139 = .ok (.iconst 0, 1) := by decide +kernel
theorem dX11_load_140 : decode cX11_load 140 = .ok (.putfield 100, 3) := by decide +kernel
theorem dX11_load_143 : decode cX11_load 143 = .ok (.aload 4, 2) := by decide +kernel
theorem dX11_load_145 : decode cX11_load 145 = .ok (.iload_n 1, 1) := by decide +kernel
theorem dX11_load_146 : decode cX11_load 146 = .ok (.putfield 97, 3) := by decide +kernel
theorem dX11_load_149 : decode cX11_load 149 = .ok (.aload_n 3, 1) := by decide +kernel
theorem dX11_load_150 : decode cX11_load 150 = .ok (.getfield 124, 3) := by decide +kernel
theorem dX11_load_153 : decode cX11_load 153 = .ok (.ireturn, 1) := by decide +kernel
theorem dX11_giveBack_0 : decode cX11_giveBack 0 = .ok (.aload_n 0, 1) := by decide +kernel
theorem dX11_giveBack_1 : decode cX11_giveBack 1 = .ok (.getfield 16, 3) := by decide +kernel
theorem dX11_giveBack_4 : decode cX11_giveBack 4 = .ok (.aload_n 1, 1) := by decide +kernel
theorem dX11_giveBack_5 : decode cX11_giveBack 5 = .ok (.getfield 118, 3) := by decide +kernel
theorem dX11_giveBack_8 : decode cX11_giveBack 8 = .ok (.invokeinterface 59 2, 5) := by decide +kernel
theorem dX11_giveBack_13 : decode cX11_giveBack 13 = .ok (.checkcast 86, 3) := by decide +kernel
theorem dX11_giveBack_16 : decode cX11_giveBack 16 = .ok (.astore_n 3, 1) := by decide +kernel
theorem dX11_giveBack_17 : decode cX11_giveBack 17 = .ok (.aload_n 3, 1) := by decide +kernel
theorem dX11_giveBack_18 : decode cX11_giveBack 18 = .ok (.dup, 1) := by decide +kernel
theorem dX11_giveBack_19 : decode cX11_giveBack 19 = .ok (.getfield 100, 3) := by decide +kernel
theorem dX11_giveBack_22 : decode cX11_giveBack 22 = .ok (.iload_n 2, 1) := by decide +kernel
theorem dX11_giveBack_23 : decode cX11_giveBack 23 = .ok (.iadd, 1) := by decide +kernel
theorem dX11_giveBack_24 : decode cX11_giveBack 24 = .ok (.putfield 100, 3) := by decide +kernel
theorem dX11_giveBack_27 : decode cX11_giveBack 27 = .ok (.aload_n 3, 1) := by decide +kernel
theorem dX11_giveBack_28 : decode cX11_giveBack 28 = .ok (.dup, 1) := by decide +kernel
theorem dX11_giveBack_29 : decode cX11_giveBack 29 = .ok (.getfield 103, 3) := by decide +kernel
theorem dX11_giveBack_32 : decode cX11_giveBack 32 = .ok (.iconst 1, 1) := by decide +kernel
theorem dX11_giveBack_33 : decode cX11_giveBack 33 = .ok (.iadd, 1) := by decide +kernel
theorem dX11_giveBack_34 : decode cX11_giveBack 34 = .ok (.putfield 103, 3) := by decide +kernel
theorem dX11_giveBack_37 : decode cX11_giveBack 37 = .ok (.aload_n 3, 1) := by decide +kernel
theorem dX11_giveBack_38 : decode cX11_giveBack 38 = .ok (.iconst (-1), 1) := by decide +kernel
theorem dX11_giveBack_39 : decode cX11_giveBack 39 = .ok (.putfield 97, 3) := by decide +kernel
theorem dX11_giveBack_42 : decode cX11_giveBack 42 = .ok (.aload_n 1, 1) := by decide +kernel
theorem dX11_giveBack_43 : decode cX11_giveBack 43 = .ok (.iconst (-1), 1) := by decide +kernel
theorem dX11_giveBack_44 : decode cX11_giveBack 44 = .ok (.putfield 118, 3) := by decide +kernel
theorem dX11_giveBack_47 : decode cX11_giveBack 47 = .ok (.aload_n 1, 1) := by decide +kernel
theorem dX11_giveBack_48 : decode cX11_giveBack 48 = .ok (.iconst 0, 1) := by decide +kernel
theorem dX11_giveBack_49 : decode cX11_giveBack 49 = .ok (.putfield 124, 3) := by decide +kernel
theorem dX11_giveBack_52 : decode cX11_giveBack 52 = .ok (.aload_n 3, 1) := by decide +kernel
theorem dX11_giveBack_53 : decode cX11_giveBack 53 = .ok (.areturn, 1) := by decide +kernel
theorem dX11_unload_0 : decode cX11_unload 0 = .ok (.aload_n 0, 1) := by decide +kernel
theorem dX11_unload_1 : decode cX11_unload 1 = .ok (.iconst 0, 1) := by decide +kernel
theorem dX11_unload_2 : decode cX11_unload 2 = .ok (.putfield 26, 3) := by decide +kernel
theorem dX11_unload_5 : decode cX11_unload 5 = .ok (.iload_n 1, 1) := by decide +kernel
theorem dX11_unload_6 : decode cX11_unload 6 = .ok (.invokestatic 115, 3) := by decide +kernel
theorem dX11_unload_9 : decode cX11_unload 9 = .ok (.ifCond .ne 9, 3) := by decide +kernel
theorem dX11_unload_12 : decode cX11_unload 12 = .ok (.aload_n 0, 1) := by decide +kernel
theorem dX11_unload_13 : decode cX11_unload 13 = .ok (.iconst 1, 1) := by decide +kernel
theorem dX11_unload_14 : decode cX11_unload 14 = .ok (.invokevirtual 44, 3) := by decide +kernel
theorem dX11_unload_17 : decode cX11_unload 17 = .ok (.ireturn, 1) := by decide +kernel
theorem dX11_unload_18 : decode cX11_unload 18 = .ok (.aload_n 0, 1) := by decide +kernel
theorem dX11_unload_19 : decode cX11_unload 19 = .ok (.getfield 22, 3) := by decide +kernel
theorem dX11_unload_22 : decode cX11_unload 22 = .ok (.iload_n 1, 1) := by decide +kernel
theorem dX11_unload_23 : decode cX11_unload 23 = .ok (.aaload, 1) := by decide +kernel
theorem dX11_unload_24 : decode cX11_unload 24 = .ok (.astore_n 2, 1) := by decide +kernel
theorem dX11_unload_25 : decode cX11_unload 25 = .ok (.aload_n 2, 1) := by decide +kernel
theorem dX11_unload_26 : decode cX11_unload 26 = .ok (.getfield 118, 3) := by decide +kernel
theorem dX11_unload_29 : decode cX11_unload 29 = .ok (.iconst (-1), 1) := by decide +kernel
theorem dX11_unload_30 : decode cX11_unload 30 = .ok (.if_icmp .eq 11, 3) := by decide +kernel
theorem dX11_unload_33 : decode cX11_unload 33 = .ok (.aload_n 2, 1) := by decide +kernel
theorem dX11_unload_34 : decode cX11_unload 34 = .ok (.getfield 127, 3) := by decide +kernel
theorem dX11_unload_37 : decode cX11_unload 37 = .ok (.iconst (-1), 1) := by decide +kernel
theorem dX11_unload_38 : decode cX11_unload 38 = .ok (.if_icmp .eq 9, 3) := by decide +kernel
theorem dX11_unload_41 : decode cX11_unload 41 = .ok (.aload_n 0, 1) := by decide +kernel
theorem dX11_unload_42 : decode cX11_unload 42 = .ok (.iconst 2, 1) := by decide +kernel
theorem dX11_unload_43 : decode cX11_unload 43 = .ok (.invokevirtual 44, 3) := by decide +kernel
theorem dX11_unload_46 : decode cX11_unload 46 = .ok (.ireturn, 1) := by decide +kernel
theorem dX11_unload_47 : decode cX11_unload 47 = .ok (.aload_n 0, 1) := by decide +kernel
theorem dX11_unload_48 : decode cX11_unload 48 = .ok (.aload_n 2, 1) := by decide +kernel
theorem dX11_unload_49 : decode cX11_unload 49 = .ok (.aload_n 2, 1) := by decide +kernel
theorem dX11_unload_50 : decode cX11_unload 50 = .ok (.getfield 124, 3) := by decide +kernel
theorem dX11_unload_53 : decode cX11_unload 53 = .ok (.invokevirtual 130, 3) := by decide +kernel
theorem dX11_unload_56 : decode cX11_unload 56 = .ok (.getfield 100, 3) := by decide +kernel
theorem dX11_unload_59 : decode cX11_unload 59 = .ok (.ireturn, 1) := by decide +kernel
theorem dX11_clean_0 : decode cX11_clean 0 = .ok (.aload_n 0, 1) := by decide +kernel
theorem dX11_clean_1 : decode cX11_clean 1 = .ok (.iconst 0, 1) := by decide +kernel
theorem dX11_clean_2 : decode cX11_clean 2 = .ok (.putfield 26, 3) := by decide +kernel
theorem dX11_clean_5 : decode cX11_clean 5 = .ok (.iload_n 1, 1) := by decide +kernel
theorem dX11_clean_6 : decode cX11_clean 6 = .ok (.invokestatic 115, 3) := by decide +kernel
theorem dX11_clean_9 : decode cX11_clean 9 = .ok (.ifCond .ne 9, 3) := by decide +kernel
theorem dX11_clean_12 : decode cX11_clean 12 = .ok (.aload_n 0, 1) := by decide +kernel
theorem dX11_clean_13 : decode cX11_clean 13 = .ok (.iconst 1, 1) := by decide +kernel
theorem dX11_clean_14 : decode cX11_clean 14 = .ok (.invokevirtual 44, 3) := by decide +kernel
theorem dX11_clean_17 : decode cX11_clean 17 = .ok (.ireturn, 1) := by decide +kernel
theorem dX11_clean_18 : decode cX11_clean 18 = .ok (.aload_n 0, 1) := by decide +kernel
theorem dX11_clean_19 : decode cX11_clean 19 = .ok (.getfield 22, 3) := by decide +kernel
theorem dX11_clean_22 : decode cX11_clean 22 = .ok (.iload_n 1, 1) := by decide +kernel
theorem dX11_clean_23 : decode cX11_clean 23 = .ok (.aaload, 1) := by decide +kernel
theorem dX11_clean_24 : decode cX11_clean 24 = .ok (.astore_n 2, 1) := by decide +kernel
theorem dX11_clean_25 : decode cX11_clean 25 = .ok (.aload_n 2, 1) := by decide +kernel
theorem dX11_clean_26 : decode cX11_clean 26 = .ok (.getfield 118, 3) := by decide +kernel
theorem dX11_clean_29 : decode cX11_clean 29 = .ok (.iconst (-1), 1) := by decide +kernel
theorem dX11_clean_30 : decode cX11_clean 30 = .ok (.if_icmp .eq 19, 3) := by decide +kernel
theorem dX11_clean_33 : decode cX11_clean 33 = .ok (.aload_n 0, 1) := by decide +kernel
theorem dX11_clean_34 : decode cX11_clean 34 = .ok (.aload_n 2, 1) := by decide +kernel
theorem dX11_clean_35 : decode cX11_clean 35 = .ok (.aload_n 2, 1) := by decide +kernel
theorem dX11_clean_36 : decode cX11_clean 36 = .ok (.getfield 124, 3) := by decide +kernel
theorem dX11_clean_39 : decode cX11_clean 39 = .ok (.bipush 9, 2) := by decide +kernel
theorem dX11_clean_41 : decode cX11_clean 41 = .ok (.imul, 1) := by decide +kernel
theorem dX11_clean_42 : decode cX11_clean 42 = .ok (.bipush 10, 2) := by decide +kernel
theorem dX11_clean_44 : decode cX11_clean 44 = .ok (.idiv, 1) := by decide +kernel
theorem dX11_clean_45 : decode cX11_clean 45 = .ok (.invokevirtual 130, 3) := by decide +kernel
theorem dX11_clean_48 : decode cX11_clean 48 = .ok (.pop, 1) := by decide +kernel
theorem dX11_clean_49 : decode cX11_clean 49 = .ok (.aload_n 2, 1) := by decide +kernel
theorem dX11_clean_50 : decode cX11_clean 50 = .ok (.getfield 127, 3) := by decide +kernel
theorem dX11_clean_53 : decode cX11_clean 53 = .ok (.iconst (-1), 1) := by decide +kernel
theorem dX11_clean_54 : decode cX11_clean 54 = .ok (.if_icmp .eq 24, 3) := by decide +kernel
theorem dX11_clean_57 : decode cX11_clean 57 = .ok (.aload_n 0, 1) := by decide +kernel
theorem dX11_clean_58 : decode cX11_clean 58 = .ok (.getfield 10, 3) := by decide +kernel
theorem dX11_clean_61 : decode cX11_clean 61 = .ok (.aload_n 2, 1) := by decide +kernel
theorem dX11_clean_62 : decode cX11_clean 62 = .ok (.getfield 127, 3) := by decide +kernel
theorem dX11_clean_65 : decode cX11_clean 65 = .ok (.invokeinterface 59 2, 5) := by decide +kernel
theorem dX11_clean_70 : decode cX11_clean 70 = .ok (.checkcast 48, 3) := by decide +kernel
theorem dX11_clean_73 : decode cX11_clean 73 = .ok (.bipush 6, 2) := by decide +kernel
theorem dX11_clean_75 : decode cX11_clean 75 = .ok (.putfield 63, 3) := by decide +kernel
theorem dX11_clean_78 : decode cX11_clean 78 = .ok (.aload_n 2, 1) := by decide +kernel
theorem dX11_clean_79 : decode cX11_clean 79 = .ok (.iconst (-1), 1) := by decide +kernel
theorem dX11_clean_80 : decode cX11_clean 80 = .ok (.putfield 127, 3) := by decide +kernel
theorem dX11_clean_83 : decode cX11_clean 83 = .ok (.aload_n 2, 1) := by decide +kernel
theorem dX11_clean_84 : decode cX11_clean 84 = .ok (.iconst (-1), 1) := by decide +kernel
theorem dX11_clean_85 : decode cX11_clean 85 = .ok (.putfield 121, 3) := by decide +kernel
theorem dX11_clean_88 : decode cX11_clean 88 = .ok (.aload_n 2, 1) := by decide +kernel
theorem dX11_clean_89 : decode cX11_clean 89 = .ok (.getfield 134, 3) := by decide +kernel
theorem dX11_clean_92 : decode cX11_clean 92 = .ok (.invokeinterface 34 1, 5) := by decide +kernel
theorem dX11_clean_97 : decode cX11_clean 97 = .ok (.istore_n 3, 1) := by decide +kernel
theorem dX11_clean_98 : decode cX11_clean 98 = .ok (.aload_n 2, 1) := by decide +kernel
theorem dX11_clean_99 : decode cX11_clean 99 = .ok (.getfield 134, 3) := by decide +kernel
theorem dX11_clean_102 : decode cX11_clean 102 = .ok (.invokeinterface 34 1, 5) := by decide +kernel
theorem dX11_clean_107 : decode cX11_clean 107 = .ok (.ifCond .le 27, 3) := by decide +kernel
theorem dX11_clean_110 : decode cX11_clean 110 = .ok (.aload_n 2, 1) := by decide +kernel
theorem dX11_clean_111 : decode cX11_clean 111 = .ok (.getfield 134, 3) := by decide +kernel
theorem dX11_clean_114 : decode cX11_clean 114 = .ok (.aload_n 2, 1) := by decide +kernel
theorem dX11_clean_115 : decode cX11_clean 115 = .ok (.getfield 134, 3) := by decide +kernel
theorem dX11_clean_118 : decode cX11_clean 118 = .ok (.invokeinterface 34 1, 5) := by decide +kernel
theorem dX11_clean_123 : decode cX11_clean 123 = .ok (.iconst 1, 1) := by decide +kernel
theorem dX11_clean_124 : decode cX11_clean 124 = .ok (.isub, 1) := by decide +kernel
theorem dX11_clean_125 : decode cX11_clean 125 = .ok (.invokeinterface 137 2, 5) := by decide +kernel
theorem dX11_clean_130 : decode cX11_clean 130 = .ok (.pop, 1) := by decide +kernel
theorem dX11_clean_131 : decode cX11_clean 131 = .ok (.goto (-33), 3) := by decide +kernel
theorem dX11_clean_134 : decode cX11_clean 134 = .ok (.iload_n 3, 1) := by decide +kernel
theorem dX11_clean_135 : decode cX11_clean 135 = .ok (.ireturn, 1) := by decide +kernel
theorem dX11_start_0 : decode cX11_start 0 = .ok (.aload_n 0, 1) := by decide +kernel
theorem dX11_start_1 : decode cX11_start 1 = .ok (.iconst 0, 1) := by decide +kernel
theorem dX11_start_2 : decode cX11_start 2 = .ok (.putfield 26, 3) := by decide +kernel
theorem dX11_start_5 : decode cX11_start 5 = .ok (.iload_n 1, 1) := by decide +kernel
theorem dX11_start_6 : decode cX11_start 6 = .ok (.invokestatic 115, 3) := by decide +kernel
theorem dX11_start_9 : decode cX11_start 9 = .ok (.ifCond .eq 11, 3) := by decide +kernel
theorem dX11_start_12 : decode cX11_start 12 = .ok (.aload_n 0, 1) := by decide +kernel
theorem dX11_start_13 : decode cX11_start 13 = .ok (.iload_n 2, 1) := by decide +kernel
theorem dX11_start_14 : decode cX11_start 14 = .ok (.invokevirtual 55, 3) := by decide +kernel
theorem dX11_start_17 : decode cX11_start 17 = .ok (.ifCond .ne 9, 3) := by decide +kernel
theorem dX11_start_20 : decode cX11_start 20 = .ok (.aload_n 0, 1) := by decide +kernel
theorem dX11_start_21 : decode cX11_start 21 = .ok (.iconst 1, 1) := by decide +kernel
theorem dX11_start_22 : decode cX11_start 22 = .ok (.invokevirtual 44, 3) := by decide +kernel
theorem dX11_start_25 : decode cX11_start 25 = .ok (.ireturn, 1) := by decide +kernel
theorem dX11_start_26 : decode cX11_start 26 = .ok (.iload_n 3, 1) := by decide +kernel
theorem dX11_start_27 : decode cX11_start 27 = .ok (.bipush 50, 2) := by decide +kernel
theorem dX11_start_29 : decode cX11_start 29 = .ok (.sipush 400, 3) := by decide +kernel
theorem dX11_start_32 : decode cX11_start 32 = .ok (.invokestatic 40, 3) := by decide +kernel
theorem dX11_start_35 : decode cX11_start 35 = .ok (.ifCond .eq 14, 3) := by decide +kernel
theorem dX11_start_38 : decode cX11_start 38 = .ok (.iload 4, 2) := by decide +kernel
theorem dX11_start_40 : decode cX11_start 40 = .ok (.iconst 1, 1) := by decide +kernel
theorem dX11_start_41 : decode cX11_start 41 = .ok (.bipush 20, 2) := by decide +kernel
theorem dX11_start_43 : decode cX11_start 43 = .ok (.invokestatic 40, 3) := by decide +kernel
theorem dX11_start_46 : decode cX11_start 46 = .ok (.ifCond .ne 9, 3) := by decide +kernel
theorem dX11_start_49 : decode cX11_start 49 = .ok (.aload_n 0, 1) := by decide +kernel
theorem dX11_start_50 : decode cX11_start 50 = .ok (.iconst 2, 1) := by decide +kernel
theorem dX11_start_51 : decode cX11_start 51 = .ok (.invokevirtual 44, 3) := by decide +kernel
theorem dX11_start_54 : decode cX11_start 54 = .ok (.ireturn, 1) := by decide +kernel
theorem dX11_start_55 : decode cX11_start 55 = .ok (.aload_n 0, 1) := by decide +kernel
theorem dX11_start_56 : decode cX11_start 56 = .ok (.getfield 22, 3) := by decide +kernel
theorem dX11_start_59 : decode cX11_start 59 = .ok (.iload_n 1, 1) := by decide +kernel
theorem dX11_start_60 : decode cX11_start 60 = .ok (.aaload, 1) := by decide +kernel
theorem dX11_start_61 : decode cX11_start 61 = .ok (.astore 5, 2) := by decide +kernel
theorem dX11_start_63 : decode cX11_start 63 = .ok (.aload_n 0, 1) := by decide +kernel
theorem dX11_start_64 : decode cX11_start 64 = .ok (.getfield 10, 3) := by decide +kernel
theorem dX11_start_67 : decode cX11_start 67 = .ok (.iload_n 2, 1) := by decide +kernel
theorem dX11_start_68 : decode cX11_start 68 = .ok (.invokeinterface 59 2, 5) := by decide +kernel
theorem dX11_start_73 : decode cX11_start 73 = .ok (.checkcast 48, 3) := by decide +kernel
theorem dX11_start_76 : decode cX11_start 76 = .ok (.astore 6, 2) := by decide +kernel
theorem dX11_start_78 : decode cX11_start 78 = .ok (.aload 6, 2) := by decide +kernel
theorem dX11_start_80 : decode cX11_start 80 = .ok (.getfield 63, 3) := by decide +kernel
theorem dX11_start_83 : decode cX11_start 83 = .ok (.ifCond .ne 32, 3) := by decide +kernel
theorem dX11_start_86 : decode cX11_start 86 = .ok (.aload 6, 2) := by decide +kernel
theorem dX11_start_88 : decode cX11_start 88 = .ok (.getfield 66, 3) := by decide +kernel
theorem dX11_start_91 : decode cX11_start 91 = .ok (.invokevirtual 140, 3) := by decide +kernel
theorem dX11_start_94 : decode cX11_start 94 = .ok (.ifCond .eq 21, 3) := by decide +kernel
theorem dX11_start_97 : decode cX11_start 97 = .ok (.aload 5, 2) := by decide +kernel
theorem dX11_start_99 : decode cX11_start 99 = .ok (.getfield 127, 3) := by decide +kernel
theorem dX11_start_102 : decode cX11_start 102 = .ok (.iconst (-1), 1) := by decide +kernel
theorem dX11_start_103 : decode cX11_start 103 = .ok (.if_icmp .ne 12, 3) := by decide +kernel
theorem dX11_start_106 : decode cX11_start 106 = .ok (.aload 5, 2) := by decide +kernel
theorem dX11_start_108 : decode cX11_start 108 = .ok (.getfield 118, 3) := by decide +kernel
theorem dX11_start_111 : decode cX11_start 111 = .ok (.iconst (-1), 1) := by decide +kernel
theorem dX11_start_112 : decode cX11_start 112 = .ok (.if_icmp .ne 9, 3) := by decide +kernel
theorem dX11_start_115 : decode cX11_start 115 = .ok (.aload_n 0, 1) := by decide +kernel
theorem dX11_start_116 : decode cX11_start 116 = .ok (.iconst 3, 1) := by decide +kernel
theorem dX11_start_117 : decode cX11_start 117 = .ok (.invokevirtual 44, 3) := by decide +kernel
theorem dX11_start_120 : decode cX11_start 120 = .ok (.ireturn, 1) := by decide +kernel
theorem dX11_start_121 : decode cX11_start 121 = .ok (.aload 6, 2) := by decide +kernel
theorem dX11_start_123 : decode cX11_start 123 = .ok (.iconst 1, 1) := by decide +kernel
theorem dX11_start_124 : decode cX11_start 124 = .ok (.putfield 63, 3) := by decide +kernel
theorem dX11_start_127 : decode cX11_start 127 = .ok (.aload 6, 2) := by decide +kernel
theorem dX11_start_129 : decode cX11_start 129 = .ok (.new 143, 3) := by decide +kernel
theorem dX11_start_132 : decode cX11_start 132 = .ok (.dup, 1) := by decide +kernel
theorem dX11_start_133 : decode cX11_start 133 = .ok (.iload_n 3, 1) := by decide +kernel
theorem dX11_start_134 : decode cX11_start 134 = .ok (.iload 4, 2) := by decide +kernel
theorem dX11_start_136 : decode cX11_start 136 = .ok (.invokespecial 145, 3) := by decide +kernel
theorem dX11_start_139 : decode cX11_start 139 = .ok (.putfield 148, 3) := by decide +kernel
theorem dX11_start_142 : decode cX11_start 142 = .ok (.aload 6, 2) := by decide +kernel
theorem dX11_start_144 : decode cX11_start 144 = .ok (.iload_n 1, 1) := by decide +kernel
theorem dX11_start_145 : decode cX11_start 145 = .ok (.putfield 152, 3) := by decide +kernel
theorem dX11_start_148 : decode cX11_start 148 = .ok (.aload 6, 2) := by decide +kernel
theorem dX11_start_150 : decode cX11_start 150 = .ok (.iload_n 3, 1) := by decide +kernel
theorem dX11_start_151 : decode cX11_start 151 = .ok (.putfield 153, 3) := by decide +kernel
theorem dX11_start_154 : decode cX11_start 154 = .ok (.aload 6, 2) := by decide +kernel
theorem dX11_start_156 : decode cX11_start 156 = .ok (.iload 4, 2) := by decide +kernel
theorem dX11_start_158 : decode cX11_start 158 = .ok (.putfield 156, 3) := by decide +kernel
theorem dX11_start_161 : decode cX11_start 161 = .ok (.aload 6, 2) := by decide +kernel
theorem dX11_start_163 : decode cX11_start 163 = .ok (.aload_n 0, 1) := by decide +kernel
theorem dX11_start_164 : decode cX11_start 164 = .ok (.getfield 16, 3) := by decide +kernel
theorem dX11_start_167 : decode cX11_start 167 = .ok (.aload 5, 2) := by decide +kernel
theorem dX11_start_169 : decode cX11_start 169 = .ok (.getfield 118, 3) := by decide +kernel
theorem dX11_start_172 : decode cX11_start 172 = .ok (.invokeinterface 59 2, 5) := by decide +kernel
theorem dX11_start_177 : decode cX11_start 177 = .ok (.checkcast 86, 3) := by decide +kernel
theorem dX11_start_180 : decode cX11_start 180 = .ok (.getfield 103, 3) := by decide +kernel
theorem dX11_start_183 : decode cX11_start 183 = .ok (.putfield 159, 3) := by decide +kernel
theorem dX11_start_186 : decode cX11_start 186 = .ok (.aload 6, 2) := by decide +kernel
theorem dX11_start_188 : decode cX11_start 188 = .ok (.aload_n 0, 1) := by decide +kernel
theorem dX11_start_189 : decode cX11_start 189 = .ok (.getfield 16, 3) := by decide +kernel
theorem dX11_start_192 : decode cX11_start 192 = .ok (.aload 5, 2) := by decide +kernel
theorem dX11_start_194 : decode cX11_start 194 = .ok (.getfield 118, 3) := by decide +kernel
theorem dX11_start_197 : decode cX11_start 197 = .ok (.invokeinterface 59 2, 5) := by decide +kernel
theorem dX11_start_202 : decode cX11_start 202 = .ok (.checkcast 86, 3) := by decide +kernel
theorem dX11_start_205 : decode cX11_start 205 = .ok (.getfield 112, 3) := by decide +kernel
theorem dX11_start_208 : decode cX11_start 208 = .ok (.putfield 160, 3) := by decide +kernel
theorem dX11_start_211 : decode cX11_start 211 = .ok (.aload 5, 2) := by decide +kernel
theorem dX11_start_213 : decode cX11_start 213 = .ok (.iload_n 2, 1) := by decide +kernel
theorem dX11_start_214 : decode cX11_start 214 = .ok (.putfield 127, 3) := by decide +kernel
theorem dX11_start_217 : decode cX11_start 217 = .ok (.aload 6, 2) := by decide +kernel
theorem dX11_start_219 : decode cX11_start 219 = .ok (.getfield 66, 3) := by decide +kernel
theorem dX11_start_222 : decode cX11_start 222 = .ok (.invokevirtual 83, 3) := by decide +kernel
theorem dX11_start_225 : decode cX11_start 225 = .ok (.ireturn, 1) := by decide +kernel
theorem dX11_grow_0 : decode cX11_grow 0 = .ok (.aload_n 0, 1) := by decide +kernel
theorem dX11_grow_1 : decode cX11_grow 1 = .ok (.iconst 0, 1) := by decide +kernel
theorem dX11_grow_2 : decode cX11_grow 2 = .ok (.putfield 26, 3) := by decide +kernel
theorem dX11_grow_5 : decode cX11_grow 5 = .ok (.iload_n 1, 1) := by decide +kernel
theorem dX11_grow_6 : decode cX11_grow 6 = .ok (.invokestatic 115, 3) := by decide +kernel
theorem dX11_grow_9 : decode cX11_grow 9 = .ok (.ifCond .ne 9, 3) := by decide +kernel
theorem dX11_grow_12 : decode cX11_grow 12 = .ok (.aload_n 0, 1) := by decide +kernel
theorem dX11_grow_13 : decode cX11_grow 13 = .ok (.iconst 1, 1) := by decide +kernel
theorem dX11_grow_14 : decode cX11_grow 14 = .ok (.invokevirtual 44, 3) := by decide +kernel
theorem dX11_grow_17 : decode cX11_grow 17 = .ok (.ireturn, 1) := by decide +kernel
theorem dX11_grow_18 : decode cX11_grow 18 = .ok (.iload_n 2, 1) := by decide +kernel
theorem dX11_grow_19 : decode cX11_grow 19 = .ok (.iconst 1, 1) := by decide +kernel
theorem dX11_grow_20 : decode cX11_grow 20 = .ok (.bipush 8, 2) := by decide +kernel
theorem dX11_grow_22 : decode cX11_grow 22 = .ok (.invokestatic 40, 3) := by decide +kernel
theorem dX11_grow_25 : decode cX11_grow 25 = .ok (.ifCond .ne 9, 3) := by decide +kernel
theorem dX11_grow_28 : decode cX11_grow 28 = .ok (.aload_n 0, 1) := by decide +kernel
theorem dX11_grow_29 : decode cX11_grow 29 = .ok (.iconst 2, 1) := by decide +kernel
theorem dX11_grow_30 : decode cX11_grow 30 = .ok (.invokevirtual 44, 3) := by decide +kernel
theorem dX11_grow_33 : decode cX11_grow 33 = .ok (.ireturn, 1) := by decide +kernel
theorem dX11_grow_34 : decode cX11_grow 34 = .ok (.aload_n 0, 1) := by decide +kernel
theorem dX11_grow_35 : decode cX11_grow 35 = .ok (.getfield 22, 3) := by decide +kernel
theorem dX11_grow_38 : decode cX11_grow 38 = .ok (.iload_n 1, 1) := by decide +kernel
theorem dX11_grow_39 : decode cX11_grow 39 = .ok (.aaload, 1) := by decide +kernel
theorem dX11_grow_40 : decode cX11_grow 40 = .ok (.astore_n 3, 1) := by decide +kernel
theorem dX11_grow_41 : decode cX11_grow 41 = .ok (.aload_n 3, 1) := by decide +kernel
theorem dX11_grow_42 : decode cX11_grow 42 = .ok (.getfield 127, 3) := by decide +kernel
theorem dX11_grow_45 : decode cX11_grow 45 = .ok (.iconst (-1), 1) := by decide +kernel
theorem dX11_grow_46 : decode cX11_grow 46 = .ok (.if_icmp .ne 9, 3) := by decide +kernel
theorem dX11_grow_49 : decode cX11_grow 49 = .ok (.aload_n 0, 1) := by decide +kernel
theorem dX11_grow_50 : decode cX11_grow 50 = .ok (.iconst 3, 1) := by decide +kernel
theorem dX11_grow_51 : decode cX11_grow 51 = .ok (.invokevirtual 44, 3) := by decide +kernel
theorem dX11_grow_54 : decode cX11_grow 54 = .ok (.ireturn, 1) := by decide +kernel
theorem dX11_grow_55 : decode cX11_grow 55 = .ok (.aload_n 0, 1) := by decide +kernel
theorem dX11_grow_56 : decode cX11_grow 56 = .ok (.getfield 10, 3) := by decide +kernel
theorem dX11_grow_59 : decode cX11_grow 59 = .ok (.aload_n 3, 1) := by decide +kernel
theorem dX11_grow_60 : decode cX11_grow 60 = .ok (.getfield 127, 3) := by decide +kernel
theorem dX11_grow_63 : decode cX11_grow 63 = .ok (.invokeinterface 59 2, 5) := by decide +kernel
theorem dX11_grow_68 : decode cX11_grow 68 = .ok (.checkcast 48, 3) := by decide +kernel
theorem dX11_grow_71 : decode cX11_grow 71 = .ok (.astore 4, 2) := by decide +kernel
theorem dX11_grow_73 : decode cX11_grow 73 = .ok (.iconst 0, 1) := by decide +kernel
theorem dX11_grow_74 : decode cX11_grow 74 = .ok (.istore 5, 2) := by decide +kernel
theorem dX11_grow_76 : decode cX11_grow 76 = .ok (.iload 5, 2) := by decide +kernel
theorem dX11_grow_78 : decode cX11_grow 78 = .ok (.iload_n 2, 1) := by decide +kernel
theorem dX11_grow_79 : decode cX11_grow 79 = .ok (.if_icmp .ge 189, 3) := by decide +kernel
theorem dX11_grow_82 : decode cX11_grow 82 = .ok (.aload 4, 2) := by decide +kernel
theorem dX11_grow_84 : decode cX11_grow 84 = .ok (.getfield 148, 3) := by decide +kernel
theorem dX11_grow_87 : decode cX11_grow 87 = .ok (.getfield 161, 3) := by decide +kernel
theorem dX11_grow_90 : decode cX11_grow 90 = .ok (.istore 6, 2) := by decide +kernel
theorem dX11_grow_92 : decode cX11_grow 92 = .ok (.aload 4, 2) := by decide +kernel
theorem dX11_grow_94 : decode cX11_grow 94 = .ok (.getfield 66, 3) := by decide +kernel
theorem dX11_grow_97 : decode cX11_grow 97 = .ok (.getfield 70, 3) := by decide +kernel
theorem dX11_grow_100 : decode cX11_grow 100 = .ok (.iload 6, 2) := by decide +kernel
theorem dX11_grow_102 : decode cX11_grow 102 = .ok (.laload, 1) := by decide +kernel
theorem dX11_grow_103 : decode cX11_grow 103 = .ok (.invokestatic 76, 3) := by decide +kernel
theorem dX11_grow_106 : decode cX11_grow 106 = .ok (.aload 4, 2) := by decide +kernel
theorem dX11_grow_108 : decode cX11_grow 108 = .ok (.getfield 66, 3) := by decide +kernel
theorem dX11_grow_111 : decode cX11_grow 111 = .ok (.iload 6, 2) := by decide +kernel
theorem dX11_grow_113 : decode cX11_grow 113 = .ok (.invokevirtual 164, 3) := by decide +kernel
theorem dX11_grow_116 : decode cX11_grow 116 = .ok (.invokestatic 76, 3) := by decide +kernel
theorem dX11_grow_119 : decode cX11_grow 119 = .ok (.iadd, 1) := by decide +kernel
theorem dX11_grow_120 : decode cX11_grow 120 = .ok (.istore 7, 2) := by decide +kernel
theorem dX11_grow_122 : decode cX11_grow 122 = .ok (.iload 7, 2) := by decide +kernel
theorem dX11_grow_124 : decode cX11_grow 124 = .ok (.aload_n 3, 1) := by decide +kernel
theorem dX11_grow_125 : decode cX11_grow 125 = .ok (.getfield 124, 3) := by decide +kernel
theorem dX11_grow_128 : decode cX11_grow 128 = .ok (.if_icmp .le 6, 3) := by decide +kernel
theorem dX11_grow_131 : decode cX11_grow 131 = .ok (.iload 5, 2) := by decide +kernel
theorem dX11_grow_133 : decode cX11_grow 133 = .ok (.ireturn, 1) := by decide +kernel
theorem dX11_grow_134 : decode cX11_grow 134 = .ok (.aload_n 3, 1) := by decide +kernel
theorem dX11_grow_135 : decode cX11_grow 135 = .ok (.dup, 1) := by decide +kernel
theorem dX11_grow_136 : decode cX11_grow 136 = .ok (.getfield 124, 3) := by decide +kernel
theorem dX11_grow_139 : decode cX11_grow 139 = .ok (.iload 7, 2) := by decide +kernel
theorem dX11_grow_141 : decode cX11_grow 141 = .ok (.isub, 1) := by decide +kernel
theorem dX11_grow_142 : decode cX11_grow 142 = .ok (.putfield 124, 3) := by decide +kernel
theorem dX11_grow_145 : decode cX11_grow 145 = .ok (.aload 4, 2) := by decide +kernel
theorem dX11_grow_147 : decode cX11_grow 147 = .ok (.getfield 148, 3) := by decide +kernel
theorem dX11_grow_150 : decode cX11_grow 150 = .ok (.aload 4, 2) := by decide +kernel
theorem dX11_grow_152 : decode cX11_grow 152 = .ok (.getfield 66, 3) := by decide +kernel
theorem dX11_grow_155 : decode cX11_grow 155 = .ok (.invokevirtual 168, 3) := by decide +kernel
theorem dX11_grow_158 : decode cX11_grow 158 = .ok (.aload_n 0, 1) := by decide +kernel
theorem dX11_grow_159 : decode cX11_grow 159 = .ok (.dup, 1) := by decide +kernel
theorem dX11_grow_160 : decode cX11_grow 160 = .ok (.getfield 172, 3) := by decide +kernel
theorem dX11_grow_163 : decode cX11_grow 163 = .ok (.iconst 1, 1) := by decide +kernel
theorem dX11_grow_164 : decode cX11_grow 164 = .ok (.iadd, 1) := by decide +kernel
theorem dX11_grow_165 : decode cX11_grow 165 = .ok (.putfield 172, 3) := by decide +kernel
theorem dX11_grow_168 : decode cX11_grow 168 = .ok (.aload 4, 2) := by decide +kernel
theorem dX11_grow_170 : decode cX11_grow 170 = .ok (.getfield 148, 3) := by decide +kernel
theorem dX11_grow_173 : decode cX11_grow 173 = .ok (.getfield 173, 3) := by decide +kernel
theorem dX11_grow_176 : decode cX11_grow 176 = .ok (.ldc2_w 177, 3) := by decide +kernel
theorem dX11_grow_179 : decode cX11_grow 179 = .ok (.dcmp .l, 1) := by decide +kernel
theorem dX11_grow_180 : decode cX11_grow 180 = .ok (.ifCond .le 7, 3) := by decide +kernel
theorem dX11_grow_183 : decode cX11_grow 183 = .ok (.iconst 1, 1) := by decide +kernel
theorem dX11_grow_184 : decode cX11_grow 184 = .ok (.goto 4, 3) := by decide +kernel
theorem dX11_grow_187 : decode cX11_grow 187 = .ok (.iconst 0, 1) := by decide +kernel
theorem dX11_grow_188 : decode cX11_grow 188 = .ok (.istore 8, 2) := by decide +kernel
theorem dX11_grow_190 : decode cX11_grow 190 = .ok (.iload 8, 2) := by decide +kernel
theorem dX11_grow_192 : decode cX11_grow 192 = .ok (.ifCond .ne 25, 3) := by decide +kernel
theorem dX11_grow_195 : decode cX11_grow 195 = .ok (.aload 4, 2) := by decide +kernel
theorem dX11_grow_197 : decode cX11_grow 197 = .ok (.getfield 148, 3) := by decide +kernel
theorem dX11_grow_200 : decode cX11_grow 200 = .ok (.getfield 161, 3) := by decide +kernel
theorem dX11_grow_203 : decode cX11_grow 203 = .ok (.aload 4, 2) := by decide +kernel
theorem dX11_grow_205 : decode cX11_grow 205 = .ok (.getfield 66, 3) := by decide +kernel
theorem dX11_grow_208 : decode cX11_grow 208 = .ok (.invokevirtual 83, 3) := by decide +kernel
theorem dX11_grow_211 : decode cX11_grow 211 = .ok (.if_icmp .ge 6, 3) := by decide +kernel
theorem dX11_grow_214 : decode cX11_grow 214 = .ok (.goto 48, 3) := by decide +kernel
theorem dX11_grow_217 : decode cX11_grow 217 = .ok (.aload 4, 2) := by decide +kernel
theorem dX11_grow_219 : decode cX11_grow 219 = .ok (.iload 8, 2) := by decide +kernel
theorem dX11_grow_221 : decode cX11_grow 221 = .ok (.ifCond .eq 8, 3) := by decide +kernel
theorem dX11_grow_224 : decode cX11_grow 224 = .ok (.bipush 6, 2) := by decide +kernel
theorem dX11_grow_226 : decode cX11_grow 226 = .ok (.goto 4, 3) := by decide +kernel
theorem dX11_grow_229 : decode cX11_grow 229 = .ok (.iconst 2, 1) := by decide +kernel
theorem dX11_grow_230 : decode cX11_grow 230 = .ok (.putfield 63, 3) := by decide +kernel
theorem dX11_grow_233 : decode cX11_grow 233 = .ok (.aload_n 0, 1) := by decide +kernel
theorem dX11_grow_234 : decode cX11_grow 234 = .ok (.dup, 1) := by decide +kernel
theorem dX11_grow_235 : decode cX11_grow 235 = .ok (.getfield 179, 3) := by decide +kernel
theorem dX11_grow_238 : decode cX11_grow 238 = .ok (.iload 8, 2) := by decide +kernel
theorem dX11_grow_240 : decode cX11_grow 240 = .ok (.ifCond .eq 7, 3) := by decide +kernel
theorem dX11_grow_243 : decode cX11_grow 243 = .ok (.iconst 1, 1) := by decide +kernel
theorem dX11_grow_244 : decode cX11_grow 244 = .ok (.goto 4, 3) := by decide +kernel
theorem dX11_grow_247 : decode cX11_grow 247 = .ok (.iconst 0, 1) := by decide +kernel
theorem dX11_grow_248 : decode cX11_grow 248 = .ok (.iadd, 1) := by decide +kernel
theorem dX11_grow_249 : decode cX11_grow 249 = .ok (.putfield 179, 3) := by decide +kernel
theorem dX11_grow_252 : decode cX11_grow 252 = .ok (.aload_n 3, 1) := by decide +kernel
theorem dX11_grow_253 : decode cX11_grow 253 = .ok (.iconst (-1), 1) := by decide +kernel
theorem dX11_grow_254 : decode cX11_grow 254 = .ok (.putfield 127, 3) := by decide +kernel
theorem dX11_grow_257 : decode cX11_grow 257 = .ok (.iload 5, 2) := by decide +kernel
theorem dX11_grow_259 : decode cX11_grow 259 = .ok (.iconst 1, 1) := by decide +kernel
theorem dX11_grow_260 : decode cX11_grow 260 = .ok (.iadd, 1) := by decide +kernel
theorem dX11_grow_261 : decode cX11_grow 261 = .ok (.ireturn, 1) := by decide +kernel
theorem dX11_grow_262 : decode cX11_grow 262 = .ok (.iinc 5 1, 3) := by decide +kernel
theorem dX11_grow_265 : decode cX11_grow 265 = .ok (.goto (-189), 3) := by decide +kernel
theorem dX11_grow_268 : decode cX11_grow 268 = .ok (.iload_n 2, 1) := by decide +kernel
theorem dX11_grow_269 : decode cX11_grow 269 = .ok (.ireturn, 1) := by decide +kernel
theorem dX11_stop_0 : decode cX11_stop 0 = .ok (.aload_n 0, 1) := by decide +kernel
theorem dX11_stop_1 : decode cX11_stop 1 = .ok (.iconst 0, 1) := by decide +kernel
theorem dX11_stop_2 : decode cX11_stop 2 = .ok (.putfield 26, 3) := by decide +kernel
theorem dX11_stop_5 : decode cX11_stop 5 = .ok (.iload_n 1, 1) := by decide +kernel
theorem dX11_stop_6 : decode cX11_stop 6 = .ok (.invokestatic 115, 3) := by decide +kernel
theorem dX11_stop_9 : decode cX11_stop 9 = .ok (.ifCond .ne 9, 3) := by decide +kernel
theorem dX11_stop_12 : decode cX11_stop 12 = .ok (.aload_n 0, 1) := by decide +kernel
theorem dX11_stop_13 : decode cX11_stop 13 = .ok (.iconst 1, 1) := by decide +kernel
theorem dX11_stop_14 : decode cX11_stop 14 = .ok (.invokevirtual 44, 3) := by decide +kernel
theorem dX11_stop_17 : decode cX11_stop 17 = .ok (.ireturn, 1) := by decide +kernel
theorem dX11_stop_18 : decode cX11_stop 18 = .ok (.aload_n 0, 1) := by decide +kernel
theorem dX11_stop_19 : decode cX11_stop 19 = .ok (.getfield 22, 3) := by decide +kernel
theorem dX11_stop_22 : decode cX11_stop 22 = .ok (.iload_n 1, 1) := by decide +kernel
theorem dX11_stop_23 : decode cX11_stop 23 = .ok (.aaload, 1) := by decide +kernel
theorem dX11_stop_24 : decode cX11_stop 24 = .ok (.getfield 127, 3) := by decide +kernel
theorem dX11_stop_27 : decode cX11_stop 27 = .ok (.iconst (-1), 1) := by decide +kernel
theorem dX11_stop_28 : decode cX11_stop 28 = .ok (.if_icmp .ne 9, 3) := by decide +kernel
theorem dX11_stop_31 : decode cX11_stop 31 = .ok (.aload_n 0, 1) := by decide +kernel
theorem dX11_stop_32 : decode cX11_stop 32 = .ok (.iconst 2, 1) := by decide +kernel
theorem dX11_stop_33 : decode cX11_stop 33 = .ok (.invokevirtual 44, 3) := by decide +kernel
theorem dX11_stop_36 : decode cX11_stop 36 = .ok (.ireturn, 1) := by decide +kernel
theorem dX11_stop_37 : decode cX11_stop 37 = .ok (.aload_n 0, 1) := by decide +kernel
theorem dX11_stop_38 : decode cX11_stop 38 = .ok (.getfield 10, 3) := by decide +kernel
theorem dX11_stop_41 : decode cX11_stop 41 = .ok (.aload_n 0, 1) := by decide +kernel
theorem dX11_stop_42 : decode cX11_stop 42 = .ok (.getfield 22, 3) := by decide +kernel
theorem dX11_stop_45 : decode cX11_stop 45 = .ok (.iload_n 1, 1) := by decide +kernel
theorem dX11_stop_46 : decode cX11_stop 46 = .ok (.aaload, 1) := by decide +kernel
theorem dX11_stop_47 : decode cX11_stop 47 = .ok (.getfield 127, 3) := by decide +kernel
theorem dX11_stop_50 : decode cX11_stop 50 = .ok (.invokeinterface 59 2, 5) := by decide +kernel
theorem dX11_stop_55 : decode cX11_stop 55 = .ok (.checkcast 48, 3) := by decide +kernel
theorem dX11_stop_58 : decode cX11_stop 58 = .ok (.astore_n 2, 1) := by decide +kernel
theorem dX11_stop_59 : decode cX11_stop 59 = .ok (.iconst 0, 1) := by decide +kernel
theorem dX11_stop_60 : decode cX11_stop 60 = .ok (.istore_n 3, 1) := by decide +kernel
theorem dX11_stop_61 : decode cX11_stop 61 = .ok (.iload_n 3, 1) := by decide +kernel
theorem dX11_stop_62 : decode cX11_stop 62 = .ok (.bipush 64, 2) := by decide +kernel
theorem dX11_stop_64 : decode cX11_stop 64 = .ok (.if_icmp .ge 19, 3) := by decide +kernel
theorem dX11_stop_67 : decode cX11_stop 67 = .ok (.aload_n 2, 1) := by decide +kernel
theorem dX11_stop_68 : decode cX11_stop 68 = .ok (.getfield 148, 3) := by decide +kernel
theorem dX11_stop_71 : decode cX11_stop 71 = .ok (.getfield 182, 3) := by decide +kernel
theorem dX11_stop_74 : decode cX11_stop 74 = .ok (.iload_n 3, 1) := by decide +kernel
theorem dX11_stop_75 : decode cX11_stop 75 = .ok (.dconst 0, 1) := by decide +kernel
theorem dX11_stop_76 : decode cX11_stop 76 = .ok (.dastore, 1) := by decide +kernel
theorem dX11_stop_77 : decode cX11_stop 77 = .ok (.iinc 3 1, 3) := by decide +kernel
theorem dX11_stop_80 : decode cX11_stop 80 = .ok (.goto (-19), 3) := by decide +kernel
theorem dX11_stop_83 : decode cX11_stop 83 = .ok (.aload_n 2, 1) := by decide +kernel
theorem dX11_stop_84 : decode cX11_stop 84 = .ok (.dup, 1) := by decide +kernel
theorem dX11_stop_85 : decode cX11_stop 85 = .ok (.getfield 186, 3) := by decide +kernel
theorem dX11_stop_88 : decode cX11_stop 88 = .ok (.iconst 1, 1) := by decide +kernel
theorem dX11_stop_89 : decode cX11_stop 89 = .ok (.iadd, 1) := by decide +kernel
theorem dX11_stop_90 : decode cX11_stop 90 = .ok (.putfield 186, 3) := by decide +kernel
theorem dX11_stop_93 : decode cX11_stop 93 = .ok (.aload_n 2, 1) := by decide +kernel
theorem dX11_stop_94 : decode cX11_stop 94 = .ok (.getfield 186, 3) := by decide +kernel
theorem dX11_stop_97 : decode cX11_stop 97 = .ok (.ireturn, 1) := by decide +kernel
theorem dX11_relieve_0 : decode cX11_relieve 0 = .ok (.aload_n 0, 1) := by decide +kernel
theorem dX11_relieve_1 : decode cX11_relieve 1 = .ok (.iconst 0, 1) := by decide +kernel
theorem dX11_relieve_2 : decode cX11_relieve 2 = .ok (.putfield 26, 3) := by decide +kernel
theorem dX11_relieve_5 : decode cX11_relieve 5 = .ok (.aload_n 0, 1) := by decide +kernel
theorem dX11_relieve_6 : decode cX11_relieve 6 = .ok (.iload_n 1, 1) := by decide +kernel
theorem dX11_relieve_7 : decode cX11_relieve 7 = .ok (.invokevirtual 55, 3) := by decide +kernel
theorem dX11_relieve_10 : decode cX11_relieve 10 = .ok (.ifCond .ne 9, 3) := by decide +kernel
theorem dX11_relieve_13 : decode cX11_relieve 13 = .ok (.aload_n 0, 1) := by decide +kernel
theorem dX11_relieve_14 : decode cX11_relieve 14 = .ok (.iconst 1, 1) := by decide +kernel
theorem dX11_relieve_15 : decode cX11_relieve 15 = .ok (.invokevirtual 44, 3) := by decide +kernel
theorem dX11_relieve_18 : decode cX11_relieve 18 = .ok (.ireturn, 1) := by decide +kernel
theorem dX11_relieve_19 : decode cX11_relieve 19 = .ok (.aload_n 0, 1) := by decide +kernel
theorem dX11_relieve_20 : decode cX11_relieve 20 = .ok (.getfield 10, 3) := by decide +kernel
theorem dX11_relieve_23 : decode cX11_relieve 23 = .ok (.iload_n 1, 1) := by decide +kernel
theorem dX11_relieve_24 : decode cX11_relieve 24 = .ok (.invokeinterface 59 2, 5) := by decide +kernel
theorem dX11_relieve_29 : decode cX11_relieve 29 = .ok (.checkcast 48, 3) := by decide +kernel
theorem dX11_relieve_32 : decode cX11_relieve 32 = .ok (.getfield 63, 3) := by decide +kernel
theorem dX11_relieve_35 : decode cX11_relieve 35 = .ok (.iconst 2, 1) := by decide +kernel
theorem dX11_relieve_36 : decode cX11_relieve 36 = .ok (.if_icmp .eq 9, 3) := by decide +kernel
theorem dX11_relieve_39 : decode cX11_relieve 39 = .ok (.aload_n 0, 1) := by decide +kernel
theorem dX11_relieve_40 : decode cX11_relieve 40 = .ok (.iconst 2, 1) := by decide +kernel
theorem dX11_relieve_41 : decode cX11_relieve 41 = .ok (.invokevirtual 44, 3) := by decide +kernel
theorem dX11_relieve_44 : decode cX11_relieve 44 = .ok (.ireturn, 1) := by decide +kernel
theorem dX11_relieve_45 : decode cX11_relieve 45 = .ok (.aload_n 0, 1) := by decide +kernel
theorem dX11_relieve_46 : decode cX11_relieve 46 = .ok (.getfield 10, 3) := by decide +kernel
theorem dX11_relieve_49 : decode cX11_relieve 49 = .ok (.iload_n 1, 1) := by decide +kernel
theorem dX11_relieve_50 : decode cX11_relieve 50 = .ok (.invokeinterface 59 2, 5) := by decide +kernel
theorem dX11_relieve_55 : decode cX11_relieve 55 = .ok (.checkcast 48, 3) := by decide +kernel
theorem dX11_relieve_58 : decode cX11_relieve 58 = .ok (.iconst 3, 1) := by decide +kernel
theorem dX11_relieve_59 : decode cX11_relieve 59 = .ok (.putfield 63, 3) := by decide +kernel
theorem dX11_relieve_62 : decode cX11_relieve 62 = .ok (.aload_n 0, 1) := by decide +kernel
theorem dX11_relieve_63 : decode cX11_relieve 63 = .ok (.getfield 10, 3) := by decide +kernel
theorem dX11_relieve_66 : decode cX11_relieve 66 = .ok (.iload_n 1, 1) := by decide +kernel
theorem dX11_relieve_67 : decode cX11_relieve 67 = .ok (.invokeinterface 59 2, 5) := by decide +kernel
theorem dX11_relieve_72 : decode cX11_relieve 72 = .ok (.checkcast 48, 3) := by decide +kernel
theorem dX11_relieve_75 : decode cX11_relieve 75 = .ok (.getfield 148, 3) := by decide +kernel
theorem dX11_relieve_78 : decode cX11_relieve 78 = .ok (.getfield 189, 3) := by decide +kernel
theorem dX11_relieve_81 : decode cX11_relieve 81 = .ok (.ireturn, 1) := by decide +kernel
theorem dX11_saw_0 : decode cX11_saw 0 = .ok (.aload_n 0, 1) := by decide +kernel
theorem dX11_saw_1 : decode cX11_saw 1 = .ok (.iconst 0, 1) := by decide +kernel
theorem dX11_saw_2 : decode cX11_saw 2 = .ok (.putfield 26, 3) := by decide +kernel
theorem dX11_saw_5 : decode cX11_saw 5 = .ok (.aload_n 0, 1) := by decide +kernel
theorem dX11_saw_6 : decode cX11_saw 6 = .ok (.iload_n 1, 1) := by decide +kernel
theorem dX11_saw_7 : decode cX11_saw 7 = .ok (.invokevirtual 55, 3) := by decide +kernel
theorem dX11_saw_10 : decode cX11_saw 10 = .ok (.ifCond .ne 17, 3) := by decide +kernel
theorem dX11_saw_13 : decode cX11_saw 13 = .ok (.aload_n 0, 1) := by decide +kernel
theorem dX11_saw_14 : decode cX11_saw 14 = .ok (.iconst 1, 1) := by decide +kernel
theorem dX11_saw_15 : decode cX11_saw 15 = .ok (.invokevirtual 44, 3) := by decide +kernel
theorem dX11_saw_18 : decode cX11_saw 18 = .ok (.ifCond .le 7, 3) := by decide +kernel
theorem dX11_saw_21 : decode cX11_saw 21 = .ok (.iconst 1, 1) := by decide +kernel
theorem dX11_saw_22 : decode cX11_saw 22 = .ok (.goto 4, 3) := by decide +kernel
theorem dX11_saw_25 : decode cX11_saw 25 = .ok (.iconst 0, 1) := by decide +kernel
theorem dX11_saw_26 : decode cX11_saw 26 = .ok (.ireturn, 1) := by decide +kernel
theorem dX11_saw_27 : decode cX11_saw 27 = .ok (.aload_n 0, 1) := by decide +kernel
theorem dX11_saw_28 : decode cX11_saw 28 = .ok (.getfield 10, 3) := by decide +kernel
theorem dX11_saw_31 : decode cX11_saw 31 = .ok (.iload_n 1, 1) := by decide +kernel
theorem dX11_saw_32 : decode cX11_saw 32 = .ok (.invokeinterface 59 2, 5) := by decide +kernel
theorem dX11_saw_37 : decode cX11_saw 37 = .ok (.checkcast 48, 3) := by decide +kernel
theorem dX11_saw_40 : decode cX11_saw 40 = .ok (.astore_n 2, 1) := by decide +kernel
theorem dX11_saw_41 : decode cX11_saw 41 = .ok (.aload_n 2, 1) := by decide +kernel
theorem dX11_saw_42 : decode cX11_saw 42 = .ok (.getfield 63, 3) := by decide +kernel
theorem dX11_saw_45 : decode cX11_saw 45 = .ok (.iconst 2, 1) := by decide +kernel
theorem dX11_saw_46 : decode cX11_saw 46 = .ok (.iconst 3, 1) := by decide +kernel
theorem dX11_saw_47 : decode cX11_saw 47 = .ok (.invokestatic 40, 3) := by decide +kernel
theorem dX11_saw_50 : decode cX11_saw 50 = .ok (.ifCond .ne 17, 3) := by decide +kernel
theorem dX11_saw_53 : decode cX11_saw 53 = .ok (.aload_n 0, 1) := by decide +kernel
theorem dX11_saw_54 : decode cX11_saw 54 = .ok (.iconst 2, 1) := by decide +kernel
theorem dX11_saw_55 : decode cX11_saw 55 = .ok (.invokevirtual 44, 3) := by decide +kernel
theorem dX11_saw_58 : decode cX11_saw 58 = .ok (.ifCond .le 7, 3) := by decide +kernel
theorem dX11_saw_61 : decode cX11_saw 61 = .ok (.iconst 1, 1) := by decide +kernel
theorem dX11_saw_62 : decode cX11_saw 62 = .ok (.goto 4, 3) := by decide +kernel
theorem dX11_saw_65 : decode cX11_saw 65 = .ok (.iconst 0, 1) := by decide +kernel
theorem dX11_saw_66 : decode cX11_saw 66 = .ok (.ireturn, 1) := by decide +kernel
theorem dX11_saw_67 : decode cX11_saw 67 = .ok (.aload_n 2, 1) := by decide +kernel
theorem dX11_saw_68 : decode cX11_saw 68 = .ok (.aload_n 2, 1) := by decide +kernel
theorem dX11_saw_69 : decode cX11_saw 69 = .ok (.getfield 63, 3) := by decide +kernel
theorem dX11_saw_72 : decode cX11_saw 72 = .ok (.iconst 2, 1) := by decide +kernel
theorem dX11_saw_73 : decode cX11_saw 73 = .ok (.if_icmp .ne 8, 3) := by decide +kernel
theorem dX11_saw_76 : decode cX11_saw 76 = .ok (.bipush 6, 2) := by decide +kernel
theorem dX11_saw_78 : decode cX11_saw 78 = .ok (.goto 4, 3) := by decide +kernel
theorem dX11_saw_81 : decode cX11_saw 81 = .ok (.iconst 4, 1) := by decide +kernel
theorem dX11_saw_82 : decode cX11_saw 82 = .ok (.putfield 63, 3) := by decide +kernel
theorem dX11_saw_85 : decode cX11_saw 85 = .ok (.aload_n 2, 1) := by decide +kernel
theorem dX11_saw_86 : decode cX11_saw 86 = .ok (.getfield 63, 3) := by decide +kernel
theorem dX11_saw_89 : decode cX11_saw 89 = .ok (.iconst 4, 1) := by decide +kernel
theorem dX11_saw_90 : decode cX11_saw 90 = .ok (.if_icmp .ne 7, 3) := by decide +kernel
theorem dX11_saw_93 : decode cX11_saw 93 = .ok (.iconst 1, 1) := by decide +kernel
theorem dX11_saw_94 : decode cX11_saw 94 = .ok (.goto 4, 3) := by decide +kernel
theorem dX11_saw_97 : decode cX11_saw 97 = .ok (.iconst 0, 1) := by decide +kernel
theorem dX11_saw_98 : decode cX11_saw 98 = .ok (.ireturn, 1) := by decide +kernel
theorem dX11_press_0 : decode cX11_press 0 = .ok (.aload_n 0, 1) := by decide +kernel
theorem dX11_press_1 : decode cX11_press 1 = .ok (.iconst 0, 1) := by decide +kernel
theorem dX11_press_2 : decode cX11_press 2 = .ok (.putfield 26, 3) := by decide +kernel
theorem dX11_press_5 : decode cX11_press 5 = .ok (.aload_n 0, 1) := by decide +kernel
theorem dX11_press_6 : decode cX11_press 6 = .ok (.iload_n 1, 1) := by decide +kernel
theorem dX11_press_7 : decode cX11_press 7 = .ok (.invokevirtual 55, 3) := by decide +kernel
theorem dX11_press_10 : decode cX11_press 10 = .ok (.ifCond .ne 9, 3) := by decide +kernel
theorem dX11_press_13 : decode cX11_press 13 = .ok (.aload_n 0, 1) := by decide +kernel
theorem dX11_press_14 : decode cX11_press 14 = .ok (.iconst 1, 1) := by decide +kernel
theorem dX11_press_15 : decode cX11_press 15 = .ok (.invokevirtual 44, 3) := by decide +kernel
theorem dX11_press_18 : decode cX11_press 18 = .ok (.ireturn, 1) := by decide +kernel
theorem dX11_press_19 : decode cX11_press 19 = .ok (.aload_n 0, 1) := by decide +kernel
theorem dX11_press_20 : decode cX11_press 20 = .ok (.getfield 10, 3) := by decide +kernel
theorem dX11_press_23 : decode cX11_press 23 = .ok (.iload_n 1, 1) := by decide +kernel
theorem dX11_press_24 : decode cX11_press 24 = .ok (.invokeinterface 59 2, 5) := by decide +kernel
theorem dX11_press_29 : decode cX11_press 29 = .ok (.checkcast 48, 3) := by decide +kernel
theorem dX11_press_32 : decode cX11_press 32 = .ok (.astore_n 2, 1) := by decide +kernel
theorem dX11_press_33 : decode cX11_press 33 = .ok (.aload_n 2, 1) := by decide +kernel
theorem dX11_press_34 : decode cX11_press 34 = .ok (.getfield 63, 3) := by decide +kernel
theorem dX11_press_37 : decode cX11_press 37 = .ok (.iconst 3, 1) := by decide +kernel
theorem dX11_press_38 : decode cX11_press 38 = .ok (.iconst 4, 1) := by decide +kernel
theorem dX11_press_39 : decode cX11_press 39 = .ok (.invokestatic 40, 3) := by decide +kernel
theorem dX11_press_42 : decode cX11_press 42 = .ok (.ifCond .ne 9, 3) := by decide +kernel
theorem dX11_press_45 : decode cX11_press 45 = .ok (.aload_n 0, 1) := by decide +kernel
theorem dX11_press_46 : decode cX11_press 46 = .ok (.iconst 2, 1) := by decide +kernel
theorem dX11_press_47 : decode cX11_press 47 = .ok (.invokevirtual 44, 3) := by decide +kernel
theorem dX11_press_50 : decode cX11_press 50 = .ok (.ireturn, 1) := by decide +kernel
theorem dX11_press_51 : decode cX11_press 51 = .ok (.aload_n 2, 1) := by decide +kernel
theorem dX11_press_52 : decode cX11_press 52 = .ok (.getfield 148, 3) := by decide +kernel
theorem dX11_press_55 : decode cX11_press 55 = .ok (.dup, 1) := by decide +kernel
theorem dX11_press_56 : decode cX11_press 56 = .ok (.getfield 189, 3) := by decide +kernel
theorem dX11_press_59 : decode cX11_press 59 = .ok (.iconst 4, 1) := by decide +kernel
theorem dX11_press_60 : decode cX11_press 60 = .ok (.idiv, 1) := by decide +kernel
theorem dX11_press_61 : decode cX11_press 61 = .ok (.putfield 189, 3) := by decide +kernel
theorem dX11_press_64 : decode cX11_press 64 = .ok (.aload_n 2, 1) := by decide +kernel
theorem dX11_press_65 : decode cX11_press 65 = .ok (.getfield 148, 3) := by decide +kernel
theorem dX11_press_68 : decode cX11_press 68 = .ok (.getfield 189, 3) := by decide +kernel
theorem dX11_press_71 : decode cX11_press 71 = .ok (.ireturn, 1) := by decide +kernel
theorem dX11_alloyOf_0 : decode cX11_alloyOf 0 = .ok (.iconst (-1), 1) := by decide +kernel
theorem dX11_alloyOf_1 : decode cX11_alloyOf 1 = .ok (.istore_n 2, 1) := by decide +kernel
theorem dX11_alloyOf_2 : decode cX11_alloyOf 2 = .ok (.iconst 0, 1) := by decide +kernel
theorem dX11_alloyOf_3 : decode cX11_alloyOf 3 = .ok (.istore_n 3, 1) := by decide +kernel
theorem dX11_alloyOf_4 : decode cX11_alloyOf 4 = .ok (.iload_n 3, 1) := by decide +kernel
theorem dX11_alloyOf_5 : decode cX11_alloyOf 5 = .ok (.aload_n 0, 1) := by decide +kernel
theorem dX11_alloyOf_6 : decode cX11_alloyOf 6 = .ok (.getfield 16, 3) := by decide +kernel
theorem dX11_alloyOf_9 : decode cX11_alloyOf 9 = .ok (.invokeinterface 34 1, 5) := by decide +kernel
theorem dX11_alloyOf_14 : decode cX11_alloyOf 14 = .ok (.if_icmp .ge 42, 3) := by decide +kernel
theorem dX11_alloyOf_17 : decode cX11_alloyOf 17 = .ok (.aload_n 1, 1) := by decide +kernel
theorem dX11_alloyOf_18 : decode cX11_alloyOf 18 = .ok (.getfield 160, 3) := by decide +kernel
theorem dX11_alloyOf_21 : decode cX11_alloyOf 21 = .ok (.iload_n 3, 1) := by decide +kernel
theorem dX11_alloyOf_22 : decode cX11_alloyOf 22 = .ok (.ishr, 1) := by decide +kernel
theorem dX11_alloyOf_23 : decode cX11_alloyOf 23 = .ok (.iconst 1, 1) := by decide +kernel
theorem dX11_alloyOf_24 : decode cX11_alloyOf 24 = .ok (.iand, 1) := by decide +kernel
theorem dX11_alloyOf_25 : decode cX11_alloyOf 25 = .ok (.iconst 1, 1) := by decide +kernel
theorem dX11_alloyOf_26 : decode cX11_alloyOf 26 = .ok (.if_icmp .ne 22, 3) := by decide +kernel
theorem dX11_alloyOf_29 : decode cX11_alloyOf 29 = .ok (.aload_n 0, 1) := by decide +kernel
theorem dX11_alloyOf_30 : decode cX11_alloyOf 30 = .ok (.getfield 16, 3) := by decide +kernel
theorem dX11_alloyOf_33 : decode cX11_alloyOf 33 = .ok (.iload_n 3, 1) := by decide +kernel
theorem dX11_alloyOf_34 : decode cX11_alloyOf 34 = .ok (.invokeinterface 59 2, 5) := by decide +kernel
theorem dX11_alloyOf_39 : decode cX11_alloyOf 39 = .ok (.checkcast 86, 3) := by decide +kernel
theorem dX11_alloyOf_42 : decode cX11_alloyOf 42 = .ok (.getfield 94, 3) := by decide +kernel
theorem dX11_alloyOf_45 : decode cX11_alloyOf 45 = .ok (.goto 4, 3) := by decide +kernel
theorem dX11_alloyOf_48 : decode cX11_alloyOf 48 = .ok (.iload_n 2, 1) := by decide +kernel
theorem dX11_alloyOf_49 : decode cX11_alloyOf 49 = .ok (.istore_n 2, 1) := by decide +kernel
theorem dX11_alloyOf_50 : decode cX11_alloyOf 50 = .ok (.iinc 3 1, 3) := by decide +kernel
theorem dX11_alloyOf_53 : decode cX11_alloyOf 53 = .ok (.goto (-49), 3) := by decide +kernel
theorem dX11_alloyOf_56 : decode cX11_alloyOf 56 = .ok (.iload_n 2, 1) := by decide +kernel
theorem dX11_alloyOf_57 : decode cX11_alloyOf 57 = .ok (.ireturn, 1) := by decide +kernel
theorem dX11_prove_0 : decode cX11_prove 0 = .ok (.aload_n 0, 1) := by decide +kernel
theorem dX11_prove_1 : decode cX11_prove 1 = .ok (.iconst 0, 1) := by decide +kernel
theorem dX11_prove_2 : decode cX11_prove 2 = .ok (.putfield 26, 3) := by decide +kernel
theorem dX11_prove_5 : decode cX11_prove 5 = .ok (.aload_n 0, 1) := by decide +kernel
theorem dX11_prove_6 : decode cX11_prove 6 = .ok (.iload_n 1, 1) := by decide +kernel
theorem dX11_prove_7 : decode cX11_prove 7 = .ok (.invokevirtual 55, 3) := by decide +kernel
theorem dX11_prove_10 : decode cX11_prove 10 = .ok (.ifCond .ne 17, 3) := by decide +kernel
theorem dX11_prove_13 : decode cX11_prove 13 = .ok (.aload_n 0, 1) := by decide +kernel
theorem dX11_prove_14 : decode cX11_prove 14 = .ok (.iconst 1, 1) := by decide +kernel
theorem dX11_prove_15 : decode cX11_prove 15 = .ok (.invokevirtual 44, 3) := by decide +kernel
theorem dX11_prove_18 : decode cX11_prove 18 = .ok (.ifCond .le 7, 3) := by decide +kernel
theorem dX11_prove_21 : decode cX11_prove 21 = .ok (.iconst 1, 1) := by decide +kernel
theorem dX11_prove_22 : decode cX11_prove 22 = .ok (.goto 4, 3) := by decide +kernel
theorem dX11_prove_25 : decode cX11_prove 25 = .ok (.iconst 0, 1) := by decide +kernel
theorem dX11_prove_26 : decode cX11_prove 26 = .ok (.ireturn, 1) := by decide +kernel
theorem dX11_prove_27 : decode cX11_prove 27 = .ok (.aload_n 0, 1) := by decide +kernel
theorem dX11_prove_28 : decode cX11_prove 28 = .ok (.getfield 10, 3) := by decide +kernel
theorem dX11_prove_31 : decode cX11_prove 31 = .ok (.iload_n 1, 1) := by decide +kernel
theorem dX11_prove_32 : decode cX11_prove 32 = .ok (.invokeinterface 59 2, 5) := by decide +kernel
theorem dX11_prove_37 : decode cX11_prove 37 = .ok (.checkcast 48, 3) := by decide +kernel
theorem dX11_prove_40 : decode cX11_prove 40 = .ok (.astore_n 2, 1) := by decide +kernel
theorem dX11_prove_41 : decode cX11_prove 41 = .ok (.aload_n 2, 1) := by decide +kernel
theorem dX11_prove_42 : decode cX11_prove 42 = .ok (.getfield 63, 3) := by decide +kernel
theorem dX11_prove_45 : decode cX11_prove 45 = .ok (.iconst 4, 1) := by decide +kernel
theorem dX11_prove_46 : decode cX11_prove 46 = .ok (.if_icmp .eq 17, 3) := by decide +kernel
theorem dX11_prove_49 : decode cX11_prove 49 = .ok (.aload_n 0, 1) := by decide +kernel
theorem dX11_prove_50 : decode cX11_prove 50 = .ok (.iconst 2, 1) := by decide +kernel
theorem dX11_prove_51 : decode cX11_prove 51 = .ok (.invokevirtual 44, 3) := by decide +kernel
theorem dX11_prove_54 : decode cX11_prove 54 = .ok (.ifCond .le 7, 3) := by decide +kernel
theorem dX11_prove_57 : decode cX11_prove 57 = .ok (.iconst 1, 1) := by decide +kernel
theorem dX11_prove_58 : decode cX11_prove 58 = .ok (.goto 4, 3) := by decide +kernel
theorem dX11_prove_61 : decode cX11_prove 61 = .ok (.iconst 0, 1) := by decide +kernel
theorem dX11_prove_62 : decode cX11_prove 62 = .ok (.ireturn, 1) := by decide +kernel
theorem dX11_prove_63 : decode cX11_prove 63 = .ok (.aload_n 2, 1) := by decide +kernel
theorem dX11_prove_64 : decode cX11_prove 64 = .ok (.invokevirtual 192, 3) := by decide +kernel
theorem dX11_prove_67 : decode cX11_prove 67 = .ok (.ldc2_w 196, 3) := by decide +kernel
theorem dX11_prove_70 : decode cX11_prove 70 = .ok (.dcmp .g, 1) := by decide +kernel
theorem dX11_prove_71 : decode cX11_prove 71 = .ok (.ifCond .ge 5, 3) := by decide +kernel
theorem dX11_prove_74 : decode cX11_prove 74 = .ok (.iconst 0, 1) := by decide +kernel
theorem dX11_prove_75 : decode cX11_prove 75 = .ok (.ireturn, 1) := by decide +kernel
theorem dX11_prove_76 : decode cX11_prove 76 = .ok (.aload_n 0, 1) := by decide +kernel
theorem dX11_prove_77 : decode cX11_prove 77 = .ok (.getfield 22, 3) := by decide +kernel
theorem dX11_prove_80 : decode cX11_prove 80 = .ok (.aload_n 2, 1) := by decide +kernel
theorem dX11_prove_81 : decode cX11_prove 81 = .ok (.getfield 152, 3) := by decide +kernel
theorem dX11_prove_84 : decode cX11_prove 84 = .ok (.aaload, 1) := by decide +kernel
theorem dX11_prove_85 : decode cX11_prove 85 = .ok (.astore_n 3, 1) := by decide +kernel
theorem dX11_prove_86 : decode cX11_prove 86 = .ok (.iconst 3, 1) := by decide +kernel
theorem dX11_prove_87 : decode cX11_prove 87 = .ok (.newarray .int, 2) := by decide +kernel
theorem dX11_prove_89 : decode cX11_prove 89 = .ok (.dup, 1) := by decide +kernel
theorem dX11_prove_90 : decode cX11_prove 90 = .ok (.iconst 0, 1) := by decide +kernel
theorem dX11_prove_91 : decode cX11_prove 91 = .ok (.aload_n 0, 1) := by decide +kernel
theorem dX11_prove_92 : decode cX11_prove 92 = .ok (.aload_n 2, 1) := by decide +kernel
theorem dX11_prove_93 : decode cX11_prove 93 = .ok (.invokevirtual 198, 3) := by decide +kernel
theorem dX11_prove_96 : decode cX11_prove 96 = .ok (.iastore, 1) := by decide +kernel
theorem dX11_prove_97 : decode cX11_prove 97 = .ok (.dup, 1) := by decide +kernel
theorem dX11_prove_98 : decode cX11_prove 98 = .ok (.iconst 1, 1) := by decide +kernel
theorem dX11_prove_99 : decode cX11_prove 99 = .ok (.aload_n 2, 1) := by decide +kernel
theorem dX11_prove_100 : decode cX11_prove 100 = .ok (.getfield 153, 3) := by decide +kernel
theorem dX11_prove_103 : decode cX11_prove 103 = .ok (.iastore, 1) := by decide +kernel
theorem dX11_prove_104 : decode cX11_prove 104 = .ok (.dup, 1) := by decide +kernel
theorem dX11_prove_105 : decode cX11_prove 105 = .ok (.iconst 2, 1) := by decide +kernel
theorem dX11_prove_106 : decode cX11_prove 106 = .ok (.aload_n 2, 1) := by decide +kernel
theorem dX11_prove_107 : decode cX11_prove 107 = .ok (.getfield 156, 3) := by decide +kernel
theorem dX11_prove_110 : decode cX11_prove 110 = .ok (.iastore, 1) := by decide +kernel
theorem dX11_prove_111 : decode cX11_prove 111 = .ok (.astore 4, 2) := by decide +kernel
theorem dX11_prove_113 : decode cX11_prove 113 = .ok (.aload_n 3, 1) := by decide +kernel
theorem dX11_prove_114 : decode cX11_prove 114 = .ok (.aload 4, 2) := by decide +kernel
theorem dX11_prove_116 : decode cX11_prove 116 = .ok (.iconst 0, 1) := by decide +kernel
theorem dX11_prove_117 : decode cX11_prove 117 = .ok (.iaload, 1) := by decide +kernel
theorem dX11_prove_118 : decode cX11_prove 118 = .ok (.aload_n 2, 1) := by decide +kernel
theorem dX11_prove_119 : decode cX11_prove 119 = .ok (.getfield 153, 3) := by decide +kernel
theorem dX11_prove_122 : decode cX11_prove 122 = .ok (.aload_n 2, 1) := by decide +kernel
theorem dX11_prove_123 : decode cX11_prove 123 = .ok (.getfield 156, 3) := by decide +kernel
theorem dX11_prove_126 : decode cX11_prove 126 = .ok (.invokevirtual 202, 3) := by decide +kernel
theorem dX11_prove_129 : decode cX11_prove 129 = .ok (.ifCond .ne 15, 3) := by decide +kernel
theorem dX11_prove_132 : decode cX11_prove 132 = .ok (.aload_n 3, 1) := by decide +kernel
theorem dX11_prove_133 : decode cX11_prove 133 = .ok (.getfield 134, 3) := by decide +kernel
theorem dX11_prove_136 : decode cX11_prove 136 = .ok (.aload 4, 2) := by decide +kernel
theorem dX11_prove_138 : decode cX11_prove 138 = .ok (.invokeinterface 51 2, 5) := by decide +kernel
theorem dX11_prove_143 : decode cX11_prove 143 = .ok (.pop, 1) := by decide +kernel
theorem dX11_prove_144 : decode cX11_prove 144 = .ok (.iconst 1, 1) := by decide +kernel
theorem dX11_prove_145 : decode cX11_prove 145 = .ok (.ireturn, 1) := by decide +kernel
theorem dX11_accept_0 : decode cX11_accept 0 = .ok (.aload_n 0, 1) := by decide +kernel
theorem dX11_accept_1 : decode cX11_accept 1 = .ok (.iconst 0, 1) := by decide +kernel
theorem dX11_accept_2 : decode cX11_accept 2 = .ok (.putfield 26, 3) := by decide +kernel
theorem dX11_accept_5 : decode cX11_accept 5 = .ok (.aload_n 0, 1) := by decide +kernel
theorem dX11_accept_6 : decode cX11_accept 6 = .ok (.iload_n 1, 1) := by decide +kernel
theorem dX11_accept_7 : decode cX11_accept 7 = .ok (.invokevirtual 55, 3) := by decide +kernel
theorem dX11_accept_10 : decode cX11_accept 10 = .ok (.ifCond .ne 9, 3) := by decide +kernel
theorem dX11_accept_13 : decode cX11_accept 13 = .ok (.aload_n 0, 1) := by decide +kernel
theorem dX11_accept_14 : decode cX11_accept 14 = .ok (.iconst 1, 1) := by decide +kernel
theorem dX11_accept_15 : decode cX11_accept 15 = .ok (.invokevirtual 44, 3) := by decide +kernel
theorem dX11_accept_18 : decode cX11_accept 18 = .ok (.ireturn, 1) := by decide +kernel
theorem dX11_accept_19 : decode cX11_accept 19 = .ok (.aload_n 0, 1) := by decide +kernel
theorem dX11_accept_20 : decode cX11_accept 20 = .ok (.getfield 10, 3) := by decide +kernel
theorem dX11_accept_23 : decode cX11_accept 23 = .ok (.iload_n 1, 1) := by decide +kernel
theorem dX11_accept_24 : decode cX11_accept 24 = .ok (.invokeinterface 59 2, 5) := by decide +kernel
theorem dX11_accept_29 : decode cX11_accept 29 = .ok (.checkcast 48, 3) := by decide +kernel
theorem dX11_accept_32 : decode cX11_accept 32 = .ok (.astore_n 2, 1) := by decide +kernel
theorem dX11_accept_33 : decode cX11_accept 33 = .ok (.aload_n 2, 1) := by decide +kernel
theorem dX11_accept_34 : decode cX11_accept 34 = .ok (.getfield 63, 3) := by decide +kernel
theorem dX11_accept_37 : decode cX11_accept 37 = .ok (.iconst 4, 1) := by decide +kernel
theorem dX11_accept_38 : decode cX11_accept 38 = .ok (.if_icmp .eq 9, 3) := by decide +kernel
theorem dX11_accept_41 : decode cX11_accept 41 = .ok (.aload_n 0, 1) := by decide +kernel
theorem dX11_accept_42 : decode cX11_accept 42 = .ok (.iconst 2, 1) := by decide +kernel
theorem dX11_accept_43 : decode cX11_accept 43 = .ok (.invokevirtual 44, 3) := by decide +kernel
theorem dX11_accept_46 : decode cX11_accept 46 = .ok (.ireturn, 1) := by decide +kernel
theorem dX11_accept_47 : decode cX11_accept 47 = .ok (.aload_n 0, 1) := by decide +kernel
theorem dX11_accept_48 : decode cX11_accept 48 = .ok (.getfield 22, 3) := by decide +kernel
theorem dX11_accept_51 : decode cX11_accept 51 = .ok (.aload_n 2, 1) := by decide +kernel
theorem dX11_accept_52 : decode cX11_accept 52 = .ok (.getfield 152, 3) := by decide +kernel
theorem dX11_accept_55 : decode cX11_accept 55 = .ok (.aaload, 1) := by decide +kernel
theorem dX11_accept_56 : decode cX11_accept 56 = .ok (.aload_n 0, 1) := by decide +kernel
theorem dX11_accept_57 : decode cX11_accept 57 = .ok (.aload_n 2, 1) := by decide +kernel
theorem dX11_accept_58 : decode cX11_accept 58 = .ok (.invokevirtual 198, 3) := by decide +kernel
theorem dX11_accept_61 : decode cX11_accept 61 = .ok (.aload_n 2, 1) := by decide +kernel
theorem dX11_accept_62 : decode cX11_accept 62 = .ok (.getfield 153, 3) := by decide +kernel
theorem dX11_accept_65 : decode cX11_accept 65 = .ok (.aload_n 2, 1) := by decide +kernel
theorem dX11_accept_66 : decode cX11_accept 66 = .ok (.getfield 156, 3) := by decide +kernel
theorem dX11_accept_69 : decode cX11_accept 69 = .ok (.invokevirtual 202, 3) := by decide +kernel
theorem dX11_accept_72 : decode cX11_accept 72 = .ok (.ifCond .ne 5, 3) := by decide +kernel
theorem dX11_accept_75 : decode cX11_accept 75 = .ok (.iconst 1, 1) := by decide +kernel
theorem dX11_accept_76 : decode cX11_accept 76 = .ok (.ireturn, 1) := by decide +kernel
theorem dX11_accept_77 : decode cX11_accept 77 = .ok (.aload_n 2, 1) := by decide +kernel
theorem dX11_accept_78 : decode cX11_accept 78 = .ok (.invokevirtual 192, 3) := by decide +kernel
theorem dX11_accept_81 : decode cX11_accept 81 = .ok (.ldc2_w 196, 3) := by decide +kernel
theorem dX11_accept_84 : decode cX11_accept 84 = .ok (.dcmp .g, 1) := by decide +kernel
theorem dX11_accept_85 : decode cX11_accept 85 = .ok (.ifCond .ge 5, 3) := by decide +kernel
theorem dX11_accept_88 : decode cX11_accept 88 = .ok (.iconst 2, 1) := by decide +kernel
theorem dX11_accept_89 : decode cX11_accept 89 = .ok (.ireturn, 1) := by decide +kernel
theorem dX11_accept_90 : decode cX11_accept 90 = .ok (.aload_n 2, 1) := by decide +kernel
theorem dX11_accept_91 : decode cX11_accept 91 = .ok (.getfield 186, 3) := by decide +kernel
theorem dX11_accept_94 : decode cX11_accept 94 = .ok (.iconst 1, 1) := by decide +kernel
theorem dX11_accept_95 : decode cX11_accept 95 = .ok (.if_icmp .le 5, 3) := by decide +kernel
theorem dX11_accept_98 : decode cX11_accept 98 = .ok (.iconst 3, 1) := by decide +kernel
theorem dX11_accept_99 : decode cX11_accept 99 = .ok (.ireturn, 1) := by decide +kernel
theorem dX11_accept_100 : decode cX11_accept 100 = .ok (.aload_n 2, 1) := by decide +kernel
theorem dX11_accept_101 : decode cX11_accept 101 = .ok (.iconst 5, 1) := by decide +kernel
theorem dX11_accept_102 : decode cX11_accept 102 = .ok (.putfield 63, 3) := by decide +kernel
theorem dX11_accept_105 : decode cX11_accept 105 = .ok (.iconst 0, 1) := by decide +kernel
theorem dX11_accept_106 : decode cX11_accept 106 = .ok (.ireturn, 1) := by decide +kernel
theorem dX11_pieceNow_0 : decode cX11_pieceNow 0 = .ok (.aload_n 0, 1) := by decide +kernel
theorem dX11_pieceNow_1 : decode cX11_pieceNow 1 = .ok (.getfield 66, 3) := by decide +kernel
theorem dX11_pieceNow_4 : decode cX11_pieceNow 4 = .ok (.astore_n 2, 1) := by decide +kernel
theorem dX11_pieceNow_5 : decode cX11_pieceNow 5 = .ok (.aload_n 0, 1) := by decide +kernel
theorem dX11_pieceNow_6 : decode cX11_pieceNow 6 = .ok (.getfield 148, 3) := by decide +kernel
theorem dX11_pieceNow_9 : decode cX11_pieceNow 9 = .ok (.astore_n 3, 1) := by decide +kernel
theorem dX11_pieceNow_10 : decode cX11_pieceNow 10 = .ok (.iload_n 1, 1) := by decide +kernel
theorem dX11_pieceNow_11 : decode cX11_pieceNow 11 = .ok (.tableswitch 139 0 13 #[69, 74, 79, 84, 89, 94, 99, 104, 109, 114, 119, 124, 129, 134], 69) := by decide +kernel
theorem dX11_pieceNow_80 : decode cX11_pieceNow 80 = .ok (.aload_n 0, 1) := by decide +kernel
theorem dX11_pieceNow_81 : decode cX11_pieceNow 81 = .ok (.getfield 63, 3) := by decide +kernel
theorem dX11_pieceNow_84 : decode cX11_pieceNow 84 = .ok (.ireturn, 1) := by decide +kernel
theorem dX11_pieceNow_85 : decode cX11_pieceNow 85 = .ok (.aload_n 2, 1) := by decide +kernel
theorem dX11_pieceNow_86 : decode cX11_pieceNow 86 = .ok (.invokevirtual 83, 3) := by decide +kernel
theorem dX11_pieceNow_89 : decode cX11_pieceNow 89 = .ok (.ireturn, 1) := by decide +kernel
theorem dX11_pieceNow_90 : decode cX11_pieceNow 90 = .ok (.aload_n 2, 1) := by decide +kernel
theorem dX11_pieceNow_91 : decode cX11_pieceNow 91 = .ok (.invokevirtual 140, 3) := by decide +kernel
theorem dX11_pieceNow_94 : decode cX11_pieceNow 94 = .ok (.ireturn, 1) := by decide +kernel
theorem dX11_pieceNow_95 : decode cX11_pieceNow 95 = .ok (.aload_n 2, 1) := by decide +kernel
theorem dX11_pieceNow_96 : decode cX11_pieceNow 96 = .ok (.invokevirtual 205, 3) := by decide +kernel
theorem dX11_pieceNow_99 : decode cX11_pieceNow 99 = .ok (.ireturn, 1) := by decide +kernel
theorem dX11_pieceNow_100 : decode cX11_pieceNow 100 = .ok (.aload_n 2, 1) := by decide +kernel
theorem dX11_pieceNow_101 : decode cX11_pieceNow 101 = .ok (.invokevirtual 208, 3) := by decide +kernel
theorem dX11_pieceNow_104 : decode cX11_pieceNow 104 = .ok (.ireturn, 1) := by decide +kernel
theorem dX11_pieceNow_105 : decode cX11_pieceNow 105 = .ok (.aload_n 2, 1) := by decide +kernel
theorem dX11_pieceNow_106 : decode cX11_pieceNow 106 = .ok (.invokevirtual 211, 3) := by decide +kernel
theorem dX11_pieceNow_109 : decode cX11_pieceNow 109 = .ok (.ireturn, 1) := by decide +kernel
theorem dX11_pieceNow_110 : decode cX11_pieceNow 110 = .ok (.aload_n 3, 1) := by decide +kernel
theorem dX11_pieceNow_111 : decode cX11_pieceNow 111 = .ok (.getfield 161, 3) := by decide +kernel
theorem dX11_pieceNow_114 : decode cX11_pieceNow 114 = .ok (.ireturn, 1) := by decide +kernel
theorem dX11_pieceNow_115 : decode cX11_pieceNow 115 = .ok (.aload_n 3, 1) := by decide +kernel
theorem dX11_pieceNow_116 : decode cX11_pieceNow 116 = .ok (.getfield 189, 3) := by decide +kernel
theorem dX11_pieceNow_119 : decode cX11_pieceNow 119 = .ok (.ireturn, 1) := by decide +kernel
theorem dX11_pieceNow_120 : decode cX11_pieceNow 120 = .ok (.aload_n 3, 1) := by decide +kernel
theorem dX11_pieceNow_121 : decode cX11_pieceNow 121 = .ok (.getfield 214, 3) := by decide +kernel
theorem dX11_pieceNow_124 : decode cX11_pieceNow 124 = .ok (.ireturn, 1) := by decide +kernel
theorem dX11_pieceNow_125 : decode cX11_pieceNow 125 = .ok (.aload_n 0, 1) := by decide +kernel
theorem dX11_pieceNow_126 : decode cX11_pieceNow 126 = .ok (.getfield 186, 3) := by decide +kernel
theorem dX11_pieceNow_129 : decode cX11_pieceNow 129 = .ok (.ireturn, 1) := by decide +kernel
theorem dX11_pieceNow_130 : decode cX11_pieceNow 130 = .ok (.aload_n 0, 1) := by decide +kernel
theorem dX11_pieceNow_131 : decode cX11_pieceNow 131 = .ok (.getfield 152, 3) := by decide +kernel
theorem dX11_pieceNow_134 : decode cX11_pieceNow 134 = .ok (.ireturn, 1) := by decide +kernel
theorem dX11_pieceNow_135 : decode cX11_pieceNow 135 = .ok (.aload_n 0, 1) := by decide +kernel
theorem dX11_pieceNow_136 : decode cX11_pieceNow 136 = .ok (.getfield 153, 3) := by decide +kernel
theorem dX11_pieceNow_139 : decode cX11_pieceNow 139 = .ok (.ireturn, 1) := by decide +kernel
theorem dX11_pieceNow_140 : decode cX11_pieceNow 140 = .ok (.aload_n 0, 1) := by decide +kernel
theorem dX11_pieceNow_141 : decode cX11_pieceNow 141 = .ok (.getfield 156, 3) := by decide +kernel
theorem dX11_pieceNow_144 : decode cX11_pieceNow 144 = .ok (.ireturn, 1) := by decide +kernel
theorem dX11_pieceNow_145 : decode cX11_pieceNow 145 = .ok (.aload_n 0, 1) := by decide +kernel
theorem dX11_pieceNow_146 : decode cX11_pieceNow 146 = .ok (.getfield 159, 3) := by decide +kernel
theorem dX11_pieceNow_149 : decode cX11_pieceNow 149 = .ok (.ireturn, 1) := by decide +kernel
theorem dX11_pieceNow_150 : decode cX11_pieceNow 150 = .ok (.aload_n 0, 1) := by decide +kernel
theorem dX11_pieceNow_151 : decode cX11_pieceNow 151 = .ok (.getfield 160, 3) := by decide +kernel
theorem dX11_pieceNow_154 : decode cX11_pieceNow 154 = .ok (.ireturn, 1) := by decide +kernel
theorem dX11_ofPiece_0 : decode cX11_ofPiece 0 = .ok (.aload_n 0, 1) := by decide +kernel
theorem dX11_ofPiece_1 : decode cX11_ofPiece 1 = .ok (.iconst 0, 1) := by decide +kernel
theorem dX11_ofPiece_2 : decode cX11_ofPiece 2 = .ok (.putfield 26, 3) := by decide +kernel
theorem dX11_ofPiece_5 : decode cX11_ofPiece 5 = .ok (.aload_n 0, 1) := by decide +kernel
theorem dX11_ofPiece_6 : decode cX11_ofPiece 6 = .ok (.iload_n 1, 1) := by decide +kernel
theorem dX11_ofPiece_7 : decode cX11_ofPiece 7 = .ok (.invokevirtual 55, 3) := by decide +kernel
theorem dX11_ofPiece_10 : decode cX11_ofPiece 10 = .ok (.ifCond .ne 9, 3) := by decide +kernel
theorem dX11_ofPiece_13 : decode cX11_ofPiece 13 = .ok (.aload_n 0, 1) := by decide +kernel
theorem dX11_ofPiece_14 : decode cX11_ofPiece 14 = .ok (.iconst 1, 1) := by decide +kernel
theorem dX11_ofPiece_15 : decode cX11_ofPiece 15 = .ok (.invokevirtual 44, 3) := by decide +kernel
theorem dX11_ofPiece_18 : decode cX11_ofPiece 18 = .ok (.ireturn, 1) := by decide +kernel
theorem dX11_ofPiece_19 : decode cX11_ofPiece 19 = .ok (.iload_n 2, 1) := by decide +kernel
theorem dX11_ofPiece_20 : decode cX11_ofPiece 20 = .ok (.iconst 0, 1) := by decide +kernel
theorem dX11_ofPiece_21 : decode cX11_ofPiece 21 = .ok (.bipush 14, 2) := by decide +kernel
theorem dX11_ofPiece_23 : decode cX11_ofPiece 23 = .ok (.invokestatic 40, 3) := by decide +kernel
theorem dX11_ofPiece_26 : decode cX11_ofPiece 26 = .ok (.ifCond .ne 9, 3) := by decide +kernel
theorem dX11_ofPiece_29 : decode cX11_ofPiece 29 = .ok (.aload_n 0, 1) := by decide +kernel
theorem dX11_ofPiece_30 : decode cX11_ofPiece 30 = .ok (.iconst 2, 1) := by decide +kernel
theorem dX11_ofPiece_31 : decode cX11_ofPiece 31 = .ok (.invokevirtual 44, 3) := by decide +kernel
theorem dX11_ofPiece_34 : decode cX11_ofPiece 34 = .ok (.ireturn, 1) := by decide +kernel
theorem dX11_ofPiece_35 : decode cX11_ofPiece 35 = .ok (.aload_n 0, 1) := by decide +kernel
theorem dX11_ofPiece_36 : decode cX11_ofPiece 36 = .ok (.getfield 10, 3) := by decide +kernel
theorem dX11_ofPiece_39 : decode cX11_ofPiece 39 = .ok (.iload_n 1, 1) := by decide +kernel
theorem dX11_ofPiece_40 : decode cX11_ofPiece 40 = .ok (.invokeinterface 59 2, 5) := by decide +kernel
theorem dX11_ofPiece_45 : decode cX11_ofPiece 45 = .ok (.checkcast 48, 3) := by decide +kernel
theorem dX11_ofPiece_48 : decode cX11_ofPiece 48 = .ok (.iload_n 2, 1) := by decide +kernel
theorem dX11_ofPiece_49 : decode cX11_ofPiece 49 = .ok (.invokestatic 217, 3) := by decide +kernel
theorem dX11_ofPiece_52 : decode cX11_ofPiece 52 = .ok (.ireturn, 1) := by decide +kernel
theorem dX11_layerNow_0 : decode cX11_layerNow 0 = .ok (.iload_n 2, 1) := by decide +kernel
theorem dX11_layerNow_1 : decode cX11_layerNow 1 = .ok (.ifCond .ne 12, 3) := by decide +kernel
theorem dX11_layerNow_4 : decode cX11_layerNow 4 = .ok (.aload_n 0, 1) := by decide +kernel
theorem dX11_layerNow_5 : decode cX11_layerNow 5 = .ok (.getfield 70, 3) := by decide +kernel
theorem dX11_layerNow_8 : decode cX11_layerNow 8 = .ok (.iload_n 1, 1) := by decide +kernel
theorem dX11_layerNow_9 : decode cX11_layerNow 9 = .ok (.laload, 1) := by decide +kernel
theorem dX11_layerNow_10 : decode cX11_layerNow 10 = .ok (.goto 21, 3) := by decide +kernel
theorem dX11_layerNow_13 : decode cX11_layerNow 13 = .ok (.iload_n 2, 1) := by decide +kernel
theorem dX11_layerNow_14 : decode cX11_layerNow 14 = .ok (.iconst 1, 1) := by decide +kernel
theorem dX11_layerNow_15 : decode cX11_layerNow 15 = .ok (.if_icmp .ne 11, 3) := by decide +kernel
theorem dX11_layerNow_18 : decode cX11_layerNow 18 = .ok (.aload_n 0, 1) := by decide +kernel
theorem dX11_layerNow_19 : decode cX11_layerNow 19 = .ok (.iload_n 1, 1) := by decide +kernel
theorem dX11_layerNow_20 : decode cX11_layerNow 20 = .ok (.invokevirtual 221, 3) := by decide +kernel
theorem dX11_layerNow_23 : decode cX11_layerNow 23 = .ok (.goto 8, 3) := by decide +kernel
theorem dX11_layerNow_26 : decode cX11_layerNow 26 = .ok (.aload_n 0, 1) := by decide +kernel
theorem dX11_layerNow_27 : decode cX11_layerNow 27 = .ok (.iload_n 1, 1) := by decide +kernel
theorem dX11_layerNow_28 : decode cX11_layerNow 28 = .ok (.invokevirtual 164, 3) := by decide +kernel
theorem dX11_layerNow_31 : decode cX11_layerNow 31 = .ok (.lreturn, 1) := by decide +kernel
theorem dX11_ofLayer_0 : decode cX11_ofLayer 0 = .ok (.aload_n 0, 1) := by decide +kernel
theorem dX11_ofLayer_1 : decode cX11_ofLayer 1 = .ok (.iconst 0, 1) := by decide +kernel
theorem dX11_ofLayer_2 : decode cX11_ofLayer 2 = .ok (.putfield 26, 3) := by decide +kernel
theorem dX11_ofLayer_5 : decode cX11_ofLayer 5 = .ok (.aload_n 0, 1) := by decide +kernel
theorem dX11_ofLayer_6 : decode cX11_ofLayer 6 = .ok (.iload_n 1, 1) := by decide +kernel
theorem dX11_ofLayer_7 : decode cX11_ofLayer 7 = .ok (.invokevirtual 55, 3) := by decide +kernel
theorem dX11_ofLayer_10 : decode cX11_ofLayer 10 = .ok (.ifCond .eq 13, 3) := by decide +kernel
theorem dX11_ofLayer_13 : decode cX11_ofLayer 13 = .ok (.iload_n 2, 1) := by decide +kernel
theorem dX11_ofLayer_14 : decode cX11_ofLayer 14 = .ok (.iconst 0, 1) := by decide +kernel
theorem dX11_ofLayer_15 : decode cX11_ofLayer 15 = .ok (.bipush 7, 2) := by decide +kernel
theorem dX11_ofLayer_17 : decode cX11_ofLayer 17 = .ok (.invokestatic 40, 3) := by decide +kernel
theorem dX11_ofLayer_20 : decode cX11_ofLayer 20 = .ok (.ifCond .ne 10, 3) := by decide +kernel
theorem dX11_ofLayer_23 : decode cX11_ofLayer 23 = .ok (.aload_n 0, 1) := by decide +kernel
theorem dX11_ofLayer_24 : decode cX11_ofLayer 24 = .ok (.iconst 1, 1) := by decide +kernel
theorem dX11_ofLayer_25 : decode cX11_ofLayer 25 = .ok (.invokevirtual 44, 3) := by decide +kernel
theorem dX11_ofLayer_28 : decode cX11_ofLayer 28 = .ok (.i2l, 1) := by decide +kernel
theorem dX11_ofLayer_29 : decode cX11_ofLayer 29 = .ok (.lreturn, 1) := by decide +kernel
theorem dX11_ofLayer_30 : decode cX11_ofLayer 30 = .ok (.iload_n 3, 1) := by decide +kernel
theorem dX11_ofLayer_31 : decode cX11_ofLayer 31 = .ok (.iconst 0, 1) := by decide +kernel
theorem dX11_ofLayer_32 : decode cX11_ofLayer 32 = .ok (.iconst 2, 1) := by decide +kernel
theorem dX11_ofLayer_33 : decode cX11_ofLayer 33 = .ok (.invokestatic 40, 3) := by decide +kernel
theorem dX11_ofLayer_36 : decode cX11_ofLayer 36 = .ok (.ifCond .ne 10, 3) := by decide +kernel
theorem dX11_ofLayer_39 : decode cX11_ofLayer 39 = .ok (.aload_n 0, 1) := by decide +kernel
theorem dX11_ofLayer_40 : decode cX11_ofLayer 40 = .ok (.iconst 2, 1) := by decide +kernel
theorem dX11_ofLayer_41 : decode cX11_ofLayer 41 = .ok (.invokevirtual 44, 3) := by decide +kernel
theorem dX11_ofLayer_44 : decode cX11_ofLayer 44 = .ok (.i2l, 1) := by decide +kernel
theorem dX11_ofLayer_45 : decode cX11_ofLayer 45 = .ok (.lreturn, 1) := by decide +kernel
theorem dX11_ofLayer_46 : decode cX11_ofLayer 46 = .ok (.aload_n 0, 1) := by decide +kernel
theorem dX11_ofLayer_47 : decode cX11_ofLayer 47 = .ok (.getfield 10, 3) := by decide +kernel
theorem dX11_ofLayer_50 : decode cX11_ofLayer 50 = .ok (.iload_n 1, 1) := by decide +kernel
theorem dX11_ofLayer_51 : decode cX11_ofLayer 51 = .ok (.invokeinterface 59 2, 5) := by decide +kernel
theorem dX11_ofLayer_56 : decode cX11_ofLayer 56 = .ok (.checkcast 48, 3) := by decide +kernel
theorem dX11_ofLayer_59 : decode cX11_ofLayer 59 = .ok (.getfield 66, 3) := by decide +kernel
theorem dX11_ofLayer_62 : decode cX11_ofLayer 62 = .ok (.iload_n 2, 1) := by decide +kernel
theorem dX11_ofLayer_63 : decode cX11_ofLayer 63 = .ok (.iload_n 3, 1) := by decide +kernel
theorem dX11_ofLayer_64 : decode cX11_ofLayer 64 = .ok (.invokestatic 223, 3) := by decide +kernel
theorem dX11_ofLayer_67 : decode cX11_ofLayer 67 = .ok (.lreturn, 1) := by decide +kernel
theorem dX11_powderNow_0 : decode cX11_powderNow 0 = .ok (.aload_n 0, 1) := by decide +kernel
theorem dX11_powderNow_1 : decode cX11_powderNow 1 = .ok (.getfield 16, 3) := by decide +kernel
theorem dX11_powderNow_4 : decode cX11_powderNow 4 = .ok (.iload_n 1, 1) := by decide +kernel
theorem dX11_powderNow_5 : decode cX11_powderNow 5 = .ok (.invokeinterface 59 2, 5) := by decide +kernel
theorem dX11_powderNow_10 : decode cX11_powderNow 10 = .ok (.checkcast 86, 3) := by decide +kernel
theorem dX11_powderNow_13 : decode cX11_powderNow 13 = .ok (.astore_n 3, 1) := by decide +kernel
theorem dX11_powderNow_14 : decode cX11_powderNow 14 = .ok (.iconst 5, 1) := by decide +kernel
theorem dX11_powderNow_15 : decode cX11_powderNow 15 = .ok (.newarray .int, 2) := by decide +kernel
theorem dX11_powderNow_17 : decode cX11_powderNow 17 = .ok (.dup, 1) := by decide +kernel
theorem dX11_powderNow_18 : decode cX11_powderNow 18 = .ok (.iconst 0, 1) := by decide +kernel
theorem dX11_powderNow_19 : decode cX11_powderNow 19 = .ok (.aload_n 3, 1) := by decide +kernel
theorem dX11_powderNow_20 : decode cX11_powderNow 20 = .ok (.getfield 94, 3) := by decide +kernel
theorem dX11_powderNow_23 : decode cX11_powderNow 23 = .ok (.iastore, 1) := by decide +kernel
theorem dX11_powderNow_24 : decode cX11_powderNow 24 = .ok (.dup, 1) := by decide +kernel
theorem dX11_powderNow_25 : decode cX11_powderNow 25 = .ok (.iconst 1, 1) := by decide +kernel
theorem dX11_powderNow_26 : decode cX11_powderNow 26 = .ok (.aload_n 3, 1) := by decide +kernel
theorem dX11_powderNow_27 : decode cX11_powderNow 27 = .ok (.getfield 100, 3) := by decide +kernel
theorem dX11_powderNow_30 : decode cX11_powderNow 30 = .ok (.iastore, 1) := by decide +kernel
theorem dX11_powderNow_31 : decode cX11_powderNow 31 = .ok (.dup, 1) := by decide +kernel
theorem dX11_powderNow_32 : decode cX11_powderNow 32 = .ok (.iconst 2, 1) := by decide +kernel
theorem dX11_powderNow_33 : decode cX11_powderNow 33 = .ok (.aload_n 3, 1) := by decide +kernel
theorem dX11_powderNow_34 : decode cX11_powderNow 34 = .ok (.getfield 103, 3) := by decide +kernel
theorem dX11_powderNow_37 : decode cX11_powderNow 37 = .ok (.iastore, 1) := by decide +kernel
theorem dX11_powderNow_38 : decode cX11_powderNow 38 = .ok (.dup, 1) := by decide +kernel
theorem dX11_powderNow_39 : decode cX11_powderNow 39 = .ok (.iconst 3, 1) := by decide +kernel
theorem dX11_powderNow_40 : decode cX11_powderNow 40 = .ok (.aload_n 3, 1) := by decide +kernel
theorem dX11_powderNow_41 : decode cX11_powderNow 41 = .ok (.getfield 112, 3) := by decide +kernel
theorem dX11_powderNow_44 : decode cX11_powderNow 44 = .ok (.iastore, 1) := by decide +kernel
theorem dX11_powderNow_45 : decode cX11_powderNow 45 = .ok (.dup, 1) := by decide +kernel
theorem dX11_powderNow_46 : decode cX11_powderNow 46 = .ok (.iconst 4, 1) := by decide +kernel
theorem dX11_powderNow_47 : decode cX11_powderNow 47 = .ok (.aload_n 3, 1) := by decide +kernel
theorem dX11_powderNow_48 : decode cX11_powderNow 48 = .ok (.getfield 97, 3) := by decide +kernel
theorem dX11_powderNow_51 : decode cX11_powderNow 51 = .ok (.iastore, 1) := by decide +kernel
theorem dX11_powderNow_52 : decode cX11_powderNow 52 = .ok (.astore 4, 2) := by decide +kernel
theorem dX11_powderNow_54 : decode cX11_powderNow 54 = .ok (.aload 4, 2) := by decide +kernel
theorem dX11_powderNow_56 : decode cX11_powderNow 56 = .ok (.iload_n 2, 1) := by decide +kernel
theorem dX11_powderNow_57 : decode cX11_powderNow 57 = .ok (.iaload, 1) := by decide +kernel
theorem dX11_powderNow_58 : decode cX11_powderNow 58 = .ok (.ireturn, 1) := by decide +kernel
theorem dX11_ofPowder_0 : decode cX11_ofPowder 0 = .ok (.aload_n 0, 1) := by decide +kernel
theorem dX11_ofPowder_1 : decode cX11_ofPowder 1 = .ok (.iconst 0, 1) := by decide +kernel
theorem dX11_ofPowder_2 : decode cX11_ofPowder 2 = .ok (.putfield 26, 3) := by decide +kernel
theorem dX11_ofPowder_5 : decode cX11_ofPowder 5 = .ok (.aload_n 0, 1) := by decide +kernel
theorem dX11_ofPowder_6 : decode cX11_ofPowder 6 = .ok (.iload_n 1, 1) := by decide +kernel
theorem dX11_ofPowder_7 : decode cX11_ofPowder 7 = .ok (.invokevirtual 91, 3) := by decide +kernel
theorem dX11_ofPowder_10 : decode cX11_ofPowder 10 = .ok (.ifCond .ne 9, 3) := by decide +kernel
theorem dX11_ofPowder_13 : decode cX11_ofPowder 13 = .ok (.aload_n 0, 1) := by decide +kernel
theorem dX11_ofPowder_14 : decode cX11_ofPowder 14 = .ok (.iconst 1, 1) := by decide +kernel
theorem dX11_ofPowder_15 : decode cX11_ofPowder 15 = .ok (.invokevirtual 44, 3) := by decide +kernel
theorem dX11_ofPowder_18 : decode cX11_ofPowder 18 = .ok (.ireturn, 1) := by decide +kernel
theorem dX11_ofPowder_19 : decode cX11_ofPowder 19 = .ok (.iload_n 2, 1) := by decide +kernel
theorem dX11_ofPowder_20 : decode cX11_ofPowder 20 = .ok (.iconst 0, 1) := by decide +kernel
theorem dX11_ofPowder_21 : decode cX11_ofPowder 21 = .ok (.iconst 4, 1) := by decide +kernel
theorem dX11_ofPowder_22 : decode cX11_ofPowder 22 = .ok (.invokestatic 40, 3) := by decide +kernel
theorem dX11_ofPowder_25 : decode cX11_ofPowder 25 = .ok (.ifCond .ne 9, 3) := by decide +kernel
theorem dX11_ofPowder_28 : decode cX11_ofPowder 28 = .ok (.aload_n 0, 1) := by decide +kernel
theorem dX11_ofPowder_29 : decode cX11_ofPowder 29 = .ok (.iconst 2, 1) := by decide +kernel
theorem dX11_ofPowder_30 : decode cX11_ofPowder 30 = .ok (.invokevirtual 44, 3) := by decide +kernel
theorem dX11_ofPowder_33 : decode cX11_ofPowder 33 = .ok (.ireturn, 1) := by decide +kernel
theorem dX11_ofPowder_34 : decode cX11_ofPowder 34 = .ok (.aload_n 0, 1) := by decide +kernel
theorem dX11_ofPowder_35 : decode cX11_ofPowder 35 = .ok (.iload_n 1, 1) := by decide +kernel
theorem dX11_ofPowder_36 : decode cX11_ofPowder 36 = .ok (.iload_n 2, 1) := by decide +kernel
theorem dX11_ofPowder_37 : decode cX11_ofPowder 37 = .ok (.invokevirtual 227, 3) := by decide +kernel
theorem dX11_ofPowder_40 : decode cX11_ofPowder 40 = .ok (.ireturn, 1) := by decide +kernel
theorem dX11_machineNow_0 : decode cX11_machineNow 0 = .ok (.aload_n 0, 1) := by decide +kernel
theorem dX11_machineNow_1 : decode cX11_machineNow 1 = .ok (.getfield 22, 3) := by decide +kernel
theorem dX11_machineNow_4 : decode cX11_machineNow 4 = .ok (.iload_n 1, 1) := by decide +kernel
theorem dX11_machineNow_5 : decode cX11_machineNow 5 = .ok (.aaload, 1) := by decide +kernel
theorem dX11_machineNow_6 : decode cX11_machineNow 6 = .ok (.astore_n 3, 1) := by decide +kernel
theorem dX11_machineNow_7 : decode cX11_machineNow 7 = .ok (.iconst 5, 1) := by decide +kernel
theorem dX11_machineNow_8 : decode cX11_machineNow 8 = .ok (.newarray .int, 2) := by decide +kernel
theorem dX11_machineNow_10 : decode cX11_machineNow 10 = .ok (.dup, 1) := by decide +kernel
theorem dX11_machineNow_11 : decode cX11_machineNow 11 = .ok (.iconst 0, 1) := by decide +kernel
theorem dX11_machineNow_12 : decode cX11_machineNow 12 = .ok (.aload_n 3, 1) := by decide +kernel
theorem dX11_machineNow_13 : decode cX11_machineNow 13 = .ok (.getfield 121, 3) := by decide +kernel
theorem dX11_machineNow_16 : decode cX11_machineNow 16 = .ok (.iastore, 1) := by decide +kernel
theorem dX11_machineNow_17 : decode cX11_machineNow 17 = .ok (.dup, 1) := by decide +kernel
theorem dX11_machineNow_18 : decode cX11_machineNow 18 = .ok (.iconst 1, 1) := by decide +kernel
theorem dX11_machineNow_19 : decode cX11_machineNow 19 = .ok (.aload_n 3, 1) := by decide +kernel
theorem dX11_machineNow_20 : decode cX11_machineNow 20 = .ok (.getfield 118, 3) := by decide +kernel
theorem dX11_machineNow_23 : decode cX11_machineNow 23 = .ok (.iastore, 1) := by decide +kernel
theorem dX11_machineNow_24 : decode cX11_machineNow 24 = .ok (.dup, 1) := by decide +kernel
theorem dX11_machineNow_25 : decode cX11_machineNow 25 = .ok (.iconst 2, 1) := by decide +kernel
theorem dX11_machineNow_26 : decode cX11_machineNow 26 = .ok (.aload_n 3, 1) := by decide +kernel
theorem dX11_machineNow_27 : decode cX11_machineNow 27 = .ok (.getfield 124, 3) := by decide +kernel
theorem dX11_machineNow_30 : decode cX11_machineNow 30 = .ok (.iastore, 1) := by decide +kernel
theorem dX11_machineNow_31 : decode cX11_machineNow 31 = .ok (.dup, 1) := by decide +kernel
theorem dX11_machineNow_32 : decode cX11_machineNow 32 = .ok (.iconst 3, 1) := by decide +kernel
theorem dX11_machineNow_33 : decode cX11_machineNow 33 = .ok (.aload_n 3, 1) := by decide +kernel
theorem dX11_machineNow_34 : decode cX11_machineNow 34 = .ok (.getfield 127, 3) := by decide +kernel
theorem dX11_machineNow_37 : decode cX11_machineNow 37 = .ok (.iastore, 1) := by decide +kernel
theorem dX11_machineNow_38 : decode cX11_machineNow 38 = .ok (.dup, 1) := by decide +kernel
theorem dX11_machineNow_39 : decode cX11_machineNow 39 = .ok (.iconst 4, 1) := by decide +kernel
theorem dX11_machineNow_40 : decode cX11_machineNow 40 = .ok (.aload_n 3, 1) := by decide +kernel
theorem dX11_machineNow_41 : decode cX11_machineNow 41 = .ok (.getfield 134, 3) := by decide +kernel
theorem dX11_machineNow_44 : decode cX11_machineNow 44 = .ok (.invokeinterface 34 1, 5) := by decide +kernel
theorem dX11_machineNow_49 : decode cX11_machineNow 49 = .ok (.iastore, 1) := by decide +kernel
theorem dX11_machineNow_50 : decode cX11_machineNow 50 = .ok (.astore 4, 2) := by decide +kernel
theorem dX11_machineNow_52 : decode cX11_machineNow 52 = .ok (.aload 4, 2) := by decide +kernel
theorem dX11_machineNow_54 : decode cX11_machineNow 54 = .ok (.iload_n 2, 1) := by decide +kernel
theorem dX11_machineNow_55 : decode cX11_machineNow 55 = .ok (.iaload, 1) := by decide +kernel
theorem dX11_machineNow_56 : decode cX11_machineNow 56 = .ok (.ireturn, 1) := by decide +kernel
theorem dX11_ofMachine_0 : decode cX11_ofMachine 0 = .ok (.aload_n 0, 1) := by decide +kernel
theorem dX11_ofMachine_1 : decode cX11_ofMachine 1 = .ok (.iconst 0, 1) := by decide +kernel
theorem dX11_ofMachine_2 : decode cX11_ofMachine 2 = .ok (.putfield 26, 3) := by decide +kernel
theorem dX11_ofMachine_5 : decode cX11_ofMachine 5 = .ok (.iload_n 1, 1) := by decide +kernel
theorem dX11_ofMachine_6 : decode cX11_ofMachine 6 = .ok (.invokestatic 115, 3) := by decide +kernel
theorem dX11_ofMachine_9 : decode cX11_ofMachine 9 = .ok (.ifCond .ne 9, 3) := by decide +kernel
theorem dX11_ofMachine_12 : decode cX11_ofMachine 12 = .ok (.aload_n 0, 1) := by decide +kernel
theorem dX11_ofMachine_13 : decode cX11_ofMachine 13 = .ok (.iconst 1, 1) := by decide +kernel
theorem dX11_ofMachine_14 : decode cX11_ofMachine 14 = .ok (.invokevirtual 44, 3) := by decide +kernel
theorem dX11_ofMachine_17 : decode cX11_ofMachine 17 = .ok (.ireturn, 1) := by decide +kernel
theorem dX11_ofMachine_18 : decode cX11_ofMachine 18 = .ok (.iload_n 2, 1) := by decide +kernel
theorem dX11_ofMachine_19 : decode cX11_ofMachine 19 = .ok (.iconst 0, 1) := by decide +kernel
theorem dX11_ofMachine_20 : decode cX11_ofMachine 20 = .ok (.iconst 4, 1) := by decide +kernel
theorem dX11_ofMachine_21 : decode cX11_ofMachine 21 = .ok (.invokestatic 40, 3) := by decide +kernel
theorem dX11_ofMachine_24 : decode cX11_ofMachine 24 = .ok (.ifCond .ne 9, 3) := by decide +kernel
theorem dX11_ofMachine_27 : decode cX11_ofMachine 27 = .ok (.aload_n 0, 1) := by decide +kernel
theorem dX11_ofMachine_28 : decode cX11_ofMachine 28 = .ok (.iconst 2, 1) := by decide +kernel
theorem dX11_ofMachine_29 : decode cX11_ofMachine 29 = .ok (.invokevirtual 44, 3) := by decide +kernel
theorem dX11_ofMachine_32 : decode cX11_ofMachine 32 = .ok (.ireturn, 1) := by decide +kernel
theorem dX11_ofMachine_33 : decode cX11_ofMachine 33 = .ok (.aload_n 0, 1) := by decide +kernel
theorem dX11_ofMachine_34 : decode cX11_ofMachine 34 = .ok (.iload_n 1, 1) := by decide +kernel
theorem dX11_ofMachine_35 : decode cX11_ofMachine 35 = .ok (.iload_n 2, 1) := by decide +kernel
theorem dX11_ofMachine_36 : decode cX11_ofMachine 36 = .ok (.invokevirtual 230, 3) := by decide +kernel
theorem dX11_ofMachine_39 : decode cX11_ofMachine 39 = .ok (.ireturn, 1) := by decide +kernel
theorem dX11_warm_0 : decode cX11_warm 0 = .ok (.aload_n 0, 1) := by decide +kernel
theorem dX11_warm_1 : decode cX11_warm 1 = .ok (.iconst 0, 1) := by decide +kernel
theorem dX11_warm_2 : decode cX11_warm 2 = .ok (.putfield 26, 3) := by decide +kernel
theorem dX11_warm_5 : decode cX11_warm 5 = .ok (.iload_n 1, 1) := by decide +kernel
theorem dX11_warm_6 : decode cX11_warm 6 = .ok (.invokestatic 115, 3) := by decide +kernel
theorem dX11_warm_9 : decode cX11_warm 9 = .ok (.ifCond .eq 23, 3) := by decide +kernel
theorem dX11_warm_12 : decode cX11_warm 12 = .ok (.iload_n 2, 1) := by decide +kernel
theorem dX11_warm_13 : decode cX11_warm 13 = .ok (.iconst 0, 1) := by decide +kernel
theorem dX11_warm_14 : decode cX11_warm 14 = .ok (.bipush 7, 2) := by decide +kernel
theorem dX11_warm_16 : decode cX11_warm 16 = .ok (.invokestatic 40, 3) := by decide +kernel
theorem dX11_warm_19 : decode cX11_warm 19 = .ok (.ifCond .eq 13, 3) := by decide +kernel
theorem dX11_warm_22 : decode cX11_warm 22 = .ok (.iload_n 3, 1) := by decide +kernel
theorem dX11_warm_23 : decode cX11_warm 23 = .ok (.iconst 0, 1) := by decide +kernel
theorem dX11_warm_24 : decode cX11_warm 24 = .ok (.bipush 7, 2) := by decide +kernel
theorem dX11_warm_26 : decode cX11_warm 26 = .ok (.invokestatic 40, 3) := by decide +kernel
theorem dX11_warm_29 : decode cX11_warm 29 = .ok (.ifCond .ne 10, 3) := by decide +kernel
theorem dX11_warm_32 : decode cX11_warm 32 = .ok (.aload_n 0, 1) := by decide +kernel
theorem dX11_warm_33 : decode cX11_warm 33 = .ok (.iconst 1, 1) := by decide +kernel
theorem dX11_warm_34 : decode cX11_warm 34 = .ok (.invokevirtual 44, 3) := by decide +kernel
theorem dX11_warm_37 : decode cX11_warm 37 = .ok (.i2d, 1) := by decide +kernel
theorem dX11_warm_38 : decode cX11_warm 38 = .ok (.dreturn, 1) := by decide +kernel
theorem dX11_warm_39 : decode cX11_warm 39 = .ok (.aload_n 0, 1) := by decide +kernel
theorem dX11_warm_40 : decode cX11_warm 40 = .ok (.getfield 22, 3) := by decide +kernel
theorem dX11_warm_43 : decode cX11_warm 43 = .ok (.iload_n 1, 1) := by decide +kernel
theorem dX11_warm_44 : decode cX11_warm 44 = .ok (.aaload, 1) := by decide +kernel
theorem dX11_warm_45 : decode cX11_warm 45 = .ok (.getfield 127, 3) := by decide +kernel
theorem dX11_warm_48 : decode cX11_warm 48 = .ok (.iconst (-1), 1) := by decide +kernel
theorem dX11_warm_49 : decode cX11_warm 49 = .ok (.if_icmp .ne 7, 3) := by decide +kernel
theorem dX11_warm_52 : decode cX11_warm 52 = .ok (.dconst 0, 1) := by decide +kernel
theorem dX11_warm_53 : decode cX11_warm 53 = .ok (.goto 37, 3) := by decide +kernel
theorem dX11_warm_56 : decode cX11_warm 56 = .ok (.aload_n 0, 1) := by decide +kernel
theorem dX11_warm_57 : decode cX11_warm 57 = .ok (.getfield 10, 3) := by decide +kernel
theorem dX11_warm_60 : decode cX11_warm 60 = .ok (.aload_n 0, 1) := by decide +kernel
theorem dX11_warm_61 : decode cX11_warm 61 = .ok (.getfield 22, 3) := by decide +kernel
theorem dX11_warm_64 : decode cX11_warm 64 = .ok (.iload_n 1, 1) := by decide +kernel
theorem dX11_warm_65 : decode cX11_warm 65 = .ok (.aaload, 1) := by decide +kernel
theorem dX11_warm_66 : decode cX11_warm 66 = .ok (.getfield 127, 3) := by decide +kernel
theorem dX11_warm_69 : decode cX11_warm 69 = .ok (.invokeinterface 59 2, 5) := by decide +kernel
theorem dX11_warm_74 : decode cX11_warm 74 = .ok (.checkcast 48, 3) := by decide +kernel
theorem dX11_warm_77 : decode cX11_warm 77 = .ok (.getfield 148, 3) := by decide +kernel
theorem dX11_warm_80 : decode cX11_warm 80 = .ok (.getfield 182, 3) := by decide +kernel
theorem dX11_warm_83 : decode cX11_warm 83 = .ok (.iload_n 2, 1) := by decide +kernel
theorem dX11_warm_84 : decode cX11_warm 84 = .ok (.bipush 8, 2) := by decide +kernel
theorem dX11_warm_86 : decode cX11_warm 86 = .ok (.iload_n 3, 1) := by decide +kernel
theorem dX11_warm_87 : decode cX11_warm 87 = .ok (.imul, 1) := by decide +kernel
theorem dX11_warm_88 : decode cX11_warm 88 = .ok (.iadd, 1) := by decide +kernel
theorem dX11_warm_89 : decode cX11_warm 89 = .ok (.daload, 1) := by decide +kernel
theorem dX11_warm_90 : decode cX11_warm 90 = .ok (.dreturn, 1) := by decide +kernel
theorem dX11_measure_0 : decode cX11_measure 0 = .ok (.aload_n 0, 1) := by decide +kernel
theorem dX11_measure_1 : decode cX11_measure 1 = .ok (.iconst 0, 1) := by decide +kernel
theorem dX11_measure_2 : decode cX11_measure 2 = .ok (.putfield 26, 3) := by decide +kernel
theorem dX11_measure_5 : decode cX11_measure 5 = .ok (.aload_n 0, 1) := by decide +kernel
theorem dX11_measure_6 : decode cX11_measure 6 = .ok (.iload_n 1, 1) := by decide +kernel
theorem dX11_measure_7 : decode cX11_measure 7 = .ok (.invokevirtual 55, 3) := by decide +kernel
theorem dX11_measure_10 : decode cX11_measure 10 = .ok (.ifCond .ne 10, 3) := by decide +kernel
theorem dX11_measure_13 : decode cX11_measure 13 = .ok (.aload_n 0, 1) := by decide +kernel
theorem dX11_measure_14 : decode cX11_measure 14 = .ok (.iconst 1, 1) := by decide +kernel
theorem dX11_measure_15 : decode cX11_measure 15 = .ok (.invokevirtual 44, 3) := by decide +kernel
theorem dX11_measure_18 : decode cX11_measure 18 = .ok (.i2d, 1) := by decide +kernel
theorem dX11_measure_19 : decode cX11_measure 19 = .ok (.dreturn, 1) := by decide +kernel
theorem dX11_measure_20 : decode cX11_measure 20 = .ok (.iload_n 2, 1) := by decide +kernel
theorem dX11_measure_21 : decode cX11_measure 21 = .ok (.iconst 0, 1) := by decide +kernel
theorem dX11_measure_22 : decode cX11_measure 22 = .ok (.iconst 1, 1) := by decide +kernel
theorem dX11_measure_23 : decode cX11_measure 23 = .ok (.invokestatic 40, 3) := by decide +kernel
theorem dX11_measure_26 : decode cX11_measure 26 = .ok (.ifCond .ne 10, 3) := by decide +kernel
theorem dX11_measure_29 : decode cX11_measure 29 = .ok (.aload_n 0, 1) := by decide +kernel
theorem dX11_measure_30 : decode cX11_measure 30 = .ok (.iconst 2, 1) := by decide +kernel
theorem dX11_measure_31 : decode cX11_measure 31 = .ok (.invokevirtual 44, 3) := by decide +kernel
theorem dX11_measure_34 : decode cX11_measure 34 = .ok (.i2d, 1) := by decide +kernel
theorem dX11_measure_35 : decode cX11_measure 35 = .ok (.dreturn, 1) := by decide +kernel
theorem dX11_measure_36 : decode cX11_measure 36 = .ok (.iload_n 2, 1) := by decide +kernel
theorem dX11_measure_37 : decode cX11_measure 37 = .ok (.ifCond .ne 22, 3) := by decide +kernel
theorem dX11_measure_40 : decode cX11_measure 40 = .ok (.aload_n 0, 1) := by decide +kernel
theorem dX11_measure_41 : decode cX11_measure 41 = .ok (.getfield 10, 3) := by decide +kernel
theorem dX11_measure_44 : decode cX11_measure 44 = .ok (.iload_n 1, 1) := by decide +kernel
theorem dX11_measure_45 : decode cX11_measure 45 = .ok (.invokeinterface 59 2, 5) := by decide +kernel
theorem dX11_measure_50 : decode cX11_measure 50 = .ok (.checkcast 48, 3) := by decide +kernel
theorem dX11_measure_53 : decode cX11_measure 53 = .ok (.invokevirtual 192, 3) := by decide +kernel
theorem dX11_measure_56 : decode cX11_measure 56 = .ok (.goto 22, 3) := by decide +kernel
theorem dX11_measure_59 : decode cX11_measure 59 = .ok (.aload_n 0, 1) := by decide +kernel
theorem dX11_measure_60 : decode cX11_measure 60 = .ok (.getfield 10, 3) := by decide +kernel
theorem dX11_measure_63 : decode cX11_measure 63 = .ok (.iload_n 1, 1) := by decide +kernel
theorem dX11_measure_64 : decode cX11_measure 64 = .ok (.invokeinterface 59 2, 5) := by decide +kernel
theorem dX11_measure_69 : decode cX11_measure 69 = .ok (.checkcast 48, 3) := by decide +kernel
theorem dX11_measure_72 : decode cX11_measure 72 = .ok (.getfield 148, 3) := by decide +kernel
theorem dX11_measure_75 : decode cX11_measure 75 = .ok (.getfield 173, 3) := by decide +kernel
theorem dX11_measure_78 : decode cX11_measure 78 = .ok (.dreturn, 1) := by decide +kernel
theorem dX11_recallNow_0 : decode cX11_recallNow 0 = .ok (.iconst 0, 1) := by decide +kernel
theorem dX11_recallNow_1 : decode cX11_recallNow 1 = .ok (.istore_n 2, 1) := by decide +kernel
theorem dX11_recallNow_2 : decode cX11_recallNow 2 = .ok (.iconst 0, 1) := by decide +kernel
theorem dX11_recallNow_3 : decode cX11_recallNow 3 = .ok (.istore_n 3, 1) := by decide +kernel
theorem dX11_recallNow_4 : decode cX11_recallNow 4 = .ok (.iload_n 3, 1) := by decide +kernel
theorem dX11_recallNow_5 : decode cX11_recallNow 5 = .ok (.aload_n 0, 1) := by decide +kernel
theorem dX11_recallNow_6 : decode cX11_recallNow 6 = .ok (.getfield 10, 3) := by decide +kernel
theorem dX11_recallNow_9 : decode cX11_recallNow 9 = .ok (.invokeinterface 34 1, 5) := by decide +kernel
theorem dX11_recallNow_14 : decode cX11_recallNow 14 = .ok (.if_icmp .ge 63, 3) := by decide +kernel
theorem dX11_recallNow_17 : decode cX11_recallNow 17 = .ok (.iload_n 2, 1) := by decide +kernel
theorem dX11_recallNow_18 : decode cX11_recallNow 18 = .ok (.aload_n 0, 1) := by decide +kernel
theorem dX11_recallNow_19 : decode cX11_recallNow 19 = .ok (.getfield 10, 3) := by decide +kernel
theorem dX11_recallNow_22 : decode cX11_recallNow 22 = .ok (.iload_n 3, 1) := by decide +kernel
theorem dX11_recallNow_23 : decode cX11_recallNow 23 = .ok (.invokeinterface 59 2, 5) := by decide +kernel
theorem dX11_recallNow_28 : decode cX11_recallNow 28 = .ok (.checkcast 48, 3) := by decide +kernel
theorem dX11_recallNow_31 : decode cX11_recallNow 31 = .ok (.getfield 160, 3) := by decide +kernel
theorem dX11_recallNow_34 : decode cX11_recallNow 34 = .ok (.iconst (-1), 1) := by decide +kernel
theorem dX11_recallNow_35 : decode cX11_recallNow 35 = .ok (.if_icmp .eq 33, 3) := by decide +kernel
theorem dX11_recallNow_38 : decode cX11_recallNow 38 = .ok (.aload_n 0, 1) := by decide +kernel
theorem dX11_recallNow_39 : decode cX11_recallNow 39 = .ok (.getfield 10, 3) := by decide +kernel
theorem dX11_recallNow_42 : decode cX11_recallNow 42 = .ok (.iload_n 3, 1) := by decide +kernel
theorem dX11_recallNow_43 : decode cX11_recallNow 43 = .ok (.invokeinterface 59 2, 5) := by decide +kernel
theorem dX11_recallNow_48 : decode cX11_recallNow 48 = .ok (.checkcast 48, 3) := by decide +kernel
theorem dX11_recallNow_51 : decode cX11_recallNow 51 = .ok (.getfield 160, 3) := by decide +kernel
theorem dX11_recallNow_54 : decode cX11_recallNow 54 = .ok (.iload_n 1, 1) := by decide +kernel
theorem dX11_recallNow_55 : decode cX11_recallNow 55 = .ok (.ishr, 1) := by decide +kernel
theorem dX11_recallNow_56 : decode cX11_recallNow 56 = .ok (.iconst 1, 1) := by decide +kernel
theorem dX11_recallNow_57 : decode cX11_recallNow 57 = .ok (.iand, 1) := by decide +kernel
theorem dX11_recallNow_58 : decode cX11_recallNow 58 = .ok (.iconst 1, 1) := by decide +kernel
theorem dX11_recallNow_59 : decode cX11_recallNow 59 = .ok (.if_icmp .ne 9, 3) := by decide +kernel
theorem dX11_recallNow_62 : decode cX11_recallNow 62 = .ok (.iconst 1, 1) := by decide +kernel
theorem dX11_recallNow_63 : decode cX11_recallNow 63 = .ok (.iload_n 3, 1) := by decide +kernel
theorem dX11_recallNow_64 : decode cX11_recallNow 64 = .ok (.ishl, 1) := by decide +kernel
theorem dX11_recallNow_65 : decode cX11_recallNow 65 = .ok (.goto 4, 3) := by decide +kernel
theorem dX11_recallNow_68 : decode cX11_recallNow 68 = .ok (.iconst 0, 1) := by decide +kernel
theorem dX11_recallNow_69 : decode cX11_recallNow 69 = .ok (.ior, 1) := by decide +kernel
theorem dX11_recallNow_70 : decode cX11_recallNow 70 = .ok (.istore_n 2, 1) := by decide +kernel
theorem dX11_recallNow_71 : decode cX11_recallNow 71 = .ok (.iinc 3 1, 3) := by decide +kernel
theorem dX11_recallNow_74 : decode cX11_recallNow 74 = .ok (.goto (-70), 3) := by decide +kernel
theorem dX11_recallNow_77 : decode cX11_recallNow 77 = .ok (.iload_n 2, 1) := by decide +kernel
theorem dX11_recallNow_78 : decode cX11_recallNow 78 = .ok (.ireturn, 1) := by decide +kernel
theorem dX11_recall_0 : decode cX11_recall 0 = .ok (.aload_n 0, 1) := by decide +kernel
theorem dX11_recall_1 : decode cX11_recall 1 = .ok (.iconst 0, 1) := by decide +kernel
theorem dX11_recall_2 : decode cX11_recall 2 = .ok (.putfield 26, 3) := by decide +kernel
theorem dX11_recall_5 : decode cX11_recall 5 = .ok (.aload_n 0, 1) := by decide +kernel
theorem dX11_recall_6 : decode cX11_recall 6 = .ok (.iload_n 1, 1) := by decide +kernel
theorem dX11_recall_7 : decode cX11_recall 7 = .ok (.invokevirtual 91, 3) := by decide +kernel
theorem dX11_recall_10 : decode cX11_recall 10 = .ok (.ifCond .ne 9, 3) := by decide +kernel
theorem dX11_recall_13 : decode cX11_recall 13 = .ok (.aload_n 0, 1) := by decide +kernel
theorem dX11_recall_14 : decode cX11_recall 14 = .ok (.iconst 1, 1) := by decide +kernel
theorem dX11_recall_15 : decode cX11_recall 15 = .ok (.invokevirtual 44, 3) := by decide +kernel
theorem dX11_recall_18 : decode cX11_recall 18 = .ok (.ireturn, 1) := by decide +kernel
theorem dX11_recall_19 : decode cX11_recall 19 = .ok (.aload_n 0, 1) := by decide +kernel
theorem dX11_recall_20 : decode cX11_recall 20 = .ok (.iload_n 1, 1) := by decide +kernel
theorem dX11_recall_21 : decode cX11_recall 21 = .ok (.invokevirtual 233, 3) := by decide +kernel
theorem dX11_recall_24 : decode cX11_recall 24 = .ok (.ireturn, 1) := by decide +kernel
theorem dX11_count_0 : decode cX11_count 0 = .ok (.iconst 0, 1) := by decide +kernel
theorem dX11_count_1 : decode cX11_count 1 = .ok (.istore_n 2, 1) := by decide +kernel
theorem dX11_count_2 : decode cX11_count 2 = .ok (.iconst 0, 1) := by decide +kernel
theorem dX11_count_3 : decode cX11_count 3 = .ok (.istore_n 3, 1) := by decide +kernel
theorem dX11_count_4 : decode cX11_count 4 = .ok (.iload_n 3, 1) := by decide +kernel
theorem dX11_count_5 : decode cX11_count 5 = .ok (.aload_n 0, 1) := by decide +kernel
theorem dX11_count_6 : decode cX11_count 6 = .ok (.getfield 10, 3) := by decide +kernel
theorem dX11_count_9 : decode cX11_count 9 = .ok (.invokeinterface 34 1, 5) := by decide +kernel
theorem dX11_count_14 : decode cX11_count 14 = .ok (.if_icmp .ge 37, 3) := by decide +kernel
theorem dX11_count_17 : decode cX11_count 17 = .ok (.iload_n 2, 1) := by decide +kernel
theorem dX11_count_18 : decode cX11_count 18 = .ok (.aload_n 0, 1) := by decide +kernel
theorem dX11_count_19 : decode cX11_count 19 = .ok (.getfield 10, 3) := by decide +kernel
theorem dX11_count_22 : decode cX11_count 22 = .ok (.iload_n 3, 1) := by decide +kernel
theorem dX11_count_23 : decode cX11_count 23 = .ok (.invokeinterface 59 2, 5) := by decide +kernel
theorem dX11_count_28 : decode cX11_count 28 = .ok (.checkcast 48, 3) := by decide +kernel
theorem dX11_count_31 : decode cX11_count 31 = .ok (.getfield 63, 3) := by decide +kernel
theorem dX11_count_34 : decode cX11_count 34 = .ok (.iload_n 1, 1) := by decide +kernel
theorem dX11_count_35 : decode cX11_count 35 = .ok (.if_icmp .ne 7, 3) := by decide +kernel
theorem dX11_count_38 : decode cX11_count 38 = .ok (.iconst 1, 1) := by decide +kernel
theorem dX11_count_39 : decode cX11_count 39 = .ok (.goto 4, 3) := by decide +kernel
theorem dX11_count_42 : decode cX11_count 42 = .ok (.iconst 0, 1) := by decide +kernel
theorem dX11_count_43 : decode cX11_count 43 = .ok (.iadd, 1) := by decide +kernel
theorem dX11_count_44 : decode cX11_count 44 = .ok (.istore_n 2, 1) := by decide +kernel
theorem dX11_count_45 : decode cX11_count 45 = .ok (.iinc 3 1, 3) := by decide +kernel
theorem dX11_count_48 : decode cX11_count 48 = .ok (.goto (-44), 3) := by decide +kernel
theorem dX11_count_51 : decode cX11_count 51 = .ok (.iload_n 2, 1) := by decide +kernel
theorem dX11_count_52 : decode cX11_count 52 = .ok (.ireturn, 1) := by decide +kernel
theorem dX11_manyNow_0 : decode cX11_manyNow 0 = .ok (.aload_n 0, 1) := by decide +kernel
theorem dX11_manyNow_1 : decode cX11_manyNow 1 = .ok (.getfield 22, 3) := by decide +kernel
theorem dX11_manyNow_4 : decode cX11_manyNow 4 = .ok (.iconst 0, 1) := by decide +kernel
theorem dX11_manyNow_5 : decode cX11_manyNow 5 = .ok (.aaload, 1) := by decide +kernel
theorem dX11_manyNow_6 : decode cX11_manyNow 6 = .ok (.getfield 124, 3) := by decide +kernel
theorem dX11_manyNow_9 : decode cX11_manyNow 9 = .ok (.aload_n 0, 1) := by decide +kernel
theorem dX11_manyNow_10 : decode cX11_manyNow 10 = .ok (.getfield 22, 3) := by decide +kernel
theorem dX11_manyNow_13 : decode cX11_manyNow 13 = .ok (.iconst 1, 1) := by decide +kernel
theorem dX11_manyNow_14 : decode cX11_manyNow 14 = .ok (.aaload, 1) := by decide +kernel
theorem dX11_manyNow_15 : decode cX11_manyNow 15 = .ok (.getfield 124, 3) := by decide +kernel
theorem dX11_manyNow_18 : decode cX11_manyNow 18 = .ok (.iadd, 1) := by decide +kernel
theorem dX11_manyNow_19 : decode cX11_manyNow 19 = .ok (.istore_n 2, 1) := by decide +kernel
theorem dX11_manyNow_20 : decode cX11_manyNow 20 = .ok (.iconst 0, 1) := by decide +kernel
theorem dX11_manyNow_21 : decode cX11_manyNow 21 = .ok (.istore_n 3, 1) := by decide +kernel
theorem dX11_manyNow_22 : decode cX11_manyNow 22 = .ok (.iload_n 3, 1) := by decide +kernel
theorem dX11_manyNow_23 : decode cX11_manyNow 23 = .ok (.aload_n 0, 1) := by decide +kernel
theorem dX11_manyNow_24 : decode cX11_manyNow 24 = .ok (.getfield 16, 3) := by decide +kernel
theorem dX11_manyNow_27 : decode cX11_manyNow 27 = .ok (.invokeinterface 34 1, 5) := by decide +kernel
theorem dX11_manyNow_32 : decode cX11_manyNow 32 = .ok (.if_icmp .ge 28, 3) := by decide +kernel
theorem dX11_manyNow_35 : decode cX11_manyNow 35 = .ok (.iload_n 2, 1) := by decide +kernel
theorem dX11_manyNow_36 : decode cX11_manyNow 36 = .ok (.aload_n 0, 1) := by decide +kernel
theorem dX11_manyNow_37 : decode cX11_manyNow 37 = .ok (.getfield 16, 3) := by decide +kernel
theorem dX11_manyNow_40 : decode cX11_manyNow 40 = .ok (.iload_n 3, 1) := by decide +kernel
theorem dX11_manyNow_41 : decode cX11_manyNow 41 = .ok (.invokeinterface 59 2, 5) := by decide +kernel
theorem dX11_manyNow_46 : decode cX11_manyNow 46 = .ok (.checkcast 86, 3) := by decide +kernel
theorem dX11_manyNow_49 : decode cX11_manyNow 49 = .ok (.getfield 100, 3) := by decide +kernel
theorem dX11_manyNow_52 : decode cX11_manyNow 52 = .ok (.iadd, 1) := by decide +kernel
theorem dX11_manyNow_53 : decode cX11_manyNow 53 = .ok (.istore_n 2, 1) := by decide +kernel
theorem dX11_manyNow_54 : decode cX11_manyNow 54 = .ok (.iinc 3 1, 3) := by decide +kernel
theorem dX11_manyNow_57 : decode cX11_manyNow 57 = .ok (.goto (-35), 3) := by decide +kernel
theorem dX11_manyNow_60 : decode cX11_manyNow 60 = .ok (.bipush 8, 2) := by decide +kernel
theorem dX11_manyNow_62 : decode cX11_manyNow 62 = .ok (.newarray .int, 2) := by decide +kernel
theorem dX11_manyNow_64 : decode cX11_manyNow 64 = .ok (.dup, 1) := by decide +kernel
theorem dX11_manyNow_65 : decode cX11_manyNow 65 = .ok (.iconst 0, 1) := by decide +kernel
theorem dX11_manyNow_66 : decode cX11_manyNow 66 = .ok (.aload_n 0, 1) := by decide +kernel
theorem dX11_manyNow_67 : decode cX11_manyNow 67 = .ok (.getfield 10, 3) := by decide +kernel
theorem dX11_manyNow_70 : decode cX11_manyNow 70 = .ok (.invokeinterface 34 1, 5) := by decide +kernel
theorem dX11_manyNow_75 : decode cX11_manyNow 75 = .ok (.iastore, 1) := by decide +kernel
theorem dX11_manyNow_76 : decode cX11_manyNow 76 = .ok (.dup, 1) := by decide +kernel
theorem dX11_manyNow_77 : decode cX11_manyNow 77 = .ok (.iconst 1, 1) := by decide +kernel
theorem dX11_manyNow_78 : decode cX11_manyNow 78 = .ok (.aload_n 0, 1) := by decide +kernel
theorem dX11_manyNow_79 : decode cX11_manyNow 79 = .ok (.getfield 16, 3) := by decide +kernel
theorem dX11_manyNow_82 : decode cX11_manyNow 82 = .ok (.invokeinterface 34 1, 5) := by decide +kernel
theorem dX11_manyNow_87 : decode cX11_manyNow 87 = .ok (.iastore, 1) := by decide +kernel
theorem dX11_manyNow_88 : decode cX11_manyNow 88 = .ok (.dup, 1) := by decide +kernel
theorem dX11_manyNow_89 : decode cX11_manyNow 89 = .ok (.iconst 2, 1) := by decide +kernel
theorem dX11_manyNow_90 : decode cX11_manyNow 90 = .ok (.aload_n 0, 1) := by decide +kernel
theorem dX11_manyNow_91 : decode cX11_manyNow 91 = .ok (.getfield 22, 3) := by decide +kernel
theorem dX11_manyNow_94 : decode cX11_manyNow 94 = .ok (.iconst 0, 1) := by decide +kernel
theorem dX11_manyNow_95 : decode cX11_manyNow 95 = .ok (.aaload, 1) := by decide +kernel
theorem dX11_manyNow_96 : decode cX11_manyNow 96 = .ok (.getfield 134, 3) := by decide +kernel
theorem dX11_manyNow_99 : decode cX11_manyNow 99 = .ok (.invokeinterface 34 1, 5) := by decide +kernel
theorem dX11_manyNow_104 : decode cX11_manyNow 104 = .ok (.aload_n 0, 1) := by decide +kernel
theorem dX11_manyNow_105 : decode cX11_manyNow 105 = .ok (.getfield 22, 3) := by decide +kernel
theorem dX11_manyNow_108 : decode cX11_manyNow 108 = .ok (.iconst 1, 1) := by decide +kernel
theorem dX11_manyNow_109 : decode cX11_manyNow 109 = .ok (.aaload, 1) := by decide +kernel
theorem dX11_manyNow_110 : decode cX11_manyNow 110 = .ok (.getfield 134, 3) := by decide +kernel
theorem dX11_manyNow_113 : decode cX11_manyNow 113 = .ok (.invokeinterface 34 1, 5) := by decide +kernel
theorem dX11_manyNow_118 : decode cX11_manyNow 118 = .ok (.iadd, 1) := by decide +kernel
theorem dX11_manyNow_119 : decode cX11_manyNow 119 = .ok (.iastore, 1) := by decide +kernel
theorem dX11_manyNow_120 : decode cX11_manyNow 120 = .ok (.dup, 1) := by decide +kernel
theorem dX11_manyNow_121 : decode cX11_manyNow 121 = .ok (.iconst 3, 1) := by decide +kernel
theorem dX11_manyNow_122 : decode cX11_manyNow 122 = .ok (.aload_n 0, 1) := by decide +kernel
theorem dX11_manyNow_123 : decode cX11_manyNow 123 = .ok (.iconst 5, 1) := by decide +kernel
theorem dX11_manyNow_124 : decode cX11_manyNow 124 = .ok (.invokevirtual 236, 3) := by decide +kernel
theorem dX11_manyNow_127 : decode cX11_manyNow 127 = .ok (.iastore, 1) := by decide +kernel
theorem dX11_manyNow_128 : decode cX11_manyNow 128 = .ok (.dup, 1) := by decide +kernel
theorem dX11_manyNow_129 : decode cX11_manyNow 129 = .ok (.iconst 4, 1) := by decide +kernel
theorem dX11_manyNow_130 : decode cX11_manyNow 130 = .ok (.aload_n 0, 1) := by decide +kernel
theorem dX11_manyNow_131 : decode cX11_manyNow 131 = .ok (.bipush 6, 2) := by decide +kernel
theorem dX11_manyNow_133 : decode cX11_manyNow 133 = .ok (.invokevirtual 236, 3) := by decide +kernel
theorem dX11_manyNow_136 : decode cX11_manyNow 136 = .ok (.iastore, 1) := by decide +kernel
theorem dX11_manyNow_137 : decode cX11_manyNow 137 = .ok (.dup, 1) := by decide +kernel
theorem dX11_manyNow_138 : decode cX11_manyNow 138 = .ok (.iconst 5, 1) := by decide +kernel
theorem dX11_manyNow_139 : decode cX11_manyNow 139 = .ok (.iload_n 2, 1) := by decide +kernel
theorem dX11_manyNow_140 : decode cX11_manyNow 140 = .ok (.iastore, 1) := by decide +kernel
theorem dX11_manyNow_141 : decode cX11_manyNow 141 = .ok (.dup, 1) := by decide +kernel
theorem dX11_manyNow_142 : decode cX11_manyNow 142 = .ok (.bipush 6, 2) := by decide +kernel
theorem dX11_manyNow_144 : decode cX11_manyNow 144 = .ok (.aload_n 0, 1) := by decide +kernel
theorem dX11_manyNow_145 : decode cX11_manyNow 145 = .ok (.getfield 179, 3) := by decide +kernel
theorem dX11_manyNow_148 : decode cX11_manyNow 148 = .ok (.iastore, 1) := by decide +kernel
theorem dX11_manyNow_149 : decode cX11_manyNow 149 = .ok (.dup, 1) := by decide +kernel
theorem dX11_manyNow_150 : decode cX11_manyNow 150 = .ok (.bipush 7, 2) := by decide +kernel
theorem dX11_manyNow_152 : decode cX11_manyNow 152 = .ok (.aload_n 0, 1) := by decide +kernel
theorem dX11_manyNow_153 : decode cX11_manyNow 153 = .ok (.getfield 172, 3) := by decide +kernel
theorem dX11_manyNow_156 : decode cX11_manyNow 156 = .ok (.iastore, 1) := by decide +kernel
theorem dX11_manyNow_157 : decode cX11_manyNow 157 = .ok (.astore_n 3, 1) := by decide +kernel
theorem dX11_manyNow_158 : decode cX11_manyNow 158 = .ok (.aload_n 3, 1) := by decide +kernel
theorem dX11_manyNow_159 : decode cX11_manyNow 159 = .ok (.iload_n 1, 1) := by decide +kernel
theorem dX11_manyNow_160 : decode cX11_manyNow 160 = .ok (.iaload, 1) := by decide +kernel
theorem dX11_manyNow_161 : decode cX11_manyNow 161 = .ok (.ireturn, 1) := by decide +kernel
theorem dX11_many_0 : decode cX11_many 0 = .ok (.aload_n 0, 1) := by decide +kernel
theorem dX11_many_1 : decode cX11_many 1 = .ok (.iconst 0, 1) := by decide +kernel
theorem dX11_many_2 : decode cX11_many 2 = .ok (.putfield 26, 3) := by decide +kernel
theorem dX11_many_5 : decode cX11_many 5 = .ok (.iload_n 1, 1) := by decide +kernel
theorem dX11_many_6 : decode cX11_many 6 = .ok (.iconst 0, 1) := by decide +kernel
theorem dX11_many_7 : decode cX11_many 7 = .ok (.bipush 7, 2) := by decide +kernel
theorem dX11_many_9 : decode cX11_many 9 = .ok (.invokestatic 40, 3) := by decide +kernel
theorem dX11_many_12 : decode cX11_many 12 = .ok (.ifCond .ne 9, 3) := by decide +kernel
theorem dX11_many_15 : decode cX11_many 15 = .ok (.aload_n 0, 1) := by decide +kernel
theorem dX11_many_16 : decode cX11_many 16 = .ok (.iconst 1, 1) := by decide +kernel
theorem dX11_many_17 : decode cX11_many 17 = .ok (.invokevirtual 44, 3) := by decide +kernel
theorem dX11_many_20 : decode cX11_many 20 = .ok (.ireturn, 1) := by decide +kernel
theorem dX11_many_21 : decode cX11_many 21 = .ok (.aload_n 0, 1) := by decide +kernel
theorem dX11_many_22 : decode cX11_many 22 = .ok (.iload_n 1, 1) := by decide +kernel
theorem dX11_many_23 : decode cX11_many 23 = .ok (.invokevirtual 239, 3) := by decide +kernel
theorem dX11_many_26 : decode cX11_many 26 = .ok (.ireturn, 1) := by decide +kernel
theorem dX11_wouldHold_0 : decode cX11_wouldHold 0 = .ok (.aload_n 0, 1) := by decide +kernel
theorem dX11_wouldHold_1 : decode cX11_wouldHold 1 = .ok (.iconst 0, 1) := by decide +kernel
theorem dX11_wouldHold_2 : decode cX11_wouldHold 2 = .ok (.putfield 26, 3) := by decide +kernel
theorem dX11_wouldHold_5 : decode cX11_wouldHold 5 = .ok (.aload_n 0, 1) := by decide +kernel
theorem dX11_wouldHold_6 : decode cX11_wouldHold 6 = .ok (.iload_n 1, 1) := by decide +kernel
theorem dX11_wouldHold_7 : decode cX11_wouldHold 7 = .ok (.invokevirtual 55, 3) := by decide +kernel
theorem dX11_wouldHold_10 : decode cX11_wouldHold 10 = .ok (.ifCond .ne 9, 3) := by decide +kernel
theorem dX11_wouldHold_13 : decode cX11_wouldHold 13 = .ok (.aload_n 0, 1) := by decide +kernel
theorem dX11_wouldHold_14 : decode cX11_wouldHold 14 = .ok (.iconst 1, 1) := by decide +kernel
theorem dX11_wouldHold_15 : decode cX11_wouldHold 15 = .ok (.invokevirtual 44, 3) := by decide +kernel
theorem dX11_wouldHold_18 : decode cX11_wouldHold 18 = .ok (.ireturn, 1) := by decide +kernel
theorem dX11_wouldHold_19 : decode cX11_wouldHold 19 = .ok (.iload_n 2, 1) := by decide +kernel
theorem dX11_wouldHold_20 : decode cX11_wouldHold 20 = .ok (.iconst 0, 1) := by decide +kernel
theorem dX11_wouldHold_21 : decode cX11_wouldHold 21 = .ok (.iconst 5, 1) := by decide +kernel
theorem dX11_wouldHold_22 : decode cX11_wouldHold 22 = .ok (.invokestatic 40, 3) := by decide +kernel
theorem dX11_wouldHold_25 : decode cX11_wouldHold 25 = .ok (.ifCond .ne 9, 3) := by decide +kernel
theorem dX11_wouldHold_28 : decode cX11_wouldHold 28 = .ok (.aload_n 0, 1) := by decide +kernel
theorem dX11_wouldHold_29 : decode cX11_wouldHold 29 = .ok (.iconst 2, 1) := by decide +kernel
theorem dX11_wouldHold_30 : decode cX11_wouldHold 30 = .ok (.invokevirtual 44, 3) := by decide +kernel
theorem dX11_wouldHold_33 : decode cX11_wouldHold 33 = .ok (.ireturn, 1) := by decide +kernel
theorem dX11_wouldHold_34 : decode cX11_wouldHold 34 = .ok (.aload_n 0, 1) := by decide +kernel
theorem dX11_wouldHold_35 : decode cX11_wouldHold 35 = .ok (.getfield 10, 3) := by decide +kernel
theorem dX11_wouldHold_38 : decode cX11_wouldHold 38 = .ok (.iload_n 1, 1) := by decide +kernel
theorem dX11_wouldHold_39 : decode cX11_wouldHold 39 = .ok (.invokeinterface 59 2, 5) := by decide +kernel
theorem dX11_wouldHold_44 : decode cX11_wouldHold 44 = .ok (.checkcast 48, 3) := by decide +kernel
theorem dX11_wouldHold_47 : decode cX11_wouldHold 47 = .ok (.getfield 66, 3) := by decide +kernel
theorem dX11_wouldHold_50 : decode cX11_wouldHold 50 = .ok (.iload_n 2, 1) := by decide +kernel
theorem dX11_wouldHold_51 : decode cX11_wouldHold 51 = .ok (.invokevirtual 79, 3) := by decide +kernel
theorem dX11_wouldHold_54 : decode cX11_wouldHold 54 = .ok (.invokevirtual 211, 3) := by decide +kernel
theorem dX11_wouldHold_57 : decode cX11_wouldHold 57 = .ok (.ireturn, 1) := by decide +kernel
theorem dX11_bestNow_0 : decode cX11_bestNow 0 = .ok (.iconst (-1), 1) := by decide +kernel
theorem dX11_bestNow_1 : decode cX11_bestNow 1 = .ok (.istore_n 2, 1) := by decide +kernel
theorem dX11_bestNow_2 : decode cX11_bestNow 2 = .ok (.iconst 0, 1) := by decide +kernel
theorem dX11_bestNow_3 : decode cX11_bestNow 3 = .ok (.istore_n 3, 1) := by decide +kernel
theorem dX11_bestNow_4 : decode cX11_bestNow 4 = .ok (.iconst 0, 1) := by decide +kernel
theorem dX11_bestNow_5 : decode cX11_bestNow 5 = .ok (.istore 4, 2) := by decide +kernel
theorem dX11_bestNow_7 : decode cX11_bestNow 7 = .ok (.iload 4, 2) := by decide +kernel
theorem dX11_bestNow_9 : decode cX11_bestNow 9 = .ok (.bipush 6, 2) := by decide +kernel
theorem dX11_bestNow_11 : decode cX11_bestNow 11 = .ok (.if_icmp .ge 53, 3) := by decide +kernel
theorem dX11_bestNow_14 : decode cX11_bestNow 14 = .ok (.aload_n 1, 1) := by decide +kernel
theorem dX11_bestNow_15 : decode cX11_bestNow 15 = .ok (.iload 4, 2) := by decide +kernel
theorem dX11_bestNow_17 : decode cX11_bestNow 17 = .ok (.invokevirtual 79, 3) := by decide +kernel
theorem dX11_bestNow_20 : decode cX11_bestNow 20 = .ok (.astore 5, 2) := by decide +kernel
theorem dX11_bestNow_22 : decode cX11_bestNow 22 = .ok (.bipush 100, 2) := by decide +kernel
theorem dX11_bestNow_24 : decode cX11_bestNow 24 = .ok (.aload 5, 2) := by decide +kernel
theorem dX11_bestNow_26 : decode cX11_bestNow 26 = .ok (.invokevirtual 211, 3) := by decide +kernel
theorem dX11_bestNow_29 : decode cX11_bestNow 29 = .ok (.imul, 1) := by decide +kernel
theorem dX11_bestNow_30 : decode cX11_bestNow 30 = .ok (.aload 5, 2) := by decide +kernel
theorem dX11_bestNow_32 : decode cX11_bestNow 32 = .ok (.invokevirtual 83, 3) := by decide +kernel
theorem dX11_bestNow_35 : decode cX11_bestNow 35 = .ok (.iadd, 1) := by decide +kernel
theorem dX11_bestNow_36 : decode cX11_bestNow 36 = .ok (.istore 6, 2) := by decide +kernel
theorem dX11_bestNow_38 : decode cX11_bestNow 38 = .ok (.iload_n 2, 1) := by decide +kernel
theorem dX11_bestNow_39 : decode cX11_bestNow 39 = .ok (.iconst (-1), 1) := by decide +kernel
theorem dX11_bestNow_40 : decode cX11_bestNow 40 = .ok (.if_icmp .eq 12, 3) := by decide +kernel
theorem dX11_bestNow_43 : decode cX11_bestNow 43 = .ok (.iload 6, 2) := by decide +kernel
theorem dX11_bestNow_45 : decode cX11_bestNow 45 = .ok (.iload_n 3, 1) := by decide +kernel
theorem dX11_bestNow_46 : decode cX11_bestNow 46 = .ok (.if_icmp .lt 6, 3) := by decide +kernel
theorem dX11_bestNow_49 : decode cX11_bestNow 49 = .ok (.goto 9, 3) := by decide +kernel
theorem dX11_bestNow_52 : decode cX11_bestNow 52 = .ok (.iload 4, 2) := by decide +kernel
theorem dX11_bestNow_54 : decode cX11_bestNow 54 = .ok (.istore_n 2, 1) := by decide +kernel
theorem dX11_bestNow_55 : decode cX11_bestNow 55 = .ok (.iload 6, 2) := by decide +kernel
theorem dX11_bestNow_57 : decode cX11_bestNow 57 = .ok (.istore_n 3, 1) := by decide +kernel
theorem dX11_bestNow_58 : decode cX11_bestNow 58 = .ok (.iinc 4 1, 3) := by decide +kernel
theorem dX11_bestNow_61 : decode cX11_bestNow 61 = .ok (.goto (-54), 3) := by decide +kernel
theorem dX11_bestNow_64 : decode cX11_bestNow 64 = .ok (.iload_n 2, 1) := by decide +kernel
theorem dX11_bestNow_65 : decode cX11_bestNow 65 = .ok (.ireturn, 1) := by decide +kernel
theorem dX11_bestWay_0 : decode cX11_bestWay 0 = .ok (.aload_n 0, 1) := by decide +kernel
theorem dX11_bestWay_1 : decode cX11_bestWay 1 = .ok (.iconst 0, 1) := by decide +kernel
theorem dX11_bestWay_2 : decode cX11_bestWay 2 = .ok (.putfield 26, 3) := by decide +kernel
theorem dX11_bestWay_5 : decode cX11_bestWay 5 = .ok (.aload_n 0, 1) := by decide +kernel
theorem dX11_bestWay_6 : decode cX11_bestWay 6 = .ok (.iload_n 1, 1) := by decide +kernel
theorem dX11_bestWay_7 : decode cX11_bestWay 7 = .ok (.invokevirtual 55, 3) := by decide +kernel
theorem dX11_bestWay_10 : decode cX11_bestWay 10 = .ok (.ifCond .ne 9, 3) := by decide +kernel
theorem dX11_bestWay_13 : decode cX11_bestWay 13 = .ok (.aload_n 0, 1) := by decide +kernel
theorem dX11_bestWay_14 : decode cX11_bestWay 14 = .ok (.iconst 1, 1) := by decide +kernel
theorem dX11_bestWay_15 : decode cX11_bestWay 15 = .ok (.invokevirtual 44, 3) := by decide +kernel
theorem dX11_bestWay_18 : decode cX11_bestWay 18 = .ok (.ireturn, 1) := by decide +kernel
theorem dX11_bestWay_19 : decode cX11_bestWay 19 = .ok (.aload_n 0, 1) := by decide +kernel
theorem dX11_bestWay_20 : decode cX11_bestWay 20 = .ok (.aload_n 0, 1) := by decide +kernel
theorem dX11_bestWay_21 : decode cX11_bestWay 21 = .ok (.getfield 10, 3) := by decide +kernel
theorem dX11_bestWay_24 : decode cX11_bestWay 24 = .ok (.iload_n 1, 1) := by decide +kernel
theorem dX11_bestWay_25 : decode cX11_bestWay 25 = .ok (.invokeinterface 59 2, 5) := by decide +kernel
theorem dX11_bestWay_30 : decode cX11_bestWay 30 = .ok (.checkcast 48, 3) := by decide +kernel
theorem dX11_bestWay_33 : decode cX11_bestWay 33 = .ok (.getfield 66, 3) := by decide +kernel
theorem dX11_bestWay_36 : decode cX11_bestWay 36 = .ok (.invokevirtual 242, 3) := by decide +kernel
theorem dX11_bestWay_39 : decode cX11_bestWay 39 = .ok (.ireturn, 1) := by decide +kernel
theorem dX11_speedNow_0 : decode cX11_speedNow 0 = .ok (.iconst (-1), 1) := by decide +kernel
theorem dX11_speedNow_1 : decode cX11_speedNow 1 = .ok (.istore_n 3, 1) := by decide +kernel
theorem dX11_speedNow_2 : decode cX11_speedNow 2 = .ok (.iconst 0, 1) := by decide +kernel
theorem dX11_speedNow_3 : decode cX11_speedNow 3 = .ok (.istore 4, 2) := by decide +kernel
theorem dX11_speedNow_5 : decode cX11_speedNow 5 = .ok (.bipush 20, 2) := by decide +kernel
theorem dX11_speedNow_7 : decode cX11_speedNow 7 = .ok (.istore 5, 2) := by decide +kernel
theorem dX11_speedNow_9 : decode cX11_speedNow 9 = .ok (.iload 5, 2) := by decide +kernel
theorem dX11_speedNow_11 : decode cX11_speedNow 11 = .ok (.ifCond .le 77, 3) := by decide +kernel
theorem dX11_speedNow_14 : decode cX11_speedNow 14 = .ok (.new 143, 3) := by decide +kernel
theorem dX11_speedNow_17 : decode cX11_speedNow 17 = .ok (.dup, 1) := by decide +kernel
theorem dX11_speedNow_18 : decode cX11_speedNow 18 = .ok (.iload_n 2, 1) := by decide +kernel
theorem dX11_speedNow_19 : decode cX11_speedNow 19 = .ok (.iload 5, 2) := by decide +kernel
theorem dX11_speedNow_21 : decode cX11_speedNow 21 = .ok (.invokespecial 145, 3) := by decide +kernel
theorem dX11_speedNow_24 : decode cX11_speedNow 24 = .ok (.astore 6, 2) := by decide +kernel
theorem dX11_speedNow_26 : decode cX11_speedNow 26 = .ok (.aload 6, 2) := by decide +kernel
theorem dX11_speedNow_28 : decode cX11_speedNow 28 = .ok (.getfield 161, 3) := by decide +kernel
theorem dX11_speedNow_31 : decode cX11_speedNow 31 = .ok (.aload_n 1, 1) := by decide +kernel
theorem dX11_speedNow_32 : decode cX11_speedNow 32 = .ok (.invokevirtual 83, 3) := by decide +kernel
theorem dX11_speedNow_35 : decode cX11_speedNow 35 = .ok (.if_icmp .ge 12, 3) := by decide +kernel
theorem dX11_speedNow_38 : decode cX11_speedNow 38 = .ok (.aload 6, 2) := by decide +kernel
theorem dX11_speedNow_40 : decode cX11_speedNow 40 = .ok (.aload_n 1, 1) := by decide +kernel
theorem dX11_speedNow_41 : decode cX11_speedNow 41 = .ok (.invokevirtual 168, 3) := by decide +kernel
theorem dX11_speedNow_44 : decode cX11_speedNow 44 = .ok (.goto (-18), 3) := by decide +kernel
theorem dX11_speedNow_47 : decode cX11_speedNow 47 = .ok (.aload 6, 2) := by decide +kernel
theorem dX11_speedNow_49 : decode cX11_speedNow 49 = .ok (.getfield 189, 3) := by decide +kernel
theorem dX11_speedNow_52 : decode cX11_speedNow 52 = .ok (.aload 6, 2) := by decide +kernel
theorem dX11_speedNow_54 : decode cX11_speedNow 54 = .ok (.getfield 214, 3) := by decide +kernel
theorem dX11_speedNow_57 : decode cX11_speedNow 57 = .ok (.iadd, 1) := by decide +kernel
theorem dX11_speedNow_58 : decode cX11_speedNow 58 = .ok (.istore 7, 2) := by decide +kernel
theorem dX11_speedNow_60 : decode cX11_speedNow 60 = .ok (.iload_n 3, 1) := by decide +kernel
theorem dX11_speedNow_61 : decode cX11_speedNow 61 = .ok (.iconst (-1), 1) := by decide +kernel
theorem dX11_speedNow_62 : decode cX11_speedNow 62 = .ok (.if_icmp .eq 13, 3) := by decide +kernel
theorem dX11_speedNow_65 : decode cX11_speedNow 65 = .ok (.iload 7, 2) := by decide +kernel
theorem dX11_speedNow_67 : decode cX11_speedNow 67 = .ok (.iload 4, 2) := by decide +kernel
theorem dX11_speedNow_69 : decode cX11_speedNow 69 = .ok (.if_icmp .lt 6, 3) := by decide +kernel
theorem dX11_speedNow_72 : decode cX11_speedNow 72 = .ok (.goto 10, 3) := by decide +kernel
theorem dX11_speedNow_75 : decode cX11_speedNow 75 = .ok (.iload 5, 2) := by decide +kernel
theorem dX11_speedNow_77 : decode cX11_speedNow 77 = .ok (.istore_n 3, 1) := by decide +kernel
theorem dX11_speedNow_78 : decode cX11_speedNow 78 = .ok (.iload 7, 2) := by decide +kernel
theorem dX11_speedNow_80 : decode cX11_speedNow 80 = .ok (.istore 4, 2) := by decide +kernel
theorem dX11_speedNow_82 : decode cX11_speedNow 82 = .ok (.iinc 5 (-1), 3) := by decide +kernel
theorem dX11_speedNow_85 : decode cX11_speedNow 85 = .ok (.goto (-76), 3) := by decide +kernel
theorem dX11_speedNow_88 : decode cX11_speedNow 88 = .ok (.iload_n 3, 1) := by decide +kernel
theorem dX11_speedNow_89 : decode cX11_speedNow 89 = .ok (.ireturn, 1) := by decide +kernel
theorem dX11_bestSpeed_0 : decode cX11_bestSpeed 0 = .ok (.aload_n 0, 1) := by decide +kernel
theorem dX11_bestSpeed_1 : decode cX11_bestSpeed 1 = .ok (.iconst 0, 1) := by decide +kernel
theorem dX11_bestSpeed_2 : decode cX11_bestSpeed 2 = .ok (.putfield 26, 3) := by decide +kernel
theorem dX11_bestSpeed_5 : decode cX11_bestSpeed 5 = .ok (.aload_n 0, 1) := by decide +kernel
theorem dX11_bestSpeed_6 : decode cX11_bestSpeed 6 = .ok (.iload_n 1, 1) := by decide +kernel
theorem dX11_bestSpeed_7 : decode cX11_bestSpeed 7 = .ok (.invokevirtual 55, 3) := by decide +kernel
theorem dX11_bestSpeed_10 : decode cX11_bestSpeed 10 = .ok (.ifCond .ne 9, 3) := by decide +kernel
theorem dX11_bestSpeed_13 : decode cX11_bestSpeed 13 = .ok (.aload_n 0, 1) := by decide +kernel
theorem dX11_bestSpeed_14 : decode cX11_bestSpeed 14 = .ok (.iconst 1, 1) := by decide +kernel
theorem dX11_bestSpeed_15 : decode cX11_bestSpeed 15 = .ok (.invokevirtual 44, 3) := by decide +kernel
theorem dX11_bestSpeed_18 : decode cX11_bestSpeed 18 = .ok (.ireturn, 1) := by decide +kernel
theorem dX11_bestSpeed_19 : decode cX11_bestSpeed 19 = .ok (.iload_n 2, 1) := by decide +kernel
theorem dX11_bestSpeed_20 : decode cX11_bestSpeed 20 = .ok (.bipush 50, 2) := by decide +kernel
theorem dX11_bestSpeed_22 : decode cX11_bestSpeed 22 = .ok (.sipush 400, 3) := by decide +kernel
theorem dX11_bestSpeed_25 : decode cX11_bestSpeed 25 = .ok (.invokestatic 40, 3) := by decide +kernel
theorem dX11_bestSpeed_28 : decode cX11_bestSpeed 28 = .ok (.ifCond .ne 9, 3) := by decide +kernel
theorem dX11_bestSpeed_31 : decode cX11_bestSpeed 31 = .ok (.aload_n 0, 1) := by decide +kernel
theorem dX11_bestSpeed_32 : decode cX11_bestSpeed 32 = .ok (.iconst 2, 1) := by decide +kernel
theorem dX11_bestSpeed_33 : decode cX11_bestSpeed 33 = .ok (.invokevirtual 44, 3) := by decide +kernel
theorem dX11_bestSpeed_36 : decode cX11_bestSpeed 36 = .ok (.ireturn, 1) := by decide +kernel
theorem dX11_bestSpeed_37 : decode cX11_bestSpeed 37 = .ok (.aload_n 0, 1) := by decide +kernel
theorem dX11_bestSpeed_38 : decode cX11_bestSpeed 38 = .ok (.aload_n 0, 1) := by decide +kernel
theorem dX11_bestSpeed_39 : decode cX11_bestSpeed 39 = .ok (.getfield 10, 3) := by decide +kernel
theorem dX11_bestSpeed_42 : decode cX11_bestSpeed 42 = .ok (.iload_n 1, 1) := by decide +kernel
theorem dX11_bestSpeed_43 : decode cX11_bestSpeed 43 = .ok (.invokeinterface 59 2, 5) := by decide +kernel
theorem dX11_bestSpeed_48 : decode cX11_bestSpeed 48 = .ok (.checkcast 48, 3) := by decide +kernel
theorem dX11_bestSpeed_51 : decode cX11_bestSpeed 51 = .ok (.getfield 66, 3) := by decide +kernel
theorem dX11_bestSpeed_54 : decode cX11_bestSpeed 54 = .ok (.iload_n 2, 1) := by decide +kernel
theorem dX11_bestSpeed_55 : decode cX11_bestSpeed 55 = .ok (.invokevirtual 246, 3) := by decide +kernel
theorem dX11_bestSpeed_58 : decode cX11_bestSpeed 58 = .ok (.ireturn, 1) := by decide +kernel
theorem dX11_digest_0 : decode cX11_digest 0 = .ok (.aload_n 0, 1) := by decide +kernel
theorem dX11_digest_1 : decode cX11_digest 1 = .ok (.iconst 0, 1) := by decide +kernel
theorem dX11_digest_2 : decode cX11_digest 2 = .ok (.putfield 26, 3) := by decide +kernel
theorem dX11_digest_5 : decode cX11_digest 5 = .ok (.ldc2_w 250, 3) := by decide +kernel
theorem dX11_digest_8 : decode cX11_digest 8 = .ok (.lstore_n 1, 1) := by decide +kernel
theorem dX11_digest_9 : decode cX11_digest 9 = .ok (.iconst 0, 1) := by decide +kernel
theorem dX11_digest_10 : decode cX11_digest 10 = .ok (.istore_n 3, 1) := by decide +kernel
theorem dX11_digest_11 : decode cX11_digest 11 = .ok (.iload_n 3, 1) := by decide +kernel
theorem dX11_digest_12 : decode cX11_digest 12 = .ok (.bipush 7, 2) := by decide +kernel
theorem dX11_digest_14 : decode cX11_digest 14 = .ok (.if_icmp .gt 22, 3) := by decide +kernel
theorem dX11_digest_17 : decode cX11_digest 17 = .ok (.lload_n 1, 1) := by decide +kernel
theorem dX11_digest_18 : decode cX11_digest 18 = .ok (.ldc2_w 252, 3) := by decide +kernel
theorem dX11_digest_21 : decode cX11_digest 21 = .ok (.lmul, 1) := by decide +kernel
theorem dX11_digest_22 : decode cX11_digest 22 = .ok (.aload_n 0, 1) := by decide +kernel
theorem dX11_digest_23 : decode cX11_digest 23 = .ok (.iload_n 3, 1) := by decide +kernel
theorem dX11_digest_24 : decode cX11_digest 24 = .ok (.invokevirtual 239, 3) := by decide +kernel
theorem dX11_digest_27 : decode cX11_digest 27 = .ok (.i2l, 1) := by decide +kernel
theorem dX11_digest_28 : decode cX11_digest 28 = .ok (.ladd, 1) := by decide +kernel
theorem dX11_digest_29 : decode cX11_digest 29 = .ok (.lstore_n 1, 1) := by decide +kernel
theorem dX11_digest_30 : decode cX11_digest 30 = .ok (.iinc 3 1, 3) := by decide +kernel
theorem dX11_digest_33 : decode cX11_digest 33 = .ok (.goto (-22), 3) := by decide +kernel
theorem dX11_digest_36 : decode cX11_digest 36 = .ok (.iconst 0, 1) := by decide +kernel
theorem dX11_digest_37 : decode cX11_digest 37 = .ok (.istore_n 3, 1) := by decide +kernel
theorem dX11_digest_38 : decode cX11_digest 38 = .ok (.iload_n 3, 1) := by decide +kernel
theorem dX11_digest_39 : decode cX11_digest 39 = .ok (.aload_n 0, 1) := by decide +kernel
theorem dX11_digest_40 : decode cX11_digest 40 = .ok (.getfield 10, 3) := by decide +kernel
theorem dX11_digest_43 : decode cX11_digest 43 = .ok (.invokeinterface 34 1, 5) := by decide +kernel
theorem dX11_digest_48 : decode cX11_digest 48 = .ok (.if_icmp .ge 163, 3) := by decide +kernel
theorem dX11_digest_51 : decode cX11_digest 51 = .ok (.aload_n 0, 1) := by decide +kernel
theorem dX11_digest_52 : decode cX11_digest 52 = .ok (.getfield 10, 3) := by decide +kernel
theorem dX11_digest_55 : decode cX11_digest 55 = .ok (.iload_n 3, 1) := by decide +kernel
theorem dX11_digest_56 : decode cX11_digest 56 = .ok (.invokeinterface 59 2, 5) := by decide +kernel
theorem dX11_digest_61 : decode cX11_digest 61 = .ok (.checkcast 48, 3) := by decide +kernel
theorem dX11_digest_64 : decode cX11_digest 64 = .ok (.astore 4, 2) := by decide +kernel
theorem dX11_digest_66 : decode cX11_digest 66 = .ok (.iconst 0, 1) := by decide +kernel
theorem dX11_digest_67 : decode cX11_digest 67 = .ok (.istore 5, 2) := by decide +kernel
theorem dX11_digest_69 : decode cX11_digest 69 = .ok (.iload 5, 2) := by decide +kernel
theorem dX11_digest_71 : decode cX11_digest 71 = .ok (.bipush 14, 2) := by decide +kernel
theorem dX11_digest_73 : decode cX11_digest 73 = .ok (.if_icmp .gt 24, 3) := by decide +kernel
theorem dX11_digest_76 : decode cX11_digest 76 = .ok (.lload_n 1, 1) := by decide +kernel
theorem dX11_digest_77 : decode cX11_digest 77 = .ok (.ldc2_w 252, 3) := by decide +kernel
theorem dX11_digest_80 : decode cX11_digest 80 = .ok (.lmul, 1) := by decide +kernel
theorem dX11_digest_81 : decode cX11_digest 81 = .ok (.aload 4, 2) := by decide +kernel
theorem dX11_digest_83 : decode cX11_digest 83 = .ok (.iload 5, 2) := by decide +kernel
theorem dX11_digest_85 : decode cX11_digest 85 = .ok (.invokestatic 217, 3) := by decide +kernel
theorem dX11_digest_88 : decode cX11_digest 88 = .ok (.i2l, 1) := by decide +kernel
theorem dX11_digest_89 : decode cX11_digest 89 = .ok (.ladd, 1) := by decide +kernel
theorem dX11_digest_90 : decode cX11_digest 90 = .ok (.lstore_n 1, 1) := by decide +kernel
theorem dX11_digest_91 : decode cX11_digest 91 = .ok (.iinc 5 1, 3) := by decide +kernel
theorem dX11_digest_94 : decode cX11_digest 94 = .ok (.goto (-25), 3) := by decide +kernel
theorem dX11_digest_97 : decode cX11_digest 97 = .ok (.lload_n 1, 1) := by decide +kernel
theorem dX11_digest_98 : decode cX11_digest 98 = .ok (.ldc2_w 252, 3) := by decide +kernel
theorem dX11_digest_101 : decode cX11_digest 101 = .ok (.lmul, 1) := by decide +kernel
theorem dX11_digest_102 : decode cX11_digest 102 = .ok (.aload 4, 2) := by decide +kernel
theorem dX11_digest_104 : decode cX11_digest 104 = .ok (.getfield 148, 3) := by decide +kernel
theorem dX11_digest_107 : decode cX11_digest 107 = .ok (.getfield 173, 3) := by decide +kernel
theorem dX11_digest_110 : decode cX11_digest 110 = .ok (.ldc2_w 254, 3) := by decide +kernel
theorem dX11_digest_113 : decode cX11_digest 113 = .ok (.dmul, 1) := by decide +kernel
theorem dX11_digest_114 : decode cX11_digest 114 = .ok (.d2i, 1) := by decide +kernel
theorem dX11_digest_115 : decode cX11_digest 115 = .ok (.i2l, 1) := by decide +kernel
theorem dX11_digest_116 : decode cX11_digest 116 = .ok (.ladd, 1) := by decide +kernel
theorem dX11_digest_117 : decode cX11_digest 117 = .ok (.lstore_n 1, 1) := by decide +kernel
theorem dX11_digest_118 : decode cX11_digest 118 = .ok (.lload_n 1, 1) := by decide +kernel
theorem dX11_digest_119 : decode cX11_digest 119 = .ok (.ldc2_w 252, 3) := by decide +kernel
theorem dX11_digest_122 : decode cX11_digest 122 = .ok (.lmul, 1) := by decide +kernel
theorem dX11_digest_123 : decode cX11_digest 123 = .ok (.aload_n 0, 1) := by decide +kernel
theorem dX11_digest_124 : decode cX11_digest 124 = .ok (.aload 4, 2) := by decide +kernel
theorem dX11_digest_126 : decode cX11_digest 126 = .ok (.getfield 66, 3) := by decide +kernel
theorem dX11_digest_129 : decode cX11_digest 129 = .ok (.invokevirtual 242, 3) := by decide +kernel
theorem dX11_digest_132 : decode cX11_digest 132 = .ok (.i2l, 1) := by decide +kernel
theorem dX11_digest_133 : decode cX11_digest 133 = .ok (.ladd, 1) := by decide +kernel
theorem dX11_digest_134 : decode cX11_digest 134 = .ok (.lstore_n 1, 1) := by decide +kernel
theorem dX11_digest_135 : decode cX11_digest 135 = .ok (.lload_n 1, 1) := by decide +kernel
theorem dX11_digest_136 : decode cX11_digest 136 = .ok (.ldc2_w 252, 3) := by decide +kernel
theorem dX11_digest_139 : decode cX11_digest 139 = .ok (.lmul, 1) := by decide +kernel
theorem dX11_digest_140 : decode cX11_digest 140 = .ok (.aload_n 0, 1) := by decide +kernel
theorem dX11_digest_141 : decode cX11_digest 141 = .ok (.aload 4, 2) := by decide +kernel
theorem dX11_digest_143 : decode cX11_digest 143 = .ok (.getfield 66, 3) := by decide +kernel
theorem dX11_digest_146 : decode cX11_digest 146 = .ok (.sipush 200, 3) := by decide +kernel
theorem dX11_digest_149 : decode cX11_digest 149 = .ok (.invokevirtual 246, 3) := by decide +kernel
theorem dX11_digest_152 : decode cX11_digest 152 = .ok (.i2l, 1) := by decide +kernel
theorem dX11_digest_153 : decode cX11_digest 153 = .ok (.ladd, 1) := by decide +kernel
theorem dX11_digest_154 : decode cX11_digest 154 = .ok (.lstore_n 1, 1) := by decide +kernel
theorem dX11_digest_155 : decode cX11_digest 155 = .ok (.iconst 0, 1) := by decide +kernel
theorem dX11_digest_156 : decode cX11_digest 156 = .ok (.istore 5, 2) := by decide +kernel
theorem dX11_digest_158 : decode cX11_digest 158 = .ok (.iload 5, 2) := by decide +kernel
theorem dX11_digest_160 : decode cX11_digest 160 = .ok (.bipush 8, 2) := by decide +kernel
theorem dX11_digest_162 : decode cX11_digest 162 = .ok (.if_icmp .ge 43, 3) := by decide +kernel
theorem dX11_digest_165 : decode cX11_digest 165 = .ok (.iconst 0, 1) := by decide +kernel
theorem dX11_digest_166 : decode cX11_digest 166 = .ok (.istore 6, 2) := by decide +kernel
theorem dX11_digest_168 : decode cX11_digest 168 = .ok (.iload 6, 2) := by decide +kernel
theorem dX11_digest_170 : decode cX11_digest 170 = .ok (.iconst 2, 1) := by decide +kernel
theorem dX11_digest_171 : decode cX11_digest 171 = .ok (.if_icmp .gt 28, 3) := by decide +kernel
theorem dX11_digest_174 : decode cX11_digest 174 = .ok (.lload_n 1, 1) := by decide +kernel
theorem dX11_digest_175 : decode cX11_digest 175 = .ok (.ldc2_w 252, 3) := by decide +kernel
theorem dX11_digest_178 : decode cX11_digest 178 = .ok (.lmul, 1) := by decide +kernel
theorem dX11_digest_179 : decode cX11_digest 179 = .ok (.aload 4, 2) := by decide +kernel
theorem dX11_digest_181 : decode cX11_digest 181 = .ok (.getfield 66, 3) := by decide +kernel
theorem dX11_digest_184 : decode cX11_digest 184 = .ok (.iload 5, 2) := by decide +kernel
theorem dX11_digest_186 : decode cX11_digest 186 = .ok (.iload 6, 2) := by decide +kernel
theorem dX11_digest_188 : decode cX11_digest 188 = .ok (.invokestatic 223, 3) := by decide +kernel
theorem dX11_digest_191 : decode cX11_digest 191 = .ok (.ladd, 1) := by decide +kernel
theorem dX11_digest_192 : decode cX11_digest 192 = .ok (.lstore_n 1, 1) := by decide +kernel
theorem dX11_digest_193 : decode cX11_digest 193 = .ok (.iinc 6 1, 3) := by decide +kernel
theorem dX11_digest_196 : decode cX11_digest 196 = .ok (.goto (-28), 3) := by decide +kernel
theorem dX11_digest_199 : decode cX11_digest 199 = .ok (.iinc 5 1, 3) := by decide +kernel
theorem dX11_digest_202 : decode cX11_digest 202 = .ok (.goto (-44), 3) := by decide +kernel
theorem dX11_digest_205 : decode cX11_digest 205 = .ok (.iinc 3 1, 3) := by decide +kernel
theorem dX11_digest_208 : decode cX11_digest 208 = .ok (.goto (-170), 3) := by decide +kernel
theorem dX11_digest_211 : decode cX11_digest 211 = .ok (.iconst 0, 1) := by decide +kernel
theorem dX11_digest_212 : decode cX11_digest 212 = .ok (.istore_n 3, 1) := by decide +kernel
theorem dX11_digest_213 : decode cX11_digest 213 = .ok (.iload_n 3, 1) := by decide +kernel
theorem dX11_digest_214 : decode cX11_digest 214 = .ok (.aload_n 0, 1) := by decide +kernel
theorem dX11_digest_215 : decode cX11_digest 215 = .ok (.getfield 16, 3) := by decide +kernel
theorem dX11_digest_218 : decode cX11_digest 218 = .ok (.invokeinterface 34 1, 5) := by decide +kernel
theorem dX11_digest_223 : decode cX11_digest 223 = .ok (.if_icmp .ge 52, 3) := by decide +kernel
theorem dX11_digest_226 : decode cX11_digest 226 = .ok (.iconst 0, 1) := by decide +kernel
theorem dX11_digest_227 : decode cX11_digest 227 = .ok (.istore 4, 2) := by decide +kernel
theorem dX11_digest_229 : decode cX11_digest 229 = .ok (.iload 4, 2) := by decide +kernel
theorem dX11_digest_231 : decode cX11_digest 231 = .ok (.iconst 4, 1) := by decide +kernel
theorem dX11_digest_232 : decode cX11_digest 232 = .ok (.if_icmp .gt 24, 3) := by decide +kernel
theorem dX11_digest_235 : decode cX11_digest 235 = .ok (.lload_n 1, 1) := by decide +kernel
theorem dX11_digest_236 : decode cX11_digest 236 = .ok (.ldc2_w 252, 3) := by decide +kernel
theorem dX11_digest_239 : decode cX11_digest 239 = .ok (.lmul, 1) := by decide +kernel
theorem dX11_digest_240 : decode cX11_digest 240 = .ok (.aload_n 0, 1) := by decide +kernel
theorem dX11_digest_241 : decode cX11_digest 241 = .ok (.iload_n 3, 1) := by decide +kernel
theorem dX11_digest_242 : decode cX11_digest 242 = .ok (.iload 4, 2) := by decide +kernel
theorem dX11_digest_244 : decode cX11_digest 244 = .ok (.invokevirtual 227, 3) := by decide +kernel
theorem dX11_digest_247 : decode cX11_digest 247 = .ok (.i2l, 1) := by decide +kernel
theorem dX11_digest_248 : decode cX11_digest 248 = .ok (.ladd, 1) := by decide +kernel
theorem dX11_digest_249 : decode cX11_digest 249 = .ok (.lstore_n 1, 1) := by decide +kernel
theorem dX11_digest_250 : decode cX11_digest 250 = .ok (.iinc 4 1, 3) := by decide +kernel
theorem dX11_digest_253 : decode cX11_digest 253 = .ok (.goto (-24), 3) := by decide +kernel
theorem dX11_digest_256 : decode cX11_digest 256 = .ok (.lload_n 1, 1) := by decide +kernel
theorem dX11_digest_257 : decode cX11_digest 257 = .ok (.ldc2_w 252, 3) := by decide +kernel
theorem dX11_digest_260 : decode cX11_digest 260 = .ok (.lmul, 1) := by decide +kernel
theorem dX11_digest_261 : decode cX11_digest 261 = .ok (.aload_n 0, 1) := by decide +kernel
theorem dX11_digest_262 : decode cX11_digest 262 = .ok (.iload_n 3, 1) := by decide +kernel
theorem dX11_digest_263 : decode cX11_digest 263 = .ok (.invokevirtual 233, 3) := by decide +kernel
theorem dX11_digest_266 : decode cX11_digest 266 = .ok (.i2l, 1) := by decide +kernel
theorem dX11_digest_267 : decode cX11_digest 267 = .ok (.ladd, 1) := by decide +kernel
theorem dX11_digest_268 : decode cX11_digest 268 = .ok (.lstore_n 1, 1) := by decide +kernel
theorem dX11_digest_269 : decode cX11_digest 269 = .ok (.iinc 3 1, 3) := by decide +kernel
theorem dX11_digest_272 : decode cX11_digest 272 = .ok (.goto (-59), 3) := by decide +kernel
theorem dX11_digest_275 : decode cX11_digest 275 = .ok (.iconst 0, 1) := by decide +kernel
theorem dX11_digest_276 : decode cX11_digest 276 = .ok (.istore_n 3, 1) := by decide +kernel
theorem dX11_digest_277 : decode cX11_digest 277 = .ok (.iload_n 3, 1) := by decide +kernel
theorem dX11_digest_278 : decode cX11_digest 278 = .ok (.iconst 2, 1) := by decide +kernel
theorem dX11_digest_279 : decode cX11_digest 279 = .ok (.if_icmp .ge 39, 3) := by decide +kernel
theorem dX11_digest_282 : decode cX11_digest 282 = .ok (.iconst 0, 1) := by decide +kernel
theorem dX11_digest_283 : decode cX11_digest 283 = .ok (.istore 4, 2) := by decide +kernel
theorem dX11_digest_285 : decode cX11_digest 285 = .ok (.iload 4, 2) := by decide +kernel
theorem dX11_digest_287 : decode cX11_digest 287 = .ok (.iconst 4, 1) := by decide +kernel
theorem dX11_digest_288 : decode cX11_digest 288 = .ok (.if_icmp .gt 24, 3) := by decide +kernel
theorem dX11_digest_291 : decode cX11_digest 291 = .ok (.lload_n 1, 1) := by decide +kernel
theorem dX11_digest_292 : decode cX11_digest 292 = .ok (.ldc2_w 252, 3) := by decide +kernel
theorem dX11_digest_295 : decode cX11_digest 295 = .ok (.lmul, 1) := by decide +kernel
theorem dX11_digest_296 : decode cX11_digest 296 = .ok (.aload_n 0, 1) := by decide +kernel
theorem dX11_digest_297 : decode cX11_digest 297 = .ok (.iload_n 3, 1) := by decide +kernel
theorem dX11_digest_298 : decode cX11_digest 298 = .ok (.iload 4, 2) := by decide +kernel
theorem dX11_digest_300 : decode cX11_digest 300 = .ok (.invokevirtual 230, 3) := by decide +kernel
theorem dX11_digest_303 : decode cX11_digest 303 = .ok (.i2l, 1) := by decide +kernel
theorem dX11_digest_304 : decode cX11_digest 304 = .ok (.ladd, 1) := by decide +kernel
theorem dX11_digest_305 : decode cX11_digest 305 = .ok (.lstore_n 1, 1) := by decide +kernel
theorem dX11_digest_306 : decode cX11_digest 306 = .ok (.iinc 4 1, 3) := by decide +kernel
theorem dX11_digest_309 : decode cX11_digest 309 = .ok (.goto (-24), 3) := by decide +kernel
theorem dX11_digest_312 : decode cX11_digest 312 = .ok (.iinc 3 1, 3) := by decide +kernel
theorem dX11_digest_315 : decode cX11_digest 315 = .ok (.goto (-38), 3) := by decide +kernel
theorem dX11_digest_318 : decode cX11_digest 318 = .ok (.lload_n 1, 1) := by decide +kernel
theorem dX11_digest_319 : decode cX11_digest 319 = .ok (.lreturn, 1) := by decide +kernel
theorem dJ13_bitCount_95d88_0 : decode cJ13_bitCount_95d88 0 = .ok (.lload_n 0, 1) := by decide +kernel
theorem dJ13_bitCount_95d88_1 : decode cJ13_bitCount_95d88 1 = .ok (.lload_n 0, 1) := by decide +kernel
theorem dJ13_bitCount_95d88_2 : decode cJ13_bitCount_95d88 2 = .ok (.iconst 1, 1) := by decide +kernel
theorem dJ13_bitCount_95d88_3 : decode cJ13_bitCount_95d88 3 = .ok (.lushr, 1) := by decide +kernel
theorem dJ13_bitCount_95d88_4 : decode cJ13_bitCount_95d88 4 = .ok (.ldc2_w 314, 3) := by decide +kernel
theorem dJ13_bitCount_95d88_7 : decode cJ13_bitCount_95d88 7 = .ok (.land, 1) := by decide +kernel
theorem dJ13_bitCount_95d88_8 : decode cJ13_bitCount_95d88 8 = .ok (.lsub, 1) := by decide +kernel
theorem dJ13_bitCount_95d88_9 : decode cJ13_bitCount_95d88 9 = .ok (.lstore_n 0, 1) := by decide +kernel
theorem dJ13_bitCount_95d88_10 : decode cJ13_bitCount_95d88 10 = .ok (.lload_n 0, 1) := by decide +kernel
theorem dJ13_bitCount_95d88_11 : decode cJ13_bitCount_95d88 11 = .ok (.ldc2_w 316, 3) := by decide +kernel
theorem dJ13_bitCount_95d88_14 : decode cJ13_bitCount_95d88 14 = .ok (.land, 1) := by decide +kernel
theorem dJ13_bitCount_95d88_15 : decode cJ13_bitCount_95d88 15 = .ok (.lload_n 0, 1) := by decide +kernel
theorem dJ13_bitCount_95d88_16 : decode cJ13_bitCount_95d88 16 = .ok (.iconst 2, 1) := by decide +kernel
theorem dJ13_bitCount_95d88_17 : decode cJ13_bitCount_95d88 17 = .ok (.lushr, 1) := by decide +kernel
theorem dJ13_bitCount_95d88_18 : decode cJ13_bitCount_95d88 18 = .ok (.ldc2_w 316, 3) := by decide +kernel
theorem dJ13_bitCount_95d88_21 : decode cJ13_bitCount_95d88 21 = .ok (.land, 1) := by decide +kernel
theorem dJ13_bitCount_95d88_22 : decode cJ13_bitCount_95d88 22 = .ok (.ladd, 1) := by decide +kernel
theorem dJ13_bitCount_95d88_23 : decode cJ13_bitCount_95d88 23 = .ok (.lstore_n 0, 1) := by decide +kernel
theorem dJ13_bitCount_95d88_24 : decode cJ13_bitCount_95d88 24 = .ok (.lload_n 0, 1) := by decide +kernel
theorem dJ13_bitCount_95d88_25 : decode cJ13_bitCount_95d88 25 = .ok (.lload_n 0, 1) := by decide +kernel
theorem dJ13_bitCount_95d88_26 : decode cJ13_bitCount_95d88 26 = .ok (.iconst 4, 1) := by decide +kernel
theorem dJ13_bitCount_95d88_27 : decode cJ13_bitCount_95d88 27 = .ok (.lushr, 1) := by decide +kernel
theorem dJ13_bitCount_95d88_28 : decode cJ13_bitCount_95d88 28 = .ok (.ladd, 1) := by decide +kernel
theorem dJ13_bitCount_95d88_29 : decode cJ13_bitCount_95d88 29 = .ok (.ldc2_w 318, 3) := by decide +kernel
theorem dJ13_bitCount_95d88_32 : decode cJ13_bitCount_95d88 32 = .ok (.land, 1) := by decide +kernel
theorem dJ13_bitCount_95d88_33 : decode cJ13_bitCount_95d88 33 = .ok (.lstore_n 0, 1) := by decide +kernel
theorem dJ13_bitCount_95d88_34 : decode cJ13_bitCount_95d88 34 = .ok (.lload_n 0, 1) := by decide +kernel
theorem dJ13_bitCount_95d88_35 : decode cJ13_bitCount_95d88 35 = .ok (.lload_n 0, 1) := by decide +kernel
theorem dJ13_bitCount_95d88_36 : decode cJ13_bitCount_95d88 36 = .ok (.bipush 8, 2) := by decide +kernel
theorem dJ13_bitCount_95d88_38 : decode cJ13_bitCount_95d88 38 = .ok (.lushr, 1) := by decide +kernel
theorem dJ13_bitCount_95d88_39 : decode cJ13_bitCount_95d88 39 = .ok (.ladd, 1) := by decide +kernel
theorem dJ13_bitCount_95d88_40 : decode cJ13_bitCount_95d88 40 = .ok (.lstore_n 0, 1) := by decide +kernel
theorem dJ13_bitCount_95d88_41 : decode cJ13_bitCount_95d88 41 = .ok (.lload_n 0, 1) := by decide +kernel
theorem dJ13_bitCount_95d88_42 : decode cJ13_bitCount_95d88 42 = .ok (.lload_n 0, 1) := by decide +kernel
theorem dJ13_bitCount_95d88_43 : decode cJ13_bitCount_95d88 43 = .ok (.bipush 16, 2) := by decide +kernel
theorem dJ13_bitCount_95d88_45 : decode cJ13_bitCount_95d88 45 = .ok (.lushr, 1) := by decide +kernel
theorem dJ13_bitCount_95d88_46 : decode cJ13_bitCount_95d88 46 = .ok (.ladd, 1) := by decide +kernel
theorem dJ13_bitCount_95d88_47 : decode cJ13_bitCount_95d88 47 = .ok (.lstore_n 0, 1) := by decide +kernel
theorem dJ13_bitCount_95d88_48 : decode cJ13_bitCount_95d88 48 = .ok (.lload_n 0, 1) := by decide +kernel
theorem dJ13_bitCount_95d88_49 : decode cJ13_bitCount_95d88 49 = .ok (.lload_n 0, 1) := by decide +kernel
theorem dJ13_bitCount_95d88_50 : decode cJ13_bitCount_95d88 50 = .ok (.bipush 32, 2) := by decide +kernel
theorem dJ13_bitCount_95d88_52 : decode cJ13_bitCount_95d88 52 = .ok (.lushr, 1) := by decide +kernel
theorem dJ13_bitCount_95d88_53 : decode cJ13_bitCount_95d88 53 = .ok (.ladd, 1) := by decide +kernel
theorem dJ13_bitCount_95d88_54 : decode cJ13_bitCount_95d88 54 = .ok (.lstore_n 0, 1) := by decide +kernel
theorem dJ13_bitCount_95d88_55 : decode cJ13_bitCount_95d88 55 = .ok (.lload_n 0, 1) := by decide +kernel
theorem dJ13_bitCount_95d88_56 : decode cJ13_bitCount_95d88 56 = .ok (.l2i, 1) := by decide +kernel
theorem dJ13_bitCount_95d88_57 : decode cJ13_bitCount_95d88 57 = .ok (.bipush 127, 2) := by decide +kernel
theorem dJ13_bitCount_95d88_59 : decode cJ13_bitCount_95d88 59 = .ok (.iand, 1) := by decide +kernel
theorem dJ13_bitCount_95d88_60 : decode cJ13_bitCount_95d88 60 = .ok (.ireturn, 1) := by decide +kernel
theorem dJ9_max_7cf53_0 : decode cJ9_max_7cf53 0 = .ok (.iload_n 0, 1) := by decide +kernel
theorem dJ9_max_7cf53_1 : decode cJ9_max_7cf53 1 = .ok (.iload_n 1, 1) := by decide +kernel
theorem dJ9_max_7cf53_2 : decode cJ9_max_7cf53 2 = .ok (.if_icmp .lt 7, 3) := by decide +kernel
theorem dJ9_max_7cf53_5 : decode cJ9_max_7cf53 5 = .ok (.iload_n 0, 1) := by decide +kernel
theorem dJ9_max_7cf53_6 : decode cJ9_max_7cf53 6 = .ok (.goto 4, 3) := by decide +kernel
theorem dJ9_max_7cf53_9 : decode cJ9_max_7cf53 9 = .ok (.iload_n 1, 1) := by decide +kernel
theorem dJ9_max_7cf53_10 : decode cJ9_max_7cf53 10 = .ok (.ireturn, 1) := by decide +kernel
theorem dJ9_min_7cf53_0 : decode cJ9_min_7cf53 0 = .ok (.iload_n 0, 1) := by decide +kernel
theorem dJ9_min_7cf53_1 : decode cJ9_min_7cf53 1 = .ok (.iload_n 1, 1) := by decide +kernel
theorem dJ9_min_7cf53_2 : decode cJ9_min_7cf53 2 = .ok (.if_icmp .gt 7, 3) := by decide +kernel
theorem dJ9_min_7cf53_5 : decode cJ9_min_7cf53 5 = .ok (.iload_n 0, 1) := by decide +kernel
theorem dJ9_min_7cf53_6 : decode cJ9_min_7cf53 6 = .ok (.goto 4, 3) := by decide +kernel
theorem dJ9_min_7cf53_9 : decode cJ9_min_7cf53 9 = .ok (.iload_n 1, 1) := by decide +kernel
theorem dJ9_min_7cf53_10 : decode cJ9_min_7cf53 10 = .ok (.ireturn, 1) := by decide +kernel
theorem dJxa1e45_init_da8c8_0 : decode cJxa1e45_init_da8c8 0 = .ok (.aload_n 0, 1) := by decide +kernel
theorem dJxa1e45_init_da8c8_1 : decode cJxa1e45_init_da8c8 1 = .ok (.invokespecial 1, 3) := by decide +kernel
theorem dJxa1e45_init_da8c8_4 : decode cJxa1e45_init_da8c8 4 = .ok (.return_, 1) := by decide +kernel
theorem dJxc12de_init_da8c8_0 : decode cJxc12de_init_da8c8 0 = .ok (.aload_n 0, 1) := by decide +kernel
theorem dJxc12de_init_da8c8_1 : decode cJxc12de_init_da8c8 1 = .ok (.invokespecial 1, 3) := by decide +kernel
theorem dJxc12de_init_da8c8_4 : decode cJxc12de_init_da8c8 4 = .ok (.aload_n 0, 1) := by decide +kernel
theorem dJxc12de_init_da8c8_5 : decode cJxc12de_init_da8c8 5 = .ok (.iconst 0, 1) := by decide +kernel
theorem dJxc12de_init_da8c8_6 : decode cJxc12de_init_da8c8 6 = .ok (.putfield 7, 3) := by decide +kernel
theorem dJxc12de_init_da8c8_9 : decode cJxc12de_init_da8c8 9 = .ok (.return_, 1) := by decide +kernel
theorem dJx4a65c_init_da8c8_0 : decode cJx4a65c_init_da8c8 0 = .ok (.aload_n 0, 1) := by decide +kernel
theorem dJx4a65c_init_da8c8_1 : decode cJx4a65c_init_da8c8 1 = .ok (.invokespecial 1, 3) := by decide +kernel
theorem dJx4a65c_init_da8c8_4 : decode cJx4a65c_init_da8c8 4 = .ok (.aload_n 0, 1) := by decide +kernel
theorem dJx4a65c_init_da8c8_5 : decode cJx4a65c_init_da8c8 5 = .ok (.getstatic 39, 3) := by decide +kernel
theorem dJx4a65c_init_da8c8_8 : decode cJx4a65c_init_da8c8 8 = .ok (.putfield 9, 3) := by decide +kernel
theorem dJx4a65c_init_da8c8_11 : decode cJx4a65c_init_da8c8 11 = .ok (.return_, 1) := by decide +kernel
theorem dJx4a65c_grow_92f84_0 : decode cJx4a65c_grow_92f84 0 = .ok (.aload_n 0, 1) := by decide +kernel
theorem dJx4a65c_grow_92f84_1 : decode cJx4a65c_grow_92f84 1 = .ok (.getfield 9, 3) := by decide +kernel
theorem dJx4a65c_grow_92f84_4 : decode cJx4a65c_grow_92f84 4 = .ok (.arraylength, 1) := by decide +kernel
theorem dJx4a65c_grow_92f84_5 : decode cJx4a65c_grow_92f84 5 = .ok (.istore_n 2, 1) := by decide +kernel
theorem dJx4a65c_grow_92f84_6 : decode cJx4a65c_grow_92f84 6 = .ok (.iload_n 2, 1) := by decide +kernel
theorem dJx4a65c_grow_92f84_7 : decode cJx4a65c_grow_92f84 7 = .ok (.ifCond .gt 13, 3) := by decide +kernel
theorem dJx4a65c_grow_92f84_10 : decode cJx4a65c_grow_92f84 10 = .ok (.aload_n 0, 1) := by decide +kernel
theorem dJx4a65c_grow_92f84_11 : decode cJx4a65c_grow_92f84 11 = .ok (.getfield 9, 3) := by decide +kernel
theorem dJx4a65c_grow_92f84_14 : decode cJx4a65c_grow_92f84 14 = .ok (.getstatic 39, 3) := by decide +kernel
theorem dJx4a65c_grow_92f84_17 : decode cJx4a65c_grow_92f84 17 = .ok (.if_acmp .eq 28, 3) := by decide +kernel
theorem dJx4a65c_grow_92f84_20 : decode cJx4a65c_grow_92f84 20 = .ok (.iload_n 2, 1) := by decide +kernel
theorem dJx4a65c_grow_92f84_21 : decode cJx4a65c_grow_92f84 21 = .ok (.iload_n 1, 1) := by decide +kernel
theorem dJx4a65c_grow_92f84_22 : decode cJx4a65c_grow_92f84 22 = .ok (.iload_n 2, 1) := by decide +kernel
theorem dJx4a65c_grow_92f84_23 : decode cJx4a65c_grow_92f84 23 = .ok (.isub, 1) := by decide +kernel
theorem dJx4a65c_grow_92f84_24 : decode cJx4a65c_grow_92f84 24 = .ok (.iload_n 2, 1) := by decide +kernel
theorem dJx4a65c_grow_92f84_25 : decode cJx4a65c_grow_92f84 25 = .ok (.iconst 1, 1) := by decide +kernel
theorem dJx4a65c_grow_92f84_26 : decode cJx4a65c_grow_92f84 26 = .ok (.ishr, 1) := by decide +kernel
theorem dJx4a65c_grow_92f84_27 : decode cJx4a65c_grow_92f84 27 = .ok (.invokestatic 73, 3) := by decide +kernel
theorem dJx4a65c_grow_92f84_30 : decode cJx4a65c_grow_92f84 30 = .ok (.istore_n 3, 1) := by decide +kernel
theorem dJx4a65c_grow_92f84_31 : decode cJx4a65c_grow_92f84 31 = .ok (.aload_n 0, 1) := by decide +kernel
theorem dJx4a65c_grow_92f84_32 : decode cJx4a65c_grow_92f84 32 = .ok (.aload_n 0, 1) := by decide +kernel
theorem dJx4a65c_grow_92f84_33 : decode cJx4a65c_grow_92f84 33 = .ok (.getfield 9, 3) := by decide +kernel
theorem dJx4a65c_grow_92f84_36 : decode cJx4a65c_grow_92f84 36 = .ok (.iload_n 3, 1) := by decide +kernel
theorem dJx4a65c_grow_92f84_37 : decode cJx4a65c_grow_92f84 37 = .ok (.invokestatic 66, 3) := by decide +kernel
theorem dJx4a65c_grow_92f84_40 : decode cJx4a65c_grow_92f84 40 = .ok (.dup_x1, 1) := by decide +kernel
theorem dJx4a65c_grow_92f84_41 : decode cJx4a65c_grow_92f84 41 = .ok (.putfield 9, 3) := by decide +kernel
theorem dJx4a65c_grow_92f84_44 : decode cJx4a65c_grow_92f84 44 = .ok (.areturn, 1) := by decide +kernel
theorem dJx4a65c_grow_92f84_45 : decode cJx4a65c_grow_92f84 45 = .ok (.aload_n 0, 1) := by decide +kernel
theorem dJx4a65c_grow_92f84_46 : decode cJx4a65c_grow_92f84 46 = .ok (.bipush 10, 2) := by decide +kernel
theorem dJx4a65c_grow_92f84_48 : decode cJx4a65c_grow_92f84 48 = .ok (.iload_n 1, 1) := by decide +kernel
theorem dJx4a65c_grow_92f84_49 : decode cJx4a65c_grow_92f84 49 = .ok (.invokestatic 79, 3) := by decide +kernel
theorem dJx4a65c_grow_92f84_52 : decode cJx4a65c_grow_92f84 52 = .ok (.anewarray 7, 3) := by decide +kernel
theorem dJx4a65c_grow_92f84_55 : decode cJx4a65c_grow_92f84 55 = .ok (.dup_x1, 1) := by decide +kernel
theorem dJx4a65c_grow_92f84_56 : decode cJx4a65c_grow_92f84 56 = .ok (.putfield 9, 3) := by decide +kernel
theorem dJx4a65c_grow_92f84_59 : decode cJx4a65c_grow_92f84 59 = .ok (.areturn, 1) := by decide +kernel
theorem dJx4a65c_grow_d5877_0 : decode cJx4a65c_grow_d5877 0 = .ok (.aload_n 0, 1) := by decide +kernel
theorem dJx4a65c_grow_d5877_1 : decode cJx4a65c_grow_d5877 1 = .ok (.aload_n 0, 1) := by decide +kernel
theorem dJx4a65c_grow_d5877_2 : decode cJx4a65c_grow_d5877 2 = .ok (.getfield 48, 3) := by decide +kernel
theorem dJx4a65c_grow_d5877_5 : decode cJx4a65c_grow_d5877 5 = .ok (.iconst 1, 1) := by decide +kernel
theorem dJx4a65c_grow_d5877_6 : decode cJx4a65c_grow_d5877 6 = .ok (.iadd, 1) := by decide +kernel
theorem dJx4a65c_grow_d5877_7 : decode cJx4a65c_grow_d5877 7 = .ok (.invokevirtual 69, 3) := by decide +kernel
theorem dJx4a65c_grow_d5877_10 : decode cJx4a65c_grow_d5877 10 = .ok (.areturn, 1) := by decide +kernel
theorem dJx4a65c_size_8abf5_0 : decode cJx4a65c_size_8abf5 0 = .ok (.aload_n 0, 1) := by decide +kernel
theorem dJx4a65c_size_8abf5_1 : decode cJx4a65c_size_8abf5 1 = .ok (.getfield 48, 3) := by decide +kernel
theorem dJx4a65c_size_8abf5_4 : decode cJx4a65c_size_8abf5 4 = .ok (.ireturn, 1) := by decide +kernel
theorem dJx4a65c_elementData_915e3_0 : decode cJx4a65c_elementData_915e3 0 = .ok (.aload_n 0, 1) := by decide +kernel
theorem dJx4a65c_elementData_915e3_1 : decode cJx4a65c_elementData_915e3 1 = .ok (.getfield 9, 3) := by decide +kernel
theorem dJx4a65c_elementData_915e3_4 : decode cJx4a65c_elementData_915e3 4 = .ok (.iload_n 1, 1) := by decide +kernel
theorem dJx4a65c_elementData_915e3_5 : decode cJx4a65c_elementData_915e3 5 = .ok (.aaload, 1) := by decide +kernel
theorem dJx4a65c_elementData_915e3_6 : decode cJx4a65c_elementData_915e3 6 = .ok (.areturn, 1) := by decide +kernel
theorem dJx4a65c_get_915e3_0 : decode cJx4a65c_get_915e3 0 = .ok (.iload_n 1, 1) := by decide +kernel
theorem dJx4a65c_get_915e3_1 : decode cJx4a65c_get_915e3 1 = .ok (.aload_n 0, 1) := by decide +kernel
theorem dJx4a65c_get_915e3_2 : decode cJx4a65c_get_915e3 2 = .ok (.getfield 48, 3) := by decide +kernel
theorem dJx4a65c_get_915e3_5 : decode cJx4a65c_get_915e3 5 = .ok (.invokestatic 118, 3) := by decide +kernel
theorem dJx4a65c_get_915e3_8 : decode cJx4a65c_get_915e3 8 = .ok (.pop, 1) := by decide +kernel
theorem dJx4a65c_get_915e3_9 : decode cJx4a65c_get_915e3 9 = .ok (.aload_n 0, 1) := by decide +kernel
theorem dJx4a65c_get_915e3_10 : decode cJx4a65c_get_915e3 10 = .ok (.iload_n 1, 1) := by decide +kernel
theorem dJx4a65c_get_915e3_11 : decode cJx4a65c_get_915e3 11 = .ok (.invokevirtual 123, 3) := by decide +kernel
theorem dJx4a65c_get_915e3_14 : decode cJx4a65c_get_915e3 14 = .ok (.areturn, 1) := by decide +kernel
theorem dJx4a65c_add_72be8_0 : decode cJx4a65c_add_72be8 0 = .ok (.iload_n 3, 1) := by decide +kernel
theorem dJx4a65c_add_72be8_1 : decode cJx4a65c_add_72be8 1 = .ok (.aload_n 2, 1) := by decide +kernel
theorem dJx4a65c_add_72be8_2 : decode cJx4a65c_add_72be8 2 = .ok (.arraylength, 1) := by decide +kernel
theorem dJx4a65c_add_72be8_3 : decode cJx4a65c_add_72be8 3 = .ok (.if_icmp .ne 8, 3) := by decide +kernel
theorem dJx4a65c_add_72be8_6 : decode cJx4a65c_add_72be8 6 = .ok (.aload_n 0, 1) := by decide +kernel
theorem dJx4a65c_add_72be8_7 : decode cJx4a65c_add_72be8 7 = .ok (.invokevirtual 129, 3) := by decide +kernel
theorem dJx4a65c_add_72be8_10 : decode cJx4a65c_add_72be8 10 = .ok (.astore_n 2, 1) := by decide +kernel
theorem dJx4a65c_add_72be8_11 : decode cJx4a65c_add_72be8 11 = .ok (.aload_n 2, 1) := by decide +kernel
theorem dJx4a65c_add_72be8_12 : decode cJx4a65c_add_72be8 12 = .ok (.iload_n 3, 1) := by decide +kernel
theorem dJx4a65c_add_72be8_13 : decode cJx4a65c_add_72be8 13 = .ok (.aload_n 1, 1) := by decide +kernel
theorem dJx4a65c_add_72be8_14 : decode cJx4a65c_add_72be8 14 = .ok (.aastore, 1) := by decide +kernel
theorem dJx4a65c_add_72be8_15 : decode cJx4a65c_add_72be8 15 = .ok (.aload_n 0, 1) := by decide +kernel
theorem dJx4a65c_add_72be8_16 : decode cJx4a65c_add_72be8 16 = .ok (.iload_n 3, 1) := by decide +kernel
theorem dJx4a65c_add_72be8_17 : decode cJx4a65c_add_72be8 17 = .ok (.iconst 1, 1) := by decide +kernel
theorem dJx4a65c_add_72be8_18 : decode cJx4a65c_add_72be8 18 = .ok (.iadd, 1) := by decide +kernel
theorem dJx4a65c_add_72be8_19 : decode cJx4a65c_add_72be8 19 = .ok (.putfield 48, 3) := by decide +kernel
theorem dJx4a65c_add_72be8_22 : decode cJx4a65c_add_72be8 22 = .ok (.return_, 1) := by decide +kernel
theorem dJx4a65c_add_9ea2d_0 : decode cJx4a65c_add_9ea2d 0 = .ok (.aload_n 0, 1) := by decide +kernel
theorem dJx4a65c_add_9ea2d_1 : decode cJx4a65c_add_9ea2d 1 = .ok (.dup, 1) := by decide +kernel
theorem dJx4a65c_add_9ea2d_2 : decode cJx4a65c_add_9ea2d 2 = .ok (.getfield 63, 3) := by decide +kernel
theorem dJx4a65c_add_9ea2d_5 : decode cJx4a65c_add_9ea2d 5 = .ok (.iconst 1, 1) := by decide +kernel
theorem dJx4a65c_add_9ea2d_6 : decode cJx4a65c_add_9ea2d 6 = .ok (.iadd, 1) := by decide +kernel
theorem dJx4a65c_add_9ea2d_7 : decode cJx4a65c_add_9ea2d 7 = .ok (.putfield 63, 3) := by decide +kernel
theorem dJx4a65c_add_9ea2d_10 : decode cJx4a65c_add_9ea2d 10 = .ok (.aload_n 0, 1) := by decide +kernel
theorem dJx4a65c_add_9ea2d_11 : decode cJx4a65c_add_9ea2d 11 = .ok (.aload_n 1, 1) := by decide +kernel
theorem dJx4a65c_add_9ea2d_12 : decode cJx4a65c_add_9ea2d 12 = .ok (.aload_n 0, 1) := by decide +kernel
theorem dJx4a65c_add_9ea2d_13 : decode cJx4a65c_add_9ea2d 13 = .ok (.getfield 9, 3) := by decide +kernel
theorem dJx4a65c_add_9ea2d_16 : decode cJx4a65c_add_9ea2d 16 = .ok (.aload_n 0, 1) := by decide +kernel
theorem dJx4a65c_add_9ea2d_17 : decode cJx4a65c_add_9ea2d 17 = .ok (.getfield 48, 3) := by decide +kernel
theorem dJx4a65c_add_9ea2d_20 : decode cJx4a65c_add_9ea2d 20 = .ok (.invokevirtual 131, 3) := by decide +kernel
theorem dJx4a65c_add_9ea2d_23 : decode cJx4a65c_add_9ea2d 23 = .ok (.iconst 1, 1) := by decide +kernel
theorem dJx4a65c_add_9ea2d_24 : decode cJx4a65c_add_9ea2d 24 = .ok (.ireturn, 1) := by decide +kernel
theorem dJx4a65c_remove_915e3_0 : decode cJx4a65c_remove_915e3 0 = .ok (.iload_n 1, 1) := by decide +kernel
theorem dJx4a65c_remove_915e3_1 : decode cJx4a65c_remove_915e3 1 = .ok (.aload_n 0, 1) := by decide +kernel
theorem dJx4a65c_remove_915e3_2 : decode cJx4a65c_remove_915e3 2 = .ok (.getfield 48, 3) := by decide +kernel
theorem dJx4a65c_remove_915e3_5 : decode cJx4a65c_remove_915e3 5 = .ok (.invokestatic 118, 3) := by decide +kernel
theorem dJx4a65c_remove_915e3_8 : decode cJx4a65c_remove_915e3 8 = .ok (.pop, 1) := by decide +kernel
theorem dJx4a65c_remove_915e3_9 : decode cJx4a65c_remove_915e3 9 = .ok (.aload_n 0, 1) := by decide +kernel
theorem dJx4a65c_remove_915e3_10 : decode cJx4a65c_remove_915e3 10 = .ok (.getfield 9, 3) := by decide +kernel
theorem dJx4a65c_remove_915e3_13 : decode cJx4a65c_remove_915e3 13 = .ok (.astore_n 2, 1) := by decide +kernel
theorem dJx4a65c_remove_915e3_14 : decode cJx4a65c_remove_915e3 14 = .ok (.aload_n 2, 1) := by decide +kernel
theorem dJx4a65c_remove_915e3_15 : decode cJx4a65c_remove_915e3 15 = .ok (.iload_n 1, 1) := by decide +kernel
theorem dJx4a65c_remove_915e3_16 : decode cJx4a65c_remove_915e3 16 = .ok (.aaload, 1) := by decide +kernel
theorem dJx4a65c_remove_915e3_17 : decode cJx4a65c_remove_915e3 17 = .ok (.astore_n 3, 1) := by decide +kernel
theorem dJx4a65c_remove_915e3_18 : decode cJx4a65c_remove_915e3 18 = .ok (.aload_n 0, 1) := by decide +kernel
theorem dJx4a65c_remove_915e3_19 : decode cJx4a65c_remove_915e3 19 = .ok (.aload_n 2, 1) := by decide +kernel
theorem dJx4a65c_remove_915e3_20 : decode cJx4a65c_remove_915e3 20 = .ok (.iload_n 1, 1) := by decide +kernel
theorem dJx4a65c_remove_915e3_21 : decode cJx4a65c_remove_915e3 21 = .ok (.invokevirtual 144, 3) := by decide +kernel
theorem dJx4a65c_remove_915e3_24 : decode cJx4a65c_remove_915e3 24 = .ok (.aload_n 3, 1) := by decide +kernel
theorem dJx4a65c_remove_915e3_25 : decode cJx4a65c_remove_915e3 25 = .ok (.areturn, 1) := by decide +kernel
theorem dJx4a65c_fastRemove_b59b0_0 : decode cJx4a65c_fastRemove_b59b0 0 = .ok (.aload_n 0, 1) := by decide +kernel
theorem dJx4a65c_fastRemove_b59b0_1 : decode cJx4a65c_fastRemove_b59b0 1 = .ok (.dup, 1) := by decide +kernel
theorem dJx4a65c_fastRemove_b59b0_2 : decode cJx4a65c_fastRemove_b59b0 2 = .ok (.getfield 63, 3) := by decide +kernel
theorem dJx4a65c_fastRemove_b59b0_5 : decode cJx4a65c_fastRemove_b59b0 5 = .ok (.iconst 1, 1) := by decide +kernel
theorem dJx4a65c_fastRemove_b59b0_6 : decode cJx4a65c_fastRemove_b59b0 6 = .ok (.iadd, 1) := by decide +kernel
theorem dJx4a65c_fastRemove_b59b0_7 : decode cJx4a65c_fastRemove_b59b0 7 = .ok (.putfield 63, 3) := by decide +kernel
theorem dJx4a65c_fastRemove_b59b0_10 : decode cJx4a65c_fastRemove_b59b0 10 = .ok (.aload_n 0, 1) := by decide +kernel
theorem dJx4a65c_fastRemove_b59b0_11 : decode cJx4a65c_fastRemove_b59b0 11 = .ok (.getfield 48, 3) := by decide +kernel
theorem dJx4a65c_fastRemove_b59b0_14 : decode cJx4a65c_fastRemove_b59b0 14 = .ok (.iconst 1, 1) := by decide +kernel
theorem dJx4a65c_fastRemove_b59b0_15 : decode cJx4a65c_fastRemove_b59b0 15 = .ok (.isub, 1) := by decide +kernel
theorem dJx4a65c_fastRemove_b59b0_16 : decode cJx4a65c_fastRemove_b59b0 16 = .ok (.dup, 1) := by decide +kernel
theorem dJx4a65c_fastRemove_b59b0_17 : decode cJx4a65c_fastRemove_b59b0 17 = .ok (.istore_n 3, 1) := by decide +kernel
theorem dJx4a65c_fastRemove_b59b0_18 : decode cJx4a65c_fastRemove_b59b0 18 = .ok (.iload_n 2, 1) := by decide +kernel
theorem dJx4a65c_fastRemove_b59b0_19 : decode cJx4a65c_fastRemove_b59b0 19 = .ok (.if_icmp .le 15, 3) := by decide +kernel
theorem dJx4a65c_fastRemove_b59b0_22 : decode cJx4a65c_fastRemove_b59b0 22 = .ok (.aload_n 1, 1) := by decide +kernel
theorem dJx4a65c_fastRemove_b59b0_23 : decode cJx4a65c_fastRemove_b59b0 23 = .ok (.iload_n 2, 1) := by decide +kernel
theorem dJx4a65c_fastRemove_b59b0_24 : decode cJx4a65c_fastRemove_b59b0 24 = .ok (.iconst 1, 1) := by decide +kernel
theorem dJx4a65c_fastRemove_b59b0_25 : decode cJx4a65c_fastRemove_b59b0 25 = .ok (.iadd, 1) := by decide +kernel
theorem dJx4a65c_fastRemove_b59b0_26 : decode cJx4a65c_fastRemove_b59b0 26 = .ok (.aload_n 1, 1) := by decide +kernel
theorem dJx4a65c_fastRemove_b59b0_27 : decode cJx4a65c_fastRemove_b59b0 27 = .ok (.iload_n 2, 1) := by decide +kernel
theorem dJx4a65c_fastRemove_b59b0_28 : decode cJx4a65c_fastRemove_b59b0 28 = .ok (.iload_n 3, 1) := by decide +kernel
theorem dJx4a65c_fastRemove_b59b0_29 : decode cJx4a65c_fastRemove_b59b0 29 = .ok (.iload_n 2, 1) := by decide +kernel
theorem dJx4a65c_fastRemove_b59b0_30 : decode cJx4a65c_fastRemove_b59b0 30 = .ok (.isub, 1) := by decide +kernel
theorem dJx4a65c_fastRemove_b59b0_31 : decode cJx4a65c_fastRemove_b59b0 31 = .ok (.invokestatic 112, 3) := by decide +kernel
theorem dJx4a65c_fastRemove_b59b0_34 : decode cJx4a65c_fastRemove_b59b0 34 = .ok (.aload_n 1, 1) := by decide +kernel
theorem dJx4a65c_fastRemove_b59b0_35 : decode cJx4a65c_fastRemove_b59b0 35 = .ok (.aload_n 0, 1) := by decide +kernel
theorem dJx4a65c_fastRemove_b59b0_36 : decode cJx4a65c_fastRemove_b59b0 36 = .ok (.iload_n 3, 1) := by decide +kernel
theorem dJx4a65c_fastRemove_b59b0_37 : decode cJx4a65c_fastRemove_b59b0 37 = .ok (.dup_x1, 1) := by decide +kernel
theorem dJx4a65c_fastRemove_b59b0_38 : decode cJx4a65c_fastRemove_b59b0 38 = .ok (.putfield 48, 3) := by decide +kernel
theorem dJx4a65c_fastRemove_b59b0_41 : decode cJx4a65c_fastRemove_b59b0 41 = .ok (.aconst_null, 1) := by decide +kernel
theorem dJx4a65c_fastRemove_b59b0_42 : decode cJx4a65c_fastRemove_b59b0 42 = .ok (.aastore, 1) := by decide +kernel
theorem dJx4a65c_fastRemove_b59b0_43 : decode cJx4a65c_fastRemove_b59b0 43 = .ok (.return_, 1) := by decide +kernel
theorem dJ7_fill_d0a16_0 : decode cJ7_fill_d0a16 0 = .ok (.iconst 0, 1) := by decide +kernel
theorem dJ7_fill_d0a16_1 : decode cJ7_fill_d0a16 1 = .ok (.istore_n 3, 1) := by decide +kernel
theorem dJ7_fill_d0a16_2 : decode cJ7_fill_d0a16 2 = .ok (.aload_n 0, 1) := by decide +kernel
theorem dJ7_fill_d0a16_3 : decode cJ7_fill_d0a16 3 = .ok (.arraylength, 1) := by decide +kernel
theorem dJ7_fill_d0a16_4 : decode cJ7_fill_d0a16 4 = .ok (.istore 4, 2) := by decide +kernel
theorem dJ7_fill_d0a16_6 : decode cJ7_fill_d0a16 6 = .ok (.iload_n 3, 1) := by decide +kernel
theorem dJ7_fill_d0a16_7 : decode cJ7_fill_d0a16 7 = .ok (.iload 4, 2) := by decide +kernel
theorem dJ7_fill_d0a16_9 : decode cJ7_fill_d0a16 9 = .ok (.if_icmp .ge 13, 3) := by decide +kernel
theorem dJ7_fill_d0a16_12 : decode cJ7_fill_d0a16 12 = .ok (.aload_n 0, 1) := by decide +kernel
theorem dJ7_fill_d0a16_13 : decode cJ7_fill_d0a16 13 = .ok (.iload_n 3, 1) := by decide +kernel
theorem dJ7_fill_d0a16_14 : decode cJ7_fill_d0a16 14 = .ok (.lload_n 1, 1) := by decide +kernel
theorem dJ7_fill_d0a16_15 : decode cJ7_fill_d0a16 15 = .ok (.lastore, 1) := by decide +kernel
theorem dJ7_fill_d0a16_16 : decode cJ7_fill_d0a16 16 = .ok (.iinc 3 1, 3) := by decide +kernel
theorem dJ7_fill_d0a16_19 : decode cJ7_fill_d0a16 19 = .ok (.goto (-13), 3) := by decide +kernel
theorem dJ7_fill_d0a16_22 : decode cJ7_fill_d0a16 22 = .ok (.return_, 1) := by decide +kernel
theorem dJ7_fill_7f8df_0 : decode cJ7_fill_7f8df 0 = .ok (.iconst 0, 1) := by decide +kernel
theorem dJ7_fill_7f8df_1 : decode cJ7_fill_7f8df 1 = .ok (.istore_n 3, 1) := by decide +kernel
theorem dJ7_fill_7f8df_2 : decode cJ7_fill_7f8df 2 = .ok (.aload_n 0, 1) := by decide +kernel
theorem dJ7_fill_7f8df_3 : decode cJ7_fill_7f8df 3 = .ok (.arraylength, 1) := by decide +kernel
theorem dJ7_fill_7f8df_4 : decode cJ7_fill_7f8df 4 = .ok (.istore 4, 2) := by decide +kernel
theorem dJ7_fill_7f8df_6 : decode cJ7_fill_7f8df 6 = .ok (.iload_n 3, 1) := by decide +kernel
theorem dJ7_fill_7f8df_7 : decode cJ7_fill_7f8df 7 = .ok (.iload 4, 2) := by decide +kernel
theorem dJ7_fill_7f8df_9 : decode cJ7_fill_7f8df 9 = .ok (.if_icmp .ge 13, 3) := by decide +kernel
theorem dJ7_fill_7f8df_12 : decode cJ7_fill_7f8df 12 = .ok (.aload_n 0, 1) := by decide +kernel
theorem dJ7_fill_7f8df_13 : decode cJ7_fill_7f8df 13 = .ok (.iload_n 3, 1) := by decide +kernel
theorem dJ7_fill_7f8df_14 : decode cJ7_fill_7f8df 14 = .ok (.dload_n 1, 1) := by decide +kernel
theorem dJ7_fill_7f8df_15 : decode cJ7_fill_7f8df 15 = .ok (.dastore, 1) := by decide +kernel
theorem dJ7_fill_7f8df_16 : decode cJ7_fill_7f8df 16 = .ok (.iinc 3 1, 3) := by decide +kernel
theorem dJ7_fill_7f8df_19 : decode cJ7_fill_7f8df 19 = .ok (.goto (-13), 3) := by decide +kernel
theorem dJ7_fill_7f8df_22 : decode cJ7_fill_7f8df 22 = .ok (.return_, 1) := by decide +kernel
theorem dJ7_copyOf_1904c_0 : decode cJ7_copyOf_1904c 0 = .ok (.aload_n 0, 1) := by decide +kernel
theorem dJ7_copyOf_1904c_1 : decode cJ7_copyOf_1904c 1 = .ok (.iload_n 1, 1) := by decide +kernel
theorem dJ7_copyOf_1904c_2 : decode cJ7_copyOf_1904c 2 = .ok (.aload_n 0, 1) := by decide +kernel
theorem dJ7_copyOf_1904c_3 : decode cJ7_copyOf_1904c 3 = .ok (.invokevirtual 86, 3) := by decide +kernel
theorem dJ7_copyOf_1904c_6 : decode cJ7_copyOf_1904c 6 = .ok (.invokestatic 300, 3) := by decide +kernel
theorem dJ7_copyOf_1904c_9 : decode cJ7_copyOf_1904c 9 = .ok (.areturn, 1) := by decide +kernel
theorem dJ7_copyOf_6403c_0 : decode cJ7_copyOf_6403c 0 = .ok (.aload_n 2, 1) := by decide +kernel
theorem dJ7_copyOf_6403c_1 : decode cJ7_copyOf_6403c 1 = .ok (.ldc 110, 2) := by decide +kernel
theorem dJ7_copyOf_6403c_3 : decode cJ7_copyOf_6403c 3 = .ok (.if_acmp .ne 10, 3) := by decide +kernel
theorem dJ7_copyOf_6403c_6 : decode cJ7_copyOf_6403c 6 = .ok (.iload_n 1, 1) := by decide +kernel
theorem dJ7_copyOf_6403c_7 : decode cJ7_copyOf_6403c 7 = .ok (.anewarray 2, 3) := by decide +kernel
theorem dJ7_copyOf_6403c_10 : decode cJ7_copyOf_6403c 10 = .ok (.goto 14, 3) := by decide +kernel
theorem dJ7_copyOf_6403c_13 : decode cJ7_copyOf_6403c 13 = .ok (.aload_n 2, 1) := by decide +kernel
theorem dJ7_copyOf_6403c_14 : decode cJ7_copyOf_6403c 14 = .ok (.invokevirtual 90, 3) := by decide +kernel
theorem dJ7_copyOf_6403c_17 : decode cJ7_copyOf_6403c 17 = .ok (.iload_n 1, 1) := by decide +kernel
theorem dJ7_copyOf_6403c_18 : decode cJ7_copyOf_6403c 18 = .ok (.invokestatic 95, 3) := by decide +kernel
theorem dJ7_copyOf_6403c_21 : decode cJ7_copyOf_6403c 21 = .ok (.checkcast 110, 3) := by decide +kernel
theorem dJ7_copyOf_6403c_24 : decode cJ7_copyOf_6403c 24 = .ok (.astore_n 3, 1) := by decide +kernel
theorem dJ7_copyOf_6403c_25 : decode cJ7_copyOf_6403c 25 = .ok (.aload_n 0, 1) := by decide +kernel
theorem dJ7_copyOf_6403c_26 : decode cJ7_copyOf_6403c 26 = .ok (.iconst 0, 1) := by decide +kernel
theorem dJ7_copyOf_6403c_27 : decode cJ7_copyOf_6403c 27 = .ok (.aload_n 3, 1) := by decide +kernel
theorem dJ7_copyOf_6403c_28 : decode cJ7_copyOf_6403c 28 = .ok (.iconst 0, 1) := by decide +kernel
theorem dJ7_copyOf_6403c_29 : decode cJ7_copyOf_6403c 29 = .ok (.aload_n 0, 1) := by decide +kernel
theorem dJ7_copyOf_6403c_30 : decode cJ7_copyOf_6403c 30 = .ok (.arraylength, 1) := by decide +kernel
theorem dJ7_copyOf_6403c_31 : decode cJ7_copyOf_6403c 31 = .ok (.iload_n 1, 1) := by decide +kernel
theorem dJ7_copyOf_6403c_32 : decode cJ7_copyOf_6403c 32 = .ok (.invokestatic 304, 3) := by decide +kernel
theorem dJ7_copyOf_6403c_35 : decode cJ7_copyOf_6403c 35 = .ok (.invokestatic 150, 3) := by decide +kernel
theorem dJ7_copyOf_6403c_38 : decode cJ7_copyOf_6403c 38 = .ok (.aload_n 3, 1) := by decide +kernel
theorem dJ7_copyOf_6403c_39 : decode cJ7_copyOf_6403c 39 = .ok (.areturn, 1) := by decide +kernel
theorem dJ15_checkIndex_7cf53_0 : decode cJ15_checkIndex_7cf53 0 = .ok (.iload_n 0, 1) := by decide +kernel
theorem dJ15_checkIndex_7cf53_1 : decode cJ15_checkIndex_7cf53 1 = .ok (.iload_n 1, 1) := by decide +kernel
theorem dJ15_checkIndex_7cf53_2 : decode cJ15_checkIndex_7cf53 2 = .ok (.aconst_null, 1) := by decide +kernel
theorem dJ15_checkIndex_7cf53_3 : decode cJ15_checkIndex_7cf53 3 = .ok (.invokestatic 105, 3) := by decide +kernel
theorem dJ15_checkIndex_7cf53_6 : decode cJ15_checkIndex_7cf53 6 = .ok (.ireturn, 1) := by decide +kernel
theorem dJ8_newLength_cabcc_0 : decode cJ8_newLength_cabcc 0 = .ok (.iload_n 0, 1) := by decide +kernel
theorem dJ8_newLength_cabcc_1 : decode cJ8_newLength_cabcc 1 = .ok (.iload_n 1, 1) := by decide +kernel
theorem dJ8_newLength_cabcc_2 : decode cJ8_newLength_cabcc 2 = .ok (.iload_n 2, 1) := by decide +kernel
theorem dJ8_newLength_cabcc_3 : decode cJ8_newLength_cabcc 3 = .ok (.invokestatic 194, 3) := by decide +kernel
theorem dJ8_newLength_cabcc_6 : decode cJ8_newLength_cabcc 6 = .ok (.iadd, 1) := by decide +kernel
theorem dJ8_newLength_cabcc_7 : decode cJ8_newLength_cabcc 7 = .ok (.istore_n 3, 1) := by decide +kernel
theorem dJ8_newLength_cabcc_8 : decode cJ8_newLength_cabcc 8 = .ok (.iconst 0, 1) := by decide +kernel
theorem dJ8_newLength_cabcc_9 : decode cJ8_newLength_cabcc 9 = .ok (.iload_n 3, 1) := by decide +kernel
theorem dJ8_newLength_cabcc_10 : decode cJ8_newLength_cabcc 10 = .ok (.if_icmp .ge 11, 3) := by decide +kernel
theorem dJ8_newLength_cabcc_13 : decode cJ8_newLength_cabcc 13 = .ok (.iload_n 3, 1) := by decide +kernel
theorem dJ8_newLength_cabcc_14 : decode cJ8_newLength_cabcc 14 = .ok (.ldc 200, 2) := by decide +kernel
theorem dJ8_newLength_cabcc_16 : decode cJ8_newLength_cabcc 16 = .ok (.if_icmp .gt 5, 3) := by decide +kernel
theorem dJ8_newLength_cabcc_19 : decode cJ8_newLength_cabcc 19 = .ok (.iload_n 3, 1) := by decide +kernel
theorem dJ8_newLength_cabcc_20 : decode cJ8_newLength_cabcc 20 = .ok (.ireturn, 1) := by decide +kernel
theorem dJ8_newLength_cabcc_21 : decode cJ8_newLength_cabcc 21 = .ok (.iload_n 0, 1) := by decide +kernel
theorem dJ8_newLength_cabcc_22 : decode cJ8_newLength_cabcc 22 = .ok (.iload_n 1, 1) := by decide +kernel
theorem dJ8_newLength_cabcc_23 : decode cJ8_newLength_cabcc 23 = .ok (.invokestatic 201, 3) := by decide +kernel
theorem dJ8_newLength_cabcc_26 : decode cJ8_newLength_cabcc 26 = .ok (.ireturn, 1) := by decide +kernel
theorem dJ8_hugeLength_7cf53_0 : decode cJ8_hugeLength_7cf53 0 = .ok (.iload_n 0, 1) := by decide +kernel
theorem dJ8_hugeLength_7cf53_1 : decode cJ8_hugeLength_7cf53 1 = .ok (.iload_n 1, 1) := by decide +kernel
theorem dJ8_hugeLength_7cf53_2 : decode cJ8_hugeLength_7cf53 2 = .ok (.iadd, 1) := by decide +kernel
theorem dJ8_hugeLength_7cf53_3 : decode cJ8_hugeLength_7cf53 3 = .ok (.istore_n 2, 1) := by decide +kernel
theorem dJ8_hugeLength_7cf53_4 : decode cJ8_hugeLength_7cf53 4 = .ok (.iload_n 2, 1) := by decide +kernel
theorem dJ8_hugeLength_7cf53_5 : decode cJ8_hugeLength_7cf53 5 = .ok (.ifCond .ge 44, 3) := by decide +kernel
theorem dJ8_hugeLength_7cf53_8 : decode cJ8_hugeLength_7cf53 8 = .ok (.new 204, 3) := by decide +kernel
theorem dJ8_hugeLength_7cf53_11 : decode cJ8_hugeLength_7cf53 11 = .ok (.dup, 1) := by decide +kernel
theorem dJ8_hugeLength_7cf53_12 : decode cJ8_hugeLength_7cf53 12 = .ok (.new 89, 3) := by decide +kernel
theorem dJ8_hugeLength_7cf53_15 : decode cJ8_hugeLength_7cf53 15 = .ok (.dup, 1) := by decide +kernel
theorem dJ8_hugeLength_7cf53_16 : decode cJ8_hugeLength_7cf53 16 = .ok (.invokespecial 91, 3) := by decide +kernel
theorem dJ8_hugeLength_7cf53_19 : decode cJ8_hugeLength_7cf53 19 = .ok (.ldc 206, 2) := by decide +kernel
theorem dJ8_hugeLength_7cf53_21 : decode cJ8_hugeLength_7cf53 21 = .ok (.invokevirtual 94, 3) := by decide +kernel
theorem dJ8_hugeLength_7cf53_24 : decode cJ8_hugeLength_7cf53 24 = .ok (.iload_n 0, 1) := by decide +kernel
theorem dJ8_hugeLength_7cf53_25 : decode cJ8_hugeLength_7cf53 25 = .ok (.invokevirtual 98, 3) := by decide +kernel
theorem dJ8_hugeLength_7cf53_28 : decode cJ8_hugeLength_7cf53 28 = .ok (.ldc 208, 2) := by decide +kernel
theorem dJ8_hugeLength_7cf53_30 : decode cJ8_hugeLength_7cf53 30 = .ok (.invokevirtual 94, 3) := by decide +kernel
theorem dJ8_hugeLength_7cf53_33 : decode cJ8_hugeLength_7cf53 33 = .ok (.iload_n 1, 1) := by decide +kernel
theorem dJ8_hugeLength_7cf53_34 : decode cJ8_hugeLength_7cf53 34 = .ok (.invokevirtual 98, 3) := by decide +kernel
theorem dJ8_hugeLength_7cf53_37 : decode cJ8_hugeLength_7cf53 37 = .ok (.ldc 210, 2) := by decide +kernel
theorem dJ8_hugeLength_7cf53_39 : decode cJ8_hugeLength_7cf53 39 = .ok (.invokevirtual 94, 3) := by decide +kernel
theorem dJ8_hugeLength_7cf53_42 : decode cJ8_hugeLength_7cf53 42 = .ok (.invokevirtual 101, 3) := by decide +kernel
theorem dJ8_hugeLength_7cf53_45 : decode cJ8_hugeLength_7cf53 45 = .ok (.invokespecial 212, 3) := by decide +kernel
theorem dJ8_hugeLength_7cf53_48 : decode cJ8_hugeLength_7cf53 48 = .ok (.athrow, 1) := by decide +kernel
theorem dJ8_hugeLength_7cf53_49 : decode cJ8_hugeLength_7cf53 49 = .ok (.iload_n 2, 1) := by decide +kernel
theorem dJ8_hugeLength_7cf53_50 : decode cJ8_hugeLength_7cf53 50 = .ok (.ldc 200, 2) := by decide +kernel
theorem dJ8_hugeLength_7cf53_52 : decode cJ8_hugeLength_7cf53 52 = .ok (.if_icmp .gt 6, 3) := by decide +kernel
theorem dJ8_hugeLength_7cf53_55 : decode cJ8_hugeLength_7cf53 55 = .ok (.ldc 200, 2) := by decide +kernel
theorem dJ8_hugeLength_7cf53_57 : decode cJ8_hugeLength_7cf53 57 = .ok (.ireturn, 1) := by decide +kernel
theorem dJ8_hugeLength_7cf53_58 : decode cJ8_hugeLength_7cf53 58 = .ok (.iload_n 2, 1) := by decide +kernel
theorem dJ8_hugeLength_7cf53_59 : decode cJ8_hugeLength_7cf53 59 = .ok (.ireturn, 1) := by decide +kernel
theorem dJ3_checkIndex_8e157_0 : decode cJ3_checkIndex_8e157 0 = .ok (.iload_n 0, 1) := by decide +kernel
theorem dJ3_checkIndex_8e157_1 : decode cJ3_checkIndex_8e157 1 = .ok (.ifCond .lt 8, 3) := by decide +kernel
theorem dJ3_checkIndex_8e157_4 : decode cJ3_checkIndex_8e157 4 = .ok (.iload_n 0, 1) := by decide +kernel
theorem dJ3_checkIndex_8e157_5 : decode cJ3_checkIndex_8e157 5 = .ok (.iload_n 1, 1) := by decide +kernel
theorem dJ3_checkIndex_8e157_6 : decode cJ3_checkIndex_8e157 6 = .ok (.if_icmp .lt 10, 3) := by decide +kernel
theorem dJ3_checkIndex_8e157_9 : decode cJ3_checkIndex_8e157 9 = .ok (.aload_n 2, 1) := by decide +kernel
theorem dJ3_checkIndex_8e157_10 : decode cJ3_checkIndex_8e157 10 = .ok (.iload_n 0, 1) := by decide +kernel
theorem dJ3_checkIndex_8e157_11 : decode cJ3_checkIndex_8e157 11 = .ok (.iload_n 1, 1) := by decide +kernel
theorem dJ3_checkIndex_8e157_12 : decode cJ3_checkIndex_8e157 12 = .ok (.invokestatic 95, 3) := by decide +kernel
theorem dJ3_checkIndex_8e157_15 : decode cJ3_checkIndex_8e157 15 = .ok (.athrow, 1) := by decide +kernel
theorem dJ3_checkIndex_8e157_16 : decode cJ3_checkIndex_8e157 16 = .ok (.iload_n 0, 1) := by decide +kernel
theorem dJ3_checkIndex_8e157_17 : decode cJ3_checkIndex_8e157 17 = .ok (.ireturn, 1) := by decide +kernel
theorem dL_piece_0 : decode cL_piece 0 = .ok (.aload_n 1, 1) := by decide +kernel
theorem dL_piece_1 : decode cL_piece 1 = .ok (.iconst 0, 1) := by decide +kernel
theorem dL_piece_2 : decode cL_piece 2 = .ok (.aload_n 0, 1) := by decide +kernel
theorem dL_piece_3 : decode cL_piece 3 = .ok (.invokevirtual 7, 3) := by decide +kernel
theorem dL_piece_6 : decode cL_piece 6 = .ok (.i2l, 1) := by decide +kernel
theorem dL_piece_7 : decode cL_piece 7 = .ok (.lastore, 1) := by decide +kernel
theorem dL_piece_8 : decode cL_piece 8 = .ok (.goto 6, 3) := by decide +kernel
theorem dL_piece_11 : decode cL_piece 11 = .ok (.astore_n 2, 1) := by decide +kernel
theorem dL_piece_12 : decode cL_piece 12 = .ok (.iconst 1, 1) := by decide +kernel
theorem dL_piece_13 : decode cL_piece 13 = .ok (.ireturn, 1) := by decide +kernel
theorem dL_piece_14 : decode cL_piece 14 = .ok (.iconst 0, 1) := by decide +kernel
theorem dL_piece_15 : decode cL_piece 15 = .ok (.ireturn, 1) := by decide +kernel
theorem dL_layer_0 : decode cL_layer 0 = .ok (.aload 5, 2) := by decide +kernel
theorem dL_layer_2 : decode cL_layer 2 = .ok (.iconst 0, 1) := by decide +kernel
theorem dL_layer_3 : decode cL_layer 3 = .ok (.aload_n 0, 1) := by decide +kernel
theorem dL_layer_4 : decode cL_layer 4 = .ok (.iload_n 1, 1) := by decide +kernel
theorem dL_layer_5 : decode cL_layer 5 = .ok (.iload_n 2, 1) := by decide +kernel
theorem dL_layer_6 : decode cL_layer 6 = .ok (.lload_n 3, 1) := by decide +kernel
theorem dL_layer_7 : decode cL_layer 7 = .ok (.invokevirtual 15, 3) := by decide +kernel
theorem dL_layer_10 : decode cL_layer 10 = .ok (.i2l, 1) := by decide +kernel
theorem dL_layer_11 : decode cL_layer 11 = .ok (.lastore, 1) := by decide +kernel
theorem dL_layer_12 : decode cL_layer 12 = .ok (.goto 11, 3) := by decide +kernel
theorem dL_layer_15 : decode cL_layer 15 = .ok (.astore 6, 2) := by decide +kernel
theorem dL_layer_17 : decode cL_layer 17 = .ok (.iconst 1, 1) := by decide +kernel
theorem dL_layer_18 : decode cL_layer 18 = .ok (.ireturn, 1) := by decide +kernel
theorem dL_layer_19 : decode cL_layer 19 = .ok (.astore 6, 2) := by decide +kernel
theorem dL_layer_21 : decode cL_layer 21 = .ok (.iconst 2, 1) := by decide +kernel
theorem dL_layer_22 : decode cL_layer 22 = .ok (.ireturn, 1) := by decide +kernel
theorem dL_layer_23 : decode cL_layer 23 = .ok (.iconst 0, 1) := by decide +kernel
theorem dL_layer_24 : decode cL_layer 24 = .ok (.ireturn, 1) := by decide +kernel
theorem dL_lay_0 : decode cL_lay 0 = .ok (.aload_n 3, 1) := by decide +kernel
theorem dL_lay_1 : decode cL_lay 1 = .ok (.iconst 0, 1) := by decide +kernel
theorem dL_lay_2 : decode cL_lay 2 = .ok (.aload_n 0, 1) := by decide +kernel
theorem dL_lay_3 : decode cL_lay 3 = .ok (.iload_n 1, 1) := by decide +kernel
theorem dL_lay_4 : decode cL_lay 4 = .ok (.iload_n 2, 1) := by decide +kernel
theorem dL_lay_5 : decode cL_lay 5 = .ok (.invokevirtual 21, 3) := by decide +kernel
theorem dL_lay_8 : decode cL_lay 8 = .ok (.i2l, 1) := by decide +kernel
theorem dL_lay_9 : decode cL_lay 9 = .ok (.lastore, 1) := by decide +kernel
theorem dL_lay_10 : decode cL_lay 10 = .ok (.goto 15, 3) := by decide +kernel
theorem dL_lay_13 : decode cL_lay 13 = .ok (.astore 4, 2) := by decide +kernel
theorem dL_lay_15 : decode cL_lay 15 = .ok (.iconst 1, 1) := by decide +kernel
theorem dL_lay_16 : decode cL_lay 16 = .ok (.ireturn, 1) := by decide +kernel
theorem dL_lay_17 : decode cL_lay 17 = .ok (.astore 4, 2) := by decide +kernel
theorem dL_lay_19 : decode cL_lay 19 = .ok (.iconst 2, 1) := by decide +kernel
theorem dL_lay_20 : decode cL_lay 20 = .ok (.ireturn, 1) := by decide +kernel
theorem dL_lay_21 : decode cL_lay 21 = .ok (.astore 4, 2) := by decide +kernel
theorem dL_lay_23 : decode cL_lay 23 = .ok (.iconst 3, 1) := by decide +kernel
theorem dL_lay_24 : decode cL_lay 24 = .ok (.ireturn, 1) := by decide +kernel
theorem dL_lay_25 : decode cL_lay 25 = .ok (.iconst 0, 1) := by decide +kernel
theorem dL_lay_26 : decode cL_lay 26 = .ok (.ireturn, 1) := by decide +kernel
theorem dL_powder_0 : decode cL_powder 0 = .ok (.aload_n 3, 1) := by decide +kernel
theorem dL_powder_1 : decode cL_powder 1 = .ok (.iconst 0, 1) := by decide +kernel
theorem dL_powder_2 : decode cL_powder 2 = .ok (.aload_n 0, 1) := by decide +kernel
theorem dL_powder_3 : decode cL_powder 3 = .ok (.iload_n 1, 1) := by decide +kernel
theorem dL_powder_4 : decode cL_powder 4 = .ok (.iload_n 2, 1) := by decide +kernel
theorem dL_powder_5 : decode cL_powder 5 = .ok (.invokevirtual 27, 3) := by decide +kernel
theorem dL_powder_8 : decode cL_powder 8 = .ok (.i2l, 1) := by decide +kernel
theorem dL_powder_9 : decode cL_powder 9 = .ok (.lastore, 1) := by decide +kernel
theorem dL_powder_10 : decode cL_powder 10 = .ok (.goto 11, 3) := by decide +kernel
theorem dL_powder_13 : decode cL_powder 13 = .ok (.astore 4, 2) := by decide +kernel
theorem dL_powder_15 : decode cL_powder 15 = .ok (.iconst 1, 1) := by decide +kernel
theorem dL_powder_16 : decode cL_powder 16 = .ok (.ireturn, 1) := by decide +kernel
theorem dL_powder_17 : decode cL_powder 17 = .ok (.astore 4, 2) := by decide +kernel
theorem dL_powder_19 : decode cL_powder 19 = .ok (.iconst 2, 1) := by decide +kernel
theorem dL_powder_20 : decode cL_powder 20 = .ok (.ireturn, 1) := by decide +kernel
theorem dL_powder_21 : decode cL_powder 21 = .ok (.iconst 0, 1) := by decide +kernel
theorem dL_powder_22 : decode cL_powder 22 = .ok (.ireturn, 1) := by decide +kernel
theorem dL_blend_0 : decode cL_blend 0 = .ok (.aload_n 3, 1) := by decide +kernel
theorem dL_blend_1 : decode cL_blend 1 = .ok (.iconst 0, 1) := by decide +kernel
theorem dL_blend_2 : decode cL_blend 2 = .ok (.aload_n 0, 1) := by decide +kernel
theorem dL_blend_3 : decode cL_blend 3 = .ok (.iload_n 1, 1) := by decide +kernel
theorem dL_blend_4 : decode cL_blend 4 = .ok (.iload_n 2, 1) := by decide +kernel
theorem dL_blend_5 : decode cL_blend 5 = .ok (.invokevirtual 30, 3) := by decide +kernel
theorem dL_blend_8 : decode cL_blend 8 = .ok (.i2l, 1) := by decide +kernel
theorem dL_blend_9 : decode cL_blend 9 = .ok (.lastore, 1) := by decide +kernel
theorem dL_blend_10 : decode cL_blend 10 = .ok (.goto 15, 3) := by decide +kernel
theorem dL_blend_13 : decode cL_blend 13 = .ok (.astore 4, 2) := by decide +kernel
theorem dL_blend_15 : decode cL_blend 15 = .ok (.iconst 1, 1) := by decide +kernel
theorem dL_blend_16 : decode cL_blend 16 = .ok (.ireturn, 1) := by decide +kernel
theorem dL_blend_17 : decode cL_blend 17 = .ok (.astore 4, 2) := by decide +kernel
theorem dL_blend_19 : decode cL_blend 19 = .ok (.iconst 2, 1) := by decide +kernel
theorem dL_blend_20 : decode cL_blend 20 = .ok (.ireturn, 1) := by decide +kernel
theorem dL_blend_21 : decode cL_blend 21 = .ok (.astore 4, 2) := by decide +kernel
theorem dL_blend_23 : decode cL_blend 23 = .ok (.iconst 3, 1) := by decide +kernel
theorem dL_blend_24 : decode cL_blend 24 = .ok (.ireturn, 1) := by decide +kernel
theorem dL_blend_25 : decode cL_blend 25 = .ok (.iconst 0, 1) := by decide +kernel
theorem dL_blend_26 : decode cL_blend 26 = .ok (.ireturn, 1) := by decide +kernel
theorem dL_load_0 : decode cL_load 0 = .ok (.aload_n 3, 1) := by decide +kernel
theorem dL_load_1 : decode cL_load 1 = .ok (.iconst 0, 1) := by decide +kernel
theorem dL_load_2 : decode cL_load 2 = .ok (.aload_n 0, 1) := by decide +kernel
theorem dL_load_3 : decode cL_load 3 = .ok (.iload_n 1, 1) := by decide +kernel
theorem dL_load_4 : decode cL_load 4 = .ok (.iload_n 2, 1) := by decide +kernel
theorem dL_load_5 : decode cL_load 5 = .ok (.invokevirtual 33, 3) := by decide +kernel
theorem dL_load_8 : decode cL_load 8 = .ok (.i2l, 1) := by decide +kernel
theorem dL_load_9 : decode cL_load 9 = .ok (.lastore, 1) := by decide +kernel
theorem dL_load_10 : decode cL_load 10 = .ok (.goto 11, 3) := by decide +kernel
theorem dL_load_13 : decode cL_load 13 = .ok (.astore 4, 2) := by decide +kernel
theorem dL_load_15 : decode cL_load 15 = .ok (.iconst 1, 1) := by decide +kernel
theorem dL_load_16 : decode cL_load 16 = .ok (.ireturn, 1) := by decide +kernel
theorem dL_load_17 : decode cL_load 17 = .ok (.astore 4, 2) := by decide +kernel
theorem dL_load_19 : decode cL_load 19 = .ok (.iconst 2, 1) := by decide +kernel
theorem dL_load_20 : decode cL_load 20 = .ok (.ireturn, 1) := by decide +kernel
theorem dL_load_21 : decode cL_load 21 = .ok (.iconst 0, 1) := by decide +kernel
theorem dL_load_22 : decode cL_load 22 = .ok (.ireturn, 1) := by decide +kernel
theorem dL_unload_0 : decode cL_unload 0 = .ok (.aload_n 2, 1) := by decide +kernel
theorem dL_unload_1 : decode cL_unload 1 = .ok (.iconst 0, 1) := by decide +kernel
theorem dL_unload_2 : decode cL_unload 2 = .ok (.aload_n 0, 1) := by decide +kernel
theorem dL_unload_3 : decode cL_unload 3 = .ok (.iload_n 1, 1) := by decide +kernel
theorem dL_unload_4 : decode cL_unload 4 = .ok (.invokevirtual 36, 3) := by decide +kernel
theorem dL_unload_7 : decode cL_unload 7 = .ok (.i2l, 1) := by decide +kernel
theorem dL_unload_8 : decode cL_unload 8 = .ok (.lastore, 1) := by decide +kernel
theorem dL_unload_9 : decode cL_unload 9 = .ok (.goto 9, 3) := by decide +kernel
theorem dL_unload_12 : decode cL_unload 12 = .ok (.astore_n 3, 1) := by decide +kernel
theorem dL_unload_13 : decode cL_unload 13 = .ok (.iconst 1, 1) := by decide +kernel
theorem dL_unload_14 : decode cL_unload 14 = .ok (.ireturn, 1) := by decide +kernel
theorem dL_unload_15 : decode cL_unload 15 = .ok (.astore_n 3, 1) := by decide +kernel
theorem dL_unload_16 : decode cL_unload 16 = .ok (.iconst 2, 1) := by decide +kernel
theorem dL_unload_17 : decode cL_unload 17 = .ok (.ireturn, 1) := by decide +kernel
theorem dL_unload_18 : decode cL_unload 18 = .ok (.iconst 0, 1) := by decide +kernel
theorem dL_unload_19 : decode cL_unload 19 = .ok (.ireturn, 1) := by decide +kernel
theorem dL_clean_0 : decode cL_clean 0 = .ok (.aload_n 2, 1) := by decide +kernel
theorem dL_clean_1 : decode cL_clean 1 = .ok (.iconst 0, 1) := by decide +kernel
theorem dL_clean_2 : decode cL_clean 2 = .ok (.aload_n 0, 1) := by decide +kernel
theorem dL_clean_3 : decode cL_clean 3 = .ok (.iload_n 1, 1) := by decide +kernel
theorem dL_clean_4 : decode cL_clean 4 = .ok (.invokevirtual 40, 3) := by decide +kernel
theorem dL_clean_7 : decode cL_clean 7 = .ok (.i2l, 1) := by decide +kernel
theorem dL_clean_8 : decode cL_clean 8 = .ok (.lastore, 1) := by decide +kernel
theorem dL_clean_9 : decode cL_clean 9 = .ok (.goto 6, 3) := by decide +kernel
theorem dL_clean_12 : decode cL_clean 12 = .ok (.astore_n 3, 1) := by decide +kernel
theorem dL_clean_13 : decode cL_clean 13 = .ok (.iconst 1, 1) := by decide +kernel
theorem dL_clean_14 : decode cL_clean 14 = .ok (.ireturn, 1) := by decide +kernel
theorem dL_clean_15 : decode cL_clean 15 = .ok (.iconst 0, 1) := by decide +kernel
theorem dL_clean_16 : decode cL_clean 16 = .ok (.ireturn, 1) := by decide +kernel
theorem dL_start_0 : decode cL_start 0 = .ok (.aload 5, 2) := by decide +kernel
theorem dL_start_2 : decode cL_start 2 = .ok (.iconst 0, 1) := by decide +kernel
theorem dL_start_3 : decode cL_start 3 = .ok (.aload_n 0, 1) := by decide +kernel
theorem dL_start_4 : decode cL_start 4 = .ok (.iload_n 1, 1) := by decide +kernel
theorem dL_start_5 : decode cL_start 5 = .ok (.iload_n 2, 1) := by decide +kernel
theorem dL_start_6 : decode cL_start 6 = .ok (.iload_n 3, 1) := by decide +kernel
theorem dL_start_7 : decode cL_start 7 = .ok (.iload 4, 2) := by decide +kernel
theorem dL_start_9 : decode cL_start 9 = .ok (.invokevirtual 43, 3) := by decide +kernel
theorem dL_start_12 : decode cL_start 12 = .ok (.i2l, 1) := by decide +kernel
theorem dL_start_13 : decode cL_start 13 = .ok (.lastore, 1) := by decide +kernel
theorem dL_start_14 : decode cL_start 14 = .ok (.goto 15, 3) := by decide +kernel
theorem dL_start_17 : decode cL_start 17 = .ok (.astore 6, 2) := by decide +kernel
theorem dL_start_19 : decode cL_start 19 = .ok (.iconst 1, 1) := by decide +kernel
theorem dL_start_20 : decode cL_start 20 = .ok (.ireturn, 1) := by decide +kernel
theorem dL_start_21 : decode cL_start 21 = .ok (.astore 6, 2) := by decide +kernel
theorem dL_start_23 : decode cL_start 23 = .ok (.iconst 2, 1) := by decide +kernel
theorem dL_start_24 : decode cL_start 24 = .ok (.ireturn, 1) := by decide +kernel
theorem dL_start_25 : decode cL_start 25 = .ok (.astore 6, 2) := by decide +kernel
theorem dL_start_27 : decode cL_start 27 = .ok (.iconst 3, 1) := by decide +kernel
theorem dL_start_28 : decode cL_start 28 = .ok (.ireturn, 1) := by decide +kernel
theorem dL_start_29 : decode cL_start 29 = .ok (.iconst 0, 1) := by decide +kernel
theorem dL_start_30 : decode cL_start 30 = .ok (.ireturn, 1) := by decide +kernel
theorem dL_grow_0 : decode cL_grow 0 = .ok (.aload_n 3, 1) := by decide +kernel
theorem dL_grow_1 : decode cL_grow 1 = .ok (.iconst 0, 1) := by decide +kernel
theorem dL_grow_2 : decode cL_grow 2 = .ok (.aload_n 0, 1) := by decide +kernel
theorem dL_grow_3 : decode cL_grow 3 = .ok (.iload_n 1, 1) := by decide +kernel
theorem dL_grow_4 : decode cL_grow 4 = .ok (.iload_n 2, 1) := by decide +kernel
theorem dL_grow_5 : decode cL_grow 5 = .ok (.invokevirtual 47, 3) := by decide +kernel
theorem dL_grow_8 : decode cL_grow 8 = .ok (.i2l, 1) := by decide +kernel
theorem dL_grow_9 : decode cL_grow 9 = .ok (.lastore, 1) := by decide +kernel
theorem dL_grow_10 : decode cL_grow 10 = .ok (.goto 15, 3) := by decide +kernel
theorem dL_grow_13 : decode cL_grow 13 = .ok (.astore 4, 2) := by decide +kernel
theorem dL_grow_15 : decode cL_grow 15 = .ok (.iconst 1, 1) := by decide +kernel
theorem dL_grow_16 : decode cL_grow 16 = .ok (.ireturn, 1) := by decide +kernel
theorem dL_grow_17 : decode cL_grow 17 = .ok (.astore 4, 2) := by decide +kernel
theorem dL_grow_19 : decode cL_grow 19 = .ok (.iconst 2, 1) := by decide +kernel
theorem dL_grow_20 : decode cL_grow 20 = .ok (.ireturn, 1) := by decide +kernel
theorem dL_grow_21 : decode cL_grow 21 = .ok (.astore 4, 2) := by decide +kernel
theorem dL_grow_23 : decode cL_grow 23 = .ok (.iconst 3, 1) := by decide +kernel
theorem dL_grow_24 : decode cL_grow 24 = .ok (.ireturn, 1) := by decide +kernel
theorem dL_grow_25 : decode cL_grow 25 = .ok (.iconst 0, 1) := by decide +kernel
theorem dL_grow_26 : decode cL_grow 26 = .ok (.ireturn, 1) := by decide +kernel
theorem dL_stop_0 : decode cL_stop 0 = .ok (.aload_n 2, 1) := by decide +kernel
theorem dL_stop_1 : decode cL_stop 1 = .ok (.iconst 0, 1) := by decide +kernel
theorem dL_stop_2 : decode cL_stop 2 = .ok (.aload_n 0, 1) := by decide +kernel
theorem dL_stop_3 : decode cL_stop 3 = .ok (.iload_n 1, 1) := by decide +kernel
theorem dL_stop_4 : decode cL_stop 4 = .ok (.invokevirtual 50, 3) := by decide +kernel
theorem dL_stop_7 : decode cL_stop 7 = .ok (.i2l, 1) := by decide +kernel
theorem dL_stop_8 : decode cL_stop 8 = .ok (.lastore, 1) := by decide +kernel
theorem dL_stop_9 : decode cL_stop 9 = .ok (.goto 9, 3) := by decide +kernel
theorem dL_stop_12 : decode cL_stop 12 = .ok (.astore_n 3, 1) := by decide +kernel
theorem dL_stop_13 : decode cL_stop 13 = .ok (.iconst 1, 1) := by decide +kernel
theorem dL_stop_14 : decode cL_stop 14 = .ok (.ireturn, 1) := by decide +kernel
theorem dL_stop_15 : decode cL_stop 15 = .ok (.astore_n 3, 1) := by decide +kernel
theorem dL_stop_16 : decode cL_stop 16 = .ok (.iconst 2, 1) := by decide +kernel
theorem dL_stop_17 : decode cL_stop 17 = .ok (.ireturn, 1) := by decide +kernel
theorem dL_stop_18 : decode cL_stop 18 = .ok (.iconst 0, 1) := by decide +kernel
theorem dL_stop_19 : decode cL_stop 19 = .ok (.ireturn, 1) := by decide +kernel
theorem dL_relieve_0 : decode cL_relieve 0 = .ok (.aload_n 2, 1) := by decide +kernel
theorem dL_relieve_1 : decode cL_relieve 1 = .ok (.iconst 0, 1) := by decide +kernel
theorem dL_relieve_2 : decode cL_relieve 2 = .ok (.aload_n 0, 1) := by decide +kernel
theorem dL_relieve_3 : decode cL_relieve 3 = .ok (.iload_n 1, 1) := by decide +kernel
theorem dL_relieve_4 : decode cL_relieve 4 = .ok (.invokevirtual 53, 3) := by decide +kernel
theorem dL_relieve_7 : decode cL_relieve 7 = .ok (.i2l, 1) := by decide +kernel
theorem dL_relieve_8 : decode cL_relieve 8 = .ok (.lastore, 1) := by decide +kernel
theorem dL_relieve_9 : decode cL_relieve 9 = .ok (.goto 9, 3) := by decide +kernel
theorem dL_relieve_12 : decode cL_relieve 12 = .ok (.astore_n 3, 1) := by decide +kernel
theorem dL_relieve_13 : decode cL_relieve 13 = .ok (.iconst 1, 1) := by decide +kernel
theorem dL_relieve_14 : decode cL_relieve 14 = .ok (.ireturn, 1) := by decide +kernel
theorem dL_relieve_15 : decode cL_relieve 15 = .ok (.astore_n 3, 1) := by decide +kernel
theorem dL_relieve_16 : decode cL_relieve 16 = .ok (.iconst 2, 1) := by decide +kernel
theorem dL_relieve_17 : decode cL_relieve 17 = .ok (.ireturn, 1) := by decide +kernel
theorem dL_relieve_18 : decode cL_relieve 18 = .ok (.iconst 0, 1) := by decide +kernel
theorem dL_relieve_19 : decode cL_relieve 19 = .ok (.ireturn, 1) := by decide +kernel
theorem dL_saw_0 : decode cL_saw 0 = .ok (.aload_n 2, 1) := by decide +kernel
theorem dL_saw_1 : decode cL_saw 1 = .ok (.iconst 0, 1) := by decide +kernel
theorem dL_saw_2 : decode cL_saw 2 = .ok (.aload_n 0, 1) := by decide +kernel
theorem dL_saw_3 : decode cL_saw 3 = .ok (.iload_n 1, 1) := by decide +kernel
theorem dL_saw_4 : decode cL_saw 4 = .ok (.invokevirtual 56, 3) := by decide +kernel
theorem dL_saw_7 : decode cL_saw 7 = .ok (.ifCond .eq 7, 3) := by decide +kernel
theorem dL_saw_10 : decode cL_saw 10 = .ok (.lconst 1, 1) := by decide +kernel
theorem dL_saw_11 : decode cL_saw 11 = .ok (.goto 4, 3) := by decide +kernel
theorem dL_saw_14 : decode cL_saw 14 = .ok (.lconst 0, 1) := by decide +kernel
theorem dL_saw_15 : decode cL_saw 15 = .ok (.lastore, 1) := by decide +kernel
theorem dL_saw_16 : decode cL_saw 16 = .ok (.goto 9, 3) := by decide +kernel
theorem dL_saw_19 : decode cL_saw 19 = .ok (.astore_n 3, 1) := by decide +kernel
theorem dL_saw_20 : decode cL_saw 20 = .ok (.iconst 1, 1) := by decide +kernel
theorem dL_saw_21 : decode cL_saw 21 = .ok (.ireturn, 1) := by decide +kernel
theorem dL_saw_22 : decode cL_saw 22 = .ok (.astore_n 3, 1) := by decide +kernel
theorem dL_saw_23 : decode cL_saw 23 = .ok (.iconst 2, 1) := by decide +kernel
theorem dL_saw_24 : decode cL_saw 24 = .ok (.ireturn, 1) := by decide +kernel
theorem dL_saw_25 : decode cL_saw 25 = .ok (.iconst 0, 1) := by decide +kernel
theorem dL_saw_26 : decode cL_saw 26 = .ok (.ireturn, 1) := by decide +kernel
theorem dL_press_0 : decode cL_press 0 = .ok (.aload_n 2, 1) := by decide +kernel
theorem dL_press_1 : decode cL_press 1 = .ok (.iconst 0, 1) := by decide +kernel
theorem dL_press_2 : decode cL_press 2 = .ok (.aload_n 0, 1) := by decide +kernel
theorem dL_press_3 : decode cL_press 3 = .ok (.iload_n 1, 1) := by decide +kernel
theorem dL_press_4 : decode cL_press 4 = .ok (.invokevirtual 60, 3) := by decide +kernel
theorem dL_press_7 : decode cL_press 7 = .ok (.i2l, 1) := by decide +kernel
theorem dL_press_8 : decode cL_press 8 = .ok (.lastore, 1) := by decide +kernel
theorem dL_press_9 : decode cL_press 9 = .ok (.goto 9, 3) := by decide +kernel
theorem dL_press_12 : decode cL_press 12 = .ok (.astore_n 3, 1) := by decide +kernel
theorem dL_press_13 : decode cL_press 13 = .ok (.iconst 1, 1) := by decide +kernel
theorem dL_press_14 : decode cL_press 14 = .ok (.ireturn, 1) := by decide +kernel
theorem dL_press_15 : decode cL_press 15 = .ok (.astore_n 3, 1) := by decide +kernel
theorem dL_press_16 : decode cL_press 16 = .ok (.iconst 2, 1) := by decide +kernel
theorem dL_press_17 : decode cL_press 17 = .ok (.ireturn, 1) := by decide +kernel
theorem dL_press_18 : decode cL_press 18 = .ok (.iconst 0, 1) := by decide +kernel
theorem dL_press_19 : decode cL_press 19 = .ok (.ireturn, 1) := by decide +kernel
theorem dL_prove_0 : decode cL_prove 0 = .ok (.aload_n 2, 1) := by decide +kernel
theorem dL_prove_1 : decode cL_prove 1 = .ok (.iconst 0, 1) := by decide +kernel
theorem dL_prove_2 : decode cL_prove 2 = .ok (.aload_n 0, 1) := by decide +kernel
theorem dL_prove_3 : decode cL_prove 3 = .ok (.iload_n 1, 1) := by decide +kernel
theorem dL_prove_4 : decode cL_prove 4 = .ok (.invokevirtual 63, 3) := by decide +kernel
theorem dL_prove_7 : decode cL_prove 7 = .ok (.ifCond .eq 7, 3) := by decide +kernel
theorem dL_prove_10 : decode cL_prove 10 = .ok (.lconst 1, 1) := by decide +kernel
theorem dL_prove_11 : decode cL_prove 11 = .ok (.goto 4, 3) := by decide +kernel
theorem dL_prove_14 : decode cL_prove 14 = .ok (.lconst 0, 1) := by decide +kernel
theorem dL_prove_15 : decode cL_prove 15 = .ok (.lastore, 1) := by decide +kernel
theorem dL_prove_16 : decode cL_prove 16 = .ok (.goto 9, 3) := by decide +kernel
theorem dL_prove_19 : decode cL_prove 19 = .ok (.astore_n 3, 1) := by decide +kernel
theorem dL_prove_20 : decode cL_prove 20 = .ok (.iconst 1, 1) := by decide +kernel
theorem dL_prove_21 : decode cL_prove 21 = .ok (.ireturn, 1) := by decide +kernel
theorem dL_prove_22 : decode cL_prove 22 = .ok (.astore_n 3, 1) := by decide +kernel
theorem dL_prove_23 : decode cL_prove 23 = .ok (.iconst 2, 1) := by decide +kernel
theorem dL_prove_24 : decode cL_prove 24 = .ok (.ireturn, 1) := by decide +kernel
theorem dL_prove_25 : decode cL_prove 25 = .ok (.iconst 0, 1) := by decide +kernel
theorem dL_prove_26 : decode cL_prove 26 = .ok (.ireturn, 1) := by decide +kernel
theorem dL_accept_0 : decode cL_accept 0 = .ok (.aload_n 2, 1) := by decide +kernel
theorem dL_accept_1 : decode cL_accept 1 = .ok (.iconst 0, 1) := by decide +kernel
theorem dL_accept_2 : decode cL_accept 2 = .ok (.aload_n 0, 1) := by decide +kernel
theorem dL_accept_3 : decode cL_accept 3 = .ok (.iload_n 1, 1) := by decide +kernel
theorem dL_accept_4 : decode cL_accept 4 = .ok (.invokevirtual 66, 3) := by decide +kernel
theorem dL_accept_7 : decode cL_accept 7 = .ok (.i2l, 1) := by decide +kernel
theorem dL_accept_8 : decode cL_accept 8 = .ok (.lastore, 1) := by decide +kernel
theorem dL_accept_9 : decode cL_accept 9 = .ok (.goto 9, 3) := by decide +kernel
theorem dL_accept_12 : decode cL_accept 12 = .ok (.astore_n 3, 1) := by decide +kernel
theorem dL_accept_13 : decode cL_accept 13 = .ok (.iconst 1, 1) := by decide +kernel
theorem dL_accept_14 : decode cL_accept 14 = .ok (.ireturn, 1) := by decide +kernel
theorem dL_accept_15 : decode cL_accept 15 = .ok (.astore_n 3, 1) := by decide +kernel
theorem dL_accept_16 : decode cL_accept 16 = .ok (.iconst 2, 1) := by decide +kernel
theorem dL_accept_17 : decode cL_accept 17 = .ok (.ireturn, 1) := by decide +kernel
theorem dL_accept_18 : decode cL_accept 18 = .ok (.iconst 0, 1) := by decide +kernel
theorem dL_accept_19 : decode cL_accept 19 = .ok (.ireturn, 1) := by decide +kernel
theorem dL_ofPiece_0 : decode cL_ofPiece 0 = .ok (.aload_n 3, 1) := by decide +kernel
theorem dL_ofPiece_1 : decode cL_ofPiece 1 = .ok (.iconst 0, 1) := by decide +kernel
theorem dL_ofPiece_2 : decode cL_ofPiece 2 = .ok (.aload_n 0, 1) := by decide +kernel
theorem dL_ofPiece_3 : decode cL_ofPiece 3 = .ok (.iload_n 1, 1) := by decide +kernel
theorem dL_ofPiece_4 : decode cL_ofPiece 4 = .ok (.iload_n 2, 1) := by decide +kernel
theorem dL_ofPiece_5 : decode cL_ofPiece 5 = .ok (.invokevirtual 69, 3) := by decide +kernel
theorem dL_ofPiece_8 : decode cL_ofPiece 8 = .ok (.i2l, 1) := by decide +kernel
theorem dL_ofPiece_9 : decode cL_ofPiece 9 = .ok (.lastore, 1) := by decide +kernel
theorem dL_ofPiece_10 : decode cL_ofPiece 10 = .ok (.goto 11, 3) := by decide +kernel
theorem dL_ofPiece_13 : decode cL_ofPiece 13 = .ok (.astore 4, 2) := by decide +kernel
theorem dL_ofPiece_15 : decode cL_ofPiece 15 = .ok (.iconst 1, 1) := by decide +kernel
theorem dL_ofPiece_16 : decode cL_ofPiece 16 = .ok (.ireturn, 1) := by decide +kernel
theorem dL_ofPiece_17 : decode cL_ofPiece 17 = .ok (.astore 4, 2) := by decide +kernel
theorem dL_ofPiece_19 : decode cL_ofPiece 19 = .ok (.iconst 2, 1) := by decide +kernel
theorem dL_ofPiece_20 : decode cL_ofPiece 20 = .ok (.ireturn, 1) := by decide +kernel
theorem dL_ofPiece_21 : decode cL_ofPiece 21 = .ok (.iconst 0, 1) := by decide +kernel
theorem dL_ofPiece_22 : decode cL_ofPiece 22 = .ok (.ireturn, 1) := by decide +kernel
theorem dL_ofLayer_0 : decode cL_ofLayer 0 = .ok (.aload 4, 2) := by decide +kernel
theorem dL_ofLayer_2 : decode cL_ofLayer 2 = .ok (.iconst 0, 1) := by decide +kernel
theorem dL_ofLayer_3 : decode cL_ofLayer 3 = .ok (.aload_n 0, 1) := by decide +kernel
theorem dL_ofLayer_4 : decode cL_ofLayer 4 = .ok (.iload_n 1, 1) := by decide +kernel
theorem dL_ofLayer_5 : decode cL_ofLayer 5 = .ok (.iload_n 2, 1) := by decide +kernel
theorem dL_ofLayer_6 : decode cL_ofLayer 6 = .ok (.iload_n 3, 1) := by decide +kernel
theorem dL_ofLayer_7 : decode cL_ofLayer 7 = .ok (.invokevirtual 72, 3) := by decide +kernel
theorem dL_ofLayer_10 : decode cL_ofLayer 10 = .ok (.lastore, 1) := by decide +kernel
theorem dL_ofLayer_11 : decode cL_ofLayer 11 = .ok (.goto 11, 3) := by decide +kernel
theorem dL_ofLayer_14 : decode cL_ofLayer 14 = .ok (.astore 5, 2) := by decide +kernel
theorem dL_ofLayer_16 : decode cL_ofLayer 16 = .ok (.iconst 1, 1) := by decide +kernel
theorem dL_ofLayer_17 : decode cL_ofLayer 17 = .ok (.ireturn, 1) := by decide +kernel
theorem dL_ofLayer_18 : decode cL_ofLayer 18 = .ok (.astore 5, 2) := by decide +kernel
theorem dL_ofLayer_20 : decode cL_ofLayer 20 = .ok (.iconst 2, 1) := by decide +kernel
theorem dL_ofLayer_21 : decode cL_ofLayer 21 = .ok (.ireturn, 1) := by decide +kernel
theorem dL_ofLayer_22 : decode cL_ofLayer 22 = .ok (.iconst 0, 1) := by decide +kernel
theorem dL_ofLayer_23 : decode cL_ofLayer 23 = .ok (.ireturn, 1) := by decide +kernel
theorem dL_ofPowder_0 : decode cL_ofPowder 0 = .ok (.aload_n 3, 1) := by decide +kernel
theorem dL_ofPowder_1 : decode cL_ofPowder 1 = .ok (.iconst 0, 1) := by decide +kernel
theorem dL_ofPowder_2 : decode cL_ofPowder 2 = .ok (.aload_n 0, 1) := by decide +kernel
theorem dL_ofPowder_3 : decode cL_ofPowder 3 = .ok (.iload_n 1, 1) := by decide +kernel
theorem dL_ofPowder_4 : decode cL_ofPowder 4 = .ok (.iload_n 2, 1) := by decide +kernel
theorem dL_ofPowder_5 : decode cL_ofPowder 5 = .ok (.invokevirtual 76, 3) := by decide +kernel
theorem dL_ofPowder_8 : decode cL_ofPowder 8 = .ok (.i2l, 1) := by decide +kernel
theorem dL_ofPowder_9 : decode cL_ofPowder 9 = .ok (.lastore, 1) := by decide +kernel
theorem dL_ofPowder_10 : decode cL_ofPowder 10 = .ok (.goto 11, 3) := by decide +kernel
theorem dL_ofPowder_13 : decode cL_ofPowder 13 = .ok (.astore 4, 2) := by decide +kernel
theorem dL_ofPowder_15 : decode cL_ofPowder 15 = .ok (.iconst 1, 1) := by decide +kernel
theorem dL_ofPowder_16 : decode cL_ofPowder 16 = .ok (.ireturn, 1) := by decide +kernel
theorem dL_ofPowder_17 : decode cL_ofPowder 17 = .ok (.astore 4, 2) := by decide +kernel
theorem dL_ofPowder_19 : decode cL_ofPowder 19 = .ok (.iconst 2, 1) := by decide +kernel
theorem dL_ofPowder_20 : decode cL_ofPowder 20 = .ok (.ireturn, 1) := by decide +kernel
theorem dL_ofPowder_21 : decode cL_ofPowder 21 = .ok (.iconst 0, 1) := by decide +kernel
theorem dL_ofPowder_22 : decode cL_ofPowder 22 = .ok (.ireturn, 1) := by decide +kernel
theorem dL_ofMachine_0 : decode cL_ofMachine 0 = .ok (.aload_n 3, 1) := by decide +kernel
theorem dL_ofMachine_1 : decode cL_ofMachine 1 = .ok (.iconst 0, 1) := by decide +kernel
theorem dL_ofMachine_2 : decode cL_ofMachine 2 = .ok (.aload_n 0, 1) := by decide +kernel
theorem dL_ofMachine_3 : decode cL_ofMachine 3 = .ok (.iload_n 1, 1) := by decide +kernel
theorem dL_ofMachine_4 : decode cL_ofMachine 4 = .ok (.iload_n 2, 1) := by decide +kernel
theorem dL_ofMachine_5 : decode cL_ofMachine 5 = .ok (.invokevirtual 79, 3) := by decide +kernel
theorem dL_ofMachine_8 : decode cL_ofMachine 8 = .ok (.i2l, 1) := by decide +kernel
theorem dL_ofMachine_9 : decode cL_ofMachine 9 = .ok (.lastore, 1) := by decide +kernel
theorem dL_ofMachine_10 : decode cL_ofMachine 10 = .ok (.goto 11, 3) := by decide +kernel
theorem dL_ofMachine_13 : decode cL_ofMachine 13 = .ok (.astore 4, 2) := by decide +kernel
theorem dL_ofMachine_15 : decode cL_ofMachine 15 = .ok (.iconst 1, 1) := by decide +kernel
theorem dL_ofMachine_16 : decode cL_ofMachine 16 = .ok (.ireturn, 1) := by decide +kernel
theorem dL_ofMachine_17 : decode cL_ofMachine 17 = .ok (.astore 4, 2) := by decide +kernel
theorem dL_ofMachine_19 : decode cL_ofMachine 19 = .ok (.iconst 2, 1) := by decide +kernel
theorem dL_ofMachine_20 : decode cL_ofMachine 20 = .ok (.ireturn, 1) := by decide +kernel
theorem dL_ofMachine_21 : decode cL_ofMachine 21 = .ok (.iconst 0, 1) := by decide +kernel
theorem dL_ofMachine_22 : decode cL_ofMachine 22 = .ok (.ireturn, 1) := by decide +kernel
theorem dL_warm_0 : decode cL_warm 0 = .ok (.aload 4, 2) := by decide +kernel
theorem dL_warm_2 : decode cL_warm 2 = .ok (.iconst 0, 1) := by decide +kernel
theorem dL_warm_3 : decode cL_warm 3 = .ok (.aload_n 0, 1) := by decide +kernel
theorem dL_warm_4 : decode cL_warm 4 = .ok (.iload_n 1, 1) := by decide +kernel
theorem dL_warm_5 : decode cL_warm 5 = .ok (.iload_n 2, 1) := by decide +kernel
theorem dL_warm_6 : decode cL_warm 6 = .ok (.iload_n 3, 1) := by decide +kernel
theorem dL_warm_7 : decode cL_warm 7 = .ok (.invokevirtual 82, 3) := by decide +kernel
theorem dL_warm_10 : decode cL_warm 10 = .ok (.dastore, 1) := by decide +kernel
theorem dL_warm_11 : decode cL_warm 11 = .ok (.goto 7, 3) := by decide +kernel
theorem dL_warm_14 : decode cL_warm 14 = .ok (.astore 5, 2) := by decide +kernel
theorem dL_warm_16 : decode cL_warm 16 = .ok (.iconst 1, 1) := by decide +kernel
theorem dL_warm_17 : decode cL_warm 17 = .ok (.ireturn, 1) := by decide +kernel
theorem dL_warm_18 : decode cL_warm 18 = .ok (.iconst 0, 1) := by decide +kernel
theorem dL_warm_19 : decode cL_warm 19 = .ok (.ireturn, 1) := by decide +kernel
theorem dL_measure_0 : decode cL_measure 0 = .ok (.aload_n 3, 1) := by decide +kernel
theorem dL_measure_1 : decode cL_measure 1 = .ok (.iconst 0, 1) := by decide +kernel
theorem dL_measure_2 : decode cL_measure 2 = .ok (.aload_n 0, 1) := by decide +kernel
theorem dL_measure_3 : decode cL_measure 3 = .ok (.iload_n 1, 1) := by decide +kernel
theorem dL_measure_4 : decode cL_measure 4 = .ok (.iload_n 2, 1) := by decide +kernel
theorem dL_measure_5 : decode cL_measure 5 = .ok (.invokevirtual 86, 3) := by decide +kernel
theorem dL_measure_8 : decode cL_measure 8 = .ok (.dastore, 1) := by decide +kernel
theorem dL_measure_9 : decode cL_measure 9 = .ok (.goto 11, 3) := by decide +kernel
theorem dL_measure_12 : decode cL_measure 12 = .ok (.astore 4, 2) := by decide +kernel
theorem dL_measure_14 : decode cL_measure 14 = .ok (.iconst 1, 1) := by decide +kernel
theorem dL_measure_15 : decode cL_measure 15 = .ok (.ireturn, 1) := by decide +kernel
theorem dL_measure_16 : decode cL_measure 16 = .ok (.astore 4, 2) := by decide +kernel
theorem dL_measure_18 : decode cL_measure 18 = .ok (.iconst 2, 1) := by decide +kernel
theorem dL_measure_19 : decode cL_measure 19 = .ok (.ireturn, 1) := by decide +kernel
theorem dL_measure_20 : decode cL_measure 20 = .ok (.iconst 0, 1) := by decide +kernel
theorem dL_measure_21 : decode cL_measure 21 = .ok (.ireturn, 1) := by decide +kernel
theorem dL_recall_0 : decode cL_recall 0 = .ok (.aload_n 2, 1) := by decide +kernel
theorem dL_recall_1 : decode cL_recall 1 = .ok (.iconst 0, 1) := by decide +kernel
theorem dL_recall_2 : decode cL_recall 2 = .ok (.aload_n 0, 1) := by decide +kernel
theorem dL_recall_3 : decode cL_recall 3 = .ok (.iload_n 1, 1) := by decide +kernel
theorem dL_recall_4 : decode cL_recall 4 = .ok (.invokevirtual 90, 3) := by decide +kernel
theorem dL_recall_7 : decode cL_recall 7 = .ok (.i2l, 1) := by decide +kernel
theorem dL_recall_8 : decode cL_recall 8 = .ok (.lastore, 1) := by decide +kernel
theorem dL_recall_9 : decode cL_recall 9 = .ok (.goto 6, 3) := by decide +kernel
theorem dL_recall_12 : decode cL_recall 12 = .ok (.astore_n 3, 1) := by decide +kernel
theorem dL_recall_13 : decode cL_recall 13 = .ok (.iconst 1, 1) := by decide +kernel
theorem dL_recall_14 : decode cL_recall 14 = .ok (.ireturn, 1) := by decide +kernel
theorem dL_recall_15 : decode cL_recall 15 = .ok (.iconst 0, 1) := by decide +kernel
theorem dL_recall_16 : decode cL_recall 16 = .ok (.ireturn, 1) := by decide +kernel
theorem dL_many_0 : decode cL_many 0 = .ok (.aload_n 2, 1) := by decide +kernel
theorem dL_many_1 : decode cL_many 1 = .ok (.iconst 0, 1) := by decide +kernel
theorem dL_many_2 : decode cL_many 2 = .ok (.aload_n 0, 1) := by decide +kernel
theorem dL_many_3 : decode cL_many 3 = .ok (.iload_n 1, 1) := by decide +kernel
theorem dL_many_4 : decode cL_many 4 = .ok (.invokevirtual 93, 3) := by decide +kernel
theorem dL_many_7 : decode cL_many 7 = .ok (.i2l, 1) := by decide +kernel
theorem dL_many_8 : decode cL_many 8 = .ok (.lastore, 1) := by decide +kernel
theorem dL_many_9 : decode cL_many 9 = .ok (.goto 6, 3) := by decide +kernel
theorem dL_many_12 : decode cL_many 12 = .ok (.astore_n 3, 1) := by decide +kernel
theorem dL_many_13 : decode cL_many 13 = .ok (.iconst 1, 1) := by decide +kernel
theorem dL_many_14 : decode cL_many 14 = .ok (.ireturn, 1) := by decide +kernel
theorem dL_many_15 : decode cL_many 15 = .ok (.iconst 0, 1) := by decide +kernel
theorem dL_many_16 : decode cL_many 16 = .ok (.ireturn, 1) := by decide +kernel
theorem dL_wouldHold_0 : decode cL_wouldHold 0 = .ok (.aload_n 3, 1) := by decide +kernel
theorem dL_wouldHold_1 : decode cL_wouldHold 1 = .ok (.iconst 0, 1) := by decide +kernel
theorem dL_wouldHold_2 : decode cL_wouldHold 2 = .ok (.aload_n 0, 1) := by decide +kernel
theorem dL_wouldHold_3 : decode cL_wouldHold 3 = .ok (.iload_n 1, 1) := by decide +kernel
theorem dL_wouldHold_4 : decode cL_wouldHold 4 = .ok (.iload_n 2, 1) := by decide +kernel
theorem dL_wouldHold_5 : decode cL_wouldHold 5 = .ok (.invokevirtual 96, 3) := by decide +kernel
theorem dL_wouldHold_8 : decode cL_wouldHold 8 = .ok (.i2l, 1) := by decide +kernel
theorem dL_wouldHold_9 : decode cL_wouldHold 9 = .ok (.lastore, 1) := by decide +kernel
theorem dL_wouldHold_10 : decode cL_wouldHold 10 = .ok (.goto 11, 3) := by decide +kernel
theorem dL_wouldHold_13 : decode cL_wouldHold 13 = .ok (.astore 4, 2) := by decide +kernel
theorem dL_wouldHold_15 : decode cL_wouldHold 15 = .ok (.iconst 1, 1) := by decide +kernel
theorem dL_wouldHold_16 : decode cL_wouldHold 16 = .ok (.ireturn, 1) := by decide +kernel
theorem dL_wouldHold_17 : decode cL_wouldHold 17 = .ok (.astore 4, 2) := by decide +kernel
theorem dL_wouldHold_19 : decode cL_wouldHold 19 = .ok (.iconst 2, 1) := by decide +kernel
theorem dL_wouldHold_20 : decode cL_wouldHold 20 = .ok (.ireturn, 1) := by decide +kernel
theorem dL_wouldHold_21 : decode cL_wouldHold 21 = .ok (.iconst 0, 1) := by decide +kernel
theorem dL_wouldHold_22 : decode cL_wouldHold 22 = .ok (.ireturn, 1) := by decide +kernel
theorem dL_bestWay_0 : decode cL_bestWay 0 = .ok (.aload_n 2, 1) := by decide +kernel
theorem dL_bestWay_1 : decode cL_bestWay 1 = .ok (.iconst 0, 1) := by decide +kernel
theorem dL_bestWay_2 : decode cL_bestWay 2 = .ok (.aload_n 0, 1) := by decide +kernel
theorem dL_bestWay_3 : decode cL_bestWay 3 = .ok (.iload_n 1, 1) := by decide +kernel
theorem dL_bestWay_4 : decode cL_bestWay 4 = .ok (.invokevirtual 99, 3) := by decide +kernel
theorem dL_bestWay_7 : decode cL_bestWay 7 = .ok (.i2l, 1) := by decide +kernel
theorem dL_bestWay_8 : decode cL_bestWay 8 = .ok (.lastore, 1) := by decide +kernel
theorem dL_bestWay_9 : decode cL_bestWay 9 = .ok (.goto 6, 3) := by decide +kernel
theorem dL_bestWay_12 : decode cL_bestWay 12 = .ok (.astore_n 3, 1) := by decide +kernel
theorem dL_bestWay_13 : decode cL_bestWay 13 = .ok (.iconst 1, 1) := by decide +kernel
theorem dL_bestWay_14 : decode cL_bestWay 14 = .ok (.ireturn, 1) := by decide +kernel
theorem dL_bestWay_15 : decode cL_bestWay 15 = .ok (.iconst 0, 1) := by decide +kernel
theorem dL_bestWay_16 : decode cL_bestWay 16 = .ok (.ireturn, 1) := by decide +kernel
theorem dL_bestSpeed_0 : decode cL_bestSpeed 0 = .ok (.aload_n 3, 1) := by decide +kernel
theorem dL_bestSpeed_1 : decode cL_bestSpeed 1 = .ok (.iconst 0, 1) := by decide +kernel
theorem dL_bestSpeed_2 : decode cL_bestSpeed 2 = .ok (.aload_n 0, 1) := by decide +kernel
theorem dL_bestSpeed_3 : decode cL_bestSpeed 3 = .ok (.iload_n 1, 1) := by decide +kernel
theorem dL_bestSpeed_4 : decode cL_bestSpeed 4 = .ok (.iload_n 2, 1) := by decide +kernel
theorem dL_bestSpeed_5 : decode cL_bestSpeed 5 = .ok (.invokevirtual 102, 3) := by decide +kernel
theorem dL_bestSpeed_8 : decode cL_bestSpeed 8 = .ok (.i2l, 1) := by decide +kernel
theorem dL_bestSpeed_9 : decode cL_bestSpeed 9 = .ok (.lastore, 1) := by decide +kernel
theorem dL_bestSpeed_10 : decode cL_bestSpeed 10 = .ok (.goto 11, 3) := by decide +kernel
theorem dL_bestSpeed_13 : decode cL_bestSpeed 13 = .ok (.astore 4, 2) := by decide +kernel
theorem dL_bestSpeed_15 : decode cL_bestSpeed 15 = .ok (.iconst 1, 1) := by decide +kernel
theorem dL_bestSpeed_16 : decode cL_bestSpeed 16 = .ok (.ireturn, 1) := by decide +kernel
theorem dL_bestSpeed_17 : decode cL_bestSpeed 17 = .ok (.astore 4, 2) := by decide +kernel
theorem dL_bestSpeed_19 : decode cL_bestSpeed 19 = .ok (.iconst 2, 1) := by decide +kernel
theorem dL_bestSpeed_20 : decode cL_bestSpeed 20 = .ok (.ireturn, 1) := by decide +kernel
theorem dL_bestSpeed_21 : decode cL_bestSpeed 21 = .ok (.iconst 0, 1) := by decide +kernel
theorem dL_bestSpeed_22 : decode cL_bestSpeed 22 = .ok (.ireturn, 1) := by decide +kernel
