theorem dX0_init_0 : decode cX0_init 0 = .ok (.aload_n 0, 1) := by decide +kernel
theorem dX0_init_1 : decode cX0_init 1 = .ok (.invokespecial 3, 3) := by decide +kernel
theorem dX0_init_4 : decode cX0_init 4 = .ok (.aload_n 0, 1) := by decide +kernel
theorem dX0_init_5 : decode cX0_init 5 = .ok (.sipush 300, 3) := by decide +kernel
theorem dX0_init_8 : decode cX0_init 8 = .ok (.newarray .long, 2) := by decide +kernel
theorem dX0_init_10 : decode cX0_init 10 = .ok (.putfield 9, 3) := by decide +kernel
theorem dX0_init_13 : decode cX0_init 13 = .ok (.aload_n 0, 1) := by decide +kernel
theorem dX0_init_14 : decode cX0_init 14 = .ok (.sipush 300, 3) := by decide +kernel
theorem dX0_init_17 : decode cX0_init 17 = .ok (.newarray .long, 2) := by decide +kernel
theorem dX0_init_19 : decode cX0_init 19 = .ok (.putfield 15, 3) := by decide +kernel
theorem dX0_init_22 : decode cX0_init 22 = .ok (.aload_n 0, 1) := by decide +kernel
theorem dX0_init_23 : decode cX0_init 23 = .ok (.sipush 300, 3) := by decide +kernel
theorem dX0_init_26 : decode cX0_init 26 = .ok (.newarray .boolean, 2) := by decide +kernel
theorem dX0_init_28 : decode cX0_init 28 = .ok (.putfield 18, 3) := by decide +kernel
theorem dX0_init_31 : decode cX0_init 31 = .ok (.aload_n 0, 1) := by decide +kernel
theorem dX0_init_32 : decode cX0_init 32 = .ok (.sipush 300, 3) := by decide +kernel
theorem dX0_init_35 : decode cX0_init 35 = .ok (.newarray .int, 2) := by decide +kernel
theorem dX0_init_37 : decode cX0_init 37 = .ok (.putfield 22, 3) := by decide +kernel
theorem dX0_init_40 : decode cX0_init 40 = .ok (.return_, 1) := by decide +kernel
theorem dX0_noteRow_0 : decode cX0_noteRow 0 = .ok (.aload_n 0, 1) := by decide +kernel
theorem dX0_noteRow_1 : decode cX0_noteRow 1 = .ok (.iload_n 1, 1) := by decide +kernel
theorem dX0_noteRow_2 : decode cX0_noteRow 2 = .ok (.invokevirtual 26, 3) := by decide +kernel
theorem dX0_noteRow_5 : decode cX0_noteRow 5 = .ok (.ifCond .eq 18, 3) := by decide +kernel
theorem dX0_noteRow_8 : decode cX0_noteRow 8 = .ok (.aload_n 0, 1) := by decide +kernel
theorem dX0_noteRow_9 : decode cX0_noteRow 9 = .ok (.getfield 9, 3) := by decide +kernel
theorem dX0_noteRow_12 : decode cX0_noteRow 12 = .ok (.iload_n 1, 1) := by decide +kernel
theorem dX0_noteRow_13 : decode cX0_noteRow 13 = .ok (.lload_n 2, 1) := by decide +kernel
theorem dX0_noteRow_14 : decode cX0_noteRow 14 = .ok (.lastore, 1) := by decide +kernel
theorem dX0_noteRow_15 : decode cX0_noteRow 15 = .ok (.aload_n 0, 1) := by decide +kernel
theorem dX0_noteRow_16 : decode cX0_noteRow 16 = .ok (.getfield 15, 3) := by decide +kernel
theorem dX0_noteRow_19 : decode cX0_noteRow 19 = .ok (.iload_n 1, 1) := by decide +kernel
theorem dX0_noteRow_20 : decode cX0_noteRow 20 = .ok (.lload 4, 2) := by decide +kernel
theorem dX0_noteRow_22 : decode cX0_noteRow 22 = .ok (.lastore, 1) := by decide +kernel
theorem dX0_noteRow_23 : decode cX0_noteRow 23 = .ok (.return_, 1) := by decide +kernel
theorem dX0_noteMark_0 : decode cX0_noteMark 0 = .ok (.aload_n 0, 1) := by decide +kernel
theorem dX0_noteMark_1 : decode cX0_noteMark 1 = .ok (.iload_n 1, 1) := by decide +kernel
theorem dX0_noteMark_2 : decode cX0_noteMark 2 = .ok (.invokevirtual 26, 3) := by decide +kernel
theorem dX0_noteMark_5 : decode cX0_noteMark 5 = .ok (.ifCond .eq 10, 3) := by decide +kernel
theorem dX0_noteMark_8 : decode cX0_noteMark 8 = .ok (.aload_n 0, 1) := by decide +kernel
theorem dX0_noteMark_9 : decode cX0_noteMark 9 = .ok (.getfield 18, 3) := by decide +kernel
theorem dX0_noteMark_12 : decode cX0_noteMark 12 = .ok (.iload_n 1, 1) := by decide +kernel
theorem dX0_noteMark_13 : decode cX0_noteMark 13 = .ok (.iconst 1, 1) := by decide +kernel
theorem dX0_noteMark_14 : decode cX0_noteMark 14 = .ok (.bastore, 1) := by decide +kernel
theorem dX0_noteMark_15 : decode cX0_noteMark 15 = .ok (.return_, 1) := by decide +kernel
theorem dX0_keyOf_0 : decode cX0_keyOf 0 = .ok (.aload_n 0, 1) := by decide +kernel
theorem dX0_keyOf_1 : decode cX0_keyOf 1 = .ok (.iload_n 1, 1) := by decide +kernel
theorem dX0_keyOf_2 : decode cX0_keyOf 2 = .ok (.invokevirtual 26, 3) := by decide +kernel
theorem dX0_keyOf_5 : decode cX0_keyOf 5 = .ok (.ifCond .eq 12, 3) := by decide +kernel
theorem dX0_keyOf_8 : decode cX0_keyOf 8 = .ok (.aload_n 0, 1) := by decide +kernel
theorem dX0_keyOf_9 : decode cX0_keyOf 9 = .ok (.getfield 9, 3) := by decide +kernel
theorem dX0_keyOf_12 : decode cX0_keyOf 12 = .ok (.iload_n 1, 1) := by decide +kernel
theorem dX0_keyOf_13 : decode cX0_keyOf 13 = .ok (.laload, 1) := by decide +kernel
theorem dX0_keyOf_14 : decode cX0_keyOf 14 = .ok (.goto 4, 3) := by decide +kernel
theorem dX0_keyOf_17 : decode cX0_keyOf 17 = .ok (.lconst 0, 1) := by decide +kernel
theorem dX0_keyOf_18 : decode cX0_keyOf 18 = .ok (.lreturn, 1) := by decide +kernel
theorem dX0_valueOf_0 : decode cX0_valueOf 0 = .ok (.aload_n 0, 1) := by decide +kernel
theorem dX0_valueOf_1 : decode cX0_valueOf 1 = .ok (.iload_n 1, 1) := by decide +kernel
theorem dX0_valueOf_2 : decode cX0_valueOf 2 = .ok (.invokevirtual 26, 3) := by decide +kernel
theorem dX0_valueOf_5 : decode cX0_valueOf 5 = .ok (.ifCond .eq 12, 3) := by decide +kernel
theorem dX0_valueOf_8 : decode cX0_valueOf 8 = .ok (.aload_n 0, 1) := by decide +kernel
theorem dX0_valueOf_9 : decode cX0_valueOf 9 = .ok (.getfield 15, 3) := by decide +kernel
theorem dX0_valueOf_12 : decode cX0_valueOf 12 = .ok (.iload_n 1, 1) := by decide +kernel
theorem dX0_valueOf_13 : decode cX0_valueOf 13 = .ok (.laload, 1) := by decide +kernel
theorem dX0_valueOf_14 : decode cX0_valueOf 14 = .ok (.goto 4, 3) := by decide +kernel
theorem dX0_valueOf_17 : decode cX0_valueOf 17 = .ok (.lconst 0, 1) := by decide +kernel
theorem dX0_valueOf_18 : decode cX0_valueOf 18 = .ok (.lreturn, 1) := by decide +kernel
theorem dX0_isMark_0 : decode cX0_isMark 0 = .ok (.aload_n 0, 1) := by decide +kernel
theorem dX0_isMark_1 : decode cX0_isMark 1 = .ok (.iload_n 1, 1) := by decide +kernel
theorem dX0_isMark_2 : decode cX0_isMark 2 = .ok (.invokevirtual 26, 3) := by decide +kernel
theorem dX0_isMark_5 : decode cX0_isMark 5 = .ok (.ifCond .eq 16, 3) := by decide +kernel
theorem dX0_isMark_8 : decode cX0_isMark 8 = .ok (.aload_n 0, 1) := by decide +kernel
theorem dX0_isMark_9 : decode cX0_isMark 9 = .ok (.getfield 18, 3) := by decide +kernel
theorem dX0_isMark_12 : decode cX0_isMark 12 = .ok (.iload_n 1, 1) := by decide +kernel
theorem dX0_isMark_13 : decode cX0_isMark 13 = .ok (.baload, 1) := by decide +kernel
theorem dX0_isMark_14 : decode cX0_isMark 14 = .ok (.ifCond .eq 7, 3) := by decide +kernel
theorem dX0_isMark_17 : decode cX0_isMark 17 = .ok (.iconst 1, 1) := by decide +kernel
theorem dX0_isMark_18 : decode cX0_isMark 18 = .ok (.goto 4, 3) := by decide +kernel
theorem dX0_isMark_21 : decode cX0_isMark 21 = .ok (.iconst 0, 1) := by decide +kernel
theorem dX0_isMark_22 : decode cX0_isMark 22 = .ok (.ireturn, 1) := by decide +kernel
theorem dX0_dueOf_0 : decode cX0_dueOf 0 = .ok (.aload_n 0, 1) := by decide +kernel
theorem dX0_dueOf_1 : decode cX0_dueOf 1 = .ok (.iload_n 1, 1) := by decide +kernel
theorem dX0_dueOf_2 : decode cX0_dueOf 2 = .ok (.invokevirtual 26, 3) := by decide +kernel
theorem dX0_dueOf_5 : decode cX0_dueOf 5 = .ok (.ifCond .eq 12, 3) := by decide +kernel
theorem dX0_dueOf_8 : decode cX0_dueOf 8 = .ok (.aload_n 0, 1) := by decide +kernel
theorem dX0_dueOf_9 : decode cX0_dueOf 9 = .ok (.getfield 22, 3) := by decide +kernel
theorem dX0_dueOf_12 : decode cX0_dueOf 12 = .ok (.iload_n 1, 1) := by decide +kernel
theorem dX0_dueOf_13 : decode cX0_dueOf 13 = .ok (.iaload, 1) := by decide +kernel
theorem dX0_dueOf_14 : decode cX0_dueOf 14 = .ok (.goto 4, 3) := by decide +kernel
theorem dX0_dueOf_17 : decode cX0_dueOf 17 = .ok (.iconst (-1), 1) := by decide +kernel
theorem dX0_dueOf_18 : decode cX0_dueOf 18 = .ok (.ireturn, 1) := by decide +kernel
theorem dX0_setDue_0 : decode cX0_setDue 0 = .ok (.aload_n 0, 1) := by decide +kernel
theorem dX0_setDue_1 : decode cX0_setDue 1 = .ok (.iload_n 1, 1) := by decide +kernel
theorem dX0_setDue_2 : decode cX0_setDue 2 = .ok (.invokevirtual 26, 3) := by decide +kernel
theorem dX0_setDue_5 : decode cX0_setDue 5 = .ok (.ifCond .eq 10, 3) := by decide +kernel
theorem dX0_setDue_8 : decode cX0_setDue 8 = .ok (.aload_n 0, 1) := by decide +kernel
theorem dX0_setDue_9 : decode cX0_setDue 9 = .ok (.getfield 22, 3) := by decide +kernel
theorem dX0_setDue_12 : decode cX0_setDue 12 = .ok (.iload_n 1, 1) := by decide +kernel
theorem dX0_setDue_13 : decode cX0_setDue 13 = .ok (.iload_n 2, 1) := by decide +kernel
theorem dX0_setDue_14 : decode cX0_setDue 14 = .ok (.iastore, 1) := by decide +kernel
theorem dX0_setDue_15 : decode cX0_setDue 15 = .ok (.return_, 1) := by decide +kernel
theorem dX0_mayHave_0 : decode cX0_mayHave 0 = .ok (.iload_n 1, 1) := by decide +kernel
theorem dX0_mayHave_1 : decode cX0_mayHave 1 = .ok (.ifCond .lt 14, 3) := by decide +kernel
theorem dX0_mayHave_4 : decode cX0_mayHave 4 = .ok (.iload_n 1, 1) := by decide +kernel
theorem dX0_mayHave_5 : decode cX0_mayHave 5 = .ok (.sipush 300, 3) := by decide +kernel
theorem dX0_mayHave_8 : decode cX0_mayHave 8 = .ok (.if_icmp .ge 7, 3) := by decide +kernel
theorem dX0_mayHave_11 : decode cX0_mayHave 11 = .ok (.iconst 1, 1) := by decide +kernel
theorem dX0_mayHave_12 : decode cX0_mayHave 12 = .ok (.goto 4, 3) := by decide +kernel
theorem dX0_mayHave_15 : decode cX0_mayHave 15 = .ok (.iconst 0, 1) := by decide +kernel
theorem dX0_mayHave_16 : decode cX0_mayHave 16 = .ok (.ireturn, 1) := by decide +kernel
theorem dX1_init_0 : decode cX1_init 0 = .ok (.aload_n 0, 1) := by decide +kernel
theorem dX1_init_1 : decode cX1_init 1 = .ok (.invokespecial 3, 3) := by decide +kernel
theorem dX1_init_4 : decode cX1_init 4 = .ok (.aload_n 0, 1) := by decide +kernel
theorem dX1_init_5 : decode cX1_init 5 = .ok (.bipush 8, 2) := by decide +kernel
theorem dX1_init_7 : decode cX1_init 7 = .ok (.newarray .long, 2) := by decide +kernel
theorem dX1_init_9 : decode cX1_init 9 = .ok (.putfield 9, 3) := by decide +kernel
theorem dX1_init_12 : decode cX1_init 12 = .ok (.aload_n 0, 1) := by decide +kernel
theorem dX1_init_13 : decode cX1_init 13 = .ok (.bipush 8, 2) := by decide +kernel
theorem dX1_init_15 : decode cX1_init 15 = .ok (.newarray .long, 2) := by decide +kernel
theorem dX1_init_17 : decode cX1_init 17 = .ok (.putfield 15, 3) := by decide +kernel
theorem dX1_init_20 : decode cX1_init 20 = .ok (.aload_n 0, 1) := by decide +kernel
theorem dX1_init_21 : decode cX1_init 21 = .ok (.bipush 8, 2) := by decide +kernel
theorem dX1_init_23 : decode cX1_init 23 = .ok (.newarray .int, 2) := by decide +kernel
theorem dX1_init_25 : decode cX1_init 25 = .ok (.putfield 18, 3) := by decide +kernel
theorem dX1_init_28 : decode cX1_init 28 = .ok (.aload_n 0, 1) := by decide +kernel
theorem dX1_init_29 : decode cX1_init 29 = .ok (.iconst 0, 1) := by decide +kernel
theorem dX1_init_30 : decode cX1_init 30 = .ok (.putfield 22, 3) := by decide +kernel
theorem dX1_init_33 : decode cX1_init 33 = .ok (.return_, 1) := by decide +kernel
theorem dX1_endOf_0 : decode cX1_endOf 0 = .ok (.aload_n 0, 1) := by decide +kernel
theorem dX1_endOf_1 : decode cX1_endOf 1 = .ok (.lload_n 1, 1) := by decide +kernel
theorem dX1_endOf_2 : decode cX1_endOf 2 = .ok (.invokevirtual 26, 3) := by decide +kernel
theorem dX1_endOf_5 : decode cX1_endOf 5 = .ok (.istore_n 3, 1) := by decide +kernel
theorem dX1_endOf_6 : decode cX1_endOf 6 = .ok (.iload_n 3, 1) := by decide +kernel
theorem dX1_endOf_7 : decode cX1_endOf 7 = .ok (.iconst (-1), 1) := by decide +kernel
theorem dX1_endOf_8 : decode cX1_endOf 8 = .ok (.if_icmp .ne 7, 3) := by decide +kernel
theorem dX1_endOf_11 : decode cX1_endOf 11 = .ok (.iconst (-1), 1) := by decide +kernel
theorem dX1_endOf_12 : decode cX1_endOf 12 = .ok (.goto 9, 3) := by decide +kernel
theorem dX1_endOf_15 : decode cX1_endOf 15 = .ok (.aload_n 0, 1) := by decide +kernel
theorem dX1_endOf_16 : decode cX1_endOf 16 = .ok (.getfield 18, 3) := by decide +kernel
theorem dX1_endOf_19 : decode cX1_endOf 19 = .ok (.iload_n 3, 1) := by decide +kernel
theorem dX1_endOf_20 : decode cX1_endOf 20 = .ok (.iaload, 1) := by decide +kernel
theorem dX1_endOf_21 : decode cX1_endOf 21 = .ok (.ireturn, 1) := by decide +kernel
theorem dX1_valueOf_0 : decode cX1_valueOf 0 = .ok (.aload_n 0, 1) := by decide +kernel
theorem dX1_valueOf_1 : decode cX1_valueOf 1 = .ok (.lload_n 1, 1) := by decide +kernel
theorem dX1_valueOf_2 : decode cX1_valueOf 2 = .ok (.invokevirtual 26, 3) := by decide +kernel
theorem dX1_valueOf_5 : decode cX1_valueOf 5 = .ok (.istore_n 3, 1) := by decide +kernel
theorem dX1_valueOf_6 : decode cX1_valueOf 6 = .ok (.iload_n 3, 1) := by decide +kernel
theorem dX1_valueOf_7 : decode cX1_valueOf 7 = .ok (.iconst (-1), 1) := by decide +kernel
theorem dX1_valueOf_8 : decode cX1_valueOf 8 = .ok (.if_icmp .ne 7, 3) := by decide +kernel
theorem dX1_valueOf_11 : decode cX1_valueOf 11 = .ok (.lconst 0, 1) := by decide +kernel
theorem dX1_valueOf_12 : decode cX1_valueOf 12 = .ok (.goto 9, 3) := by decide +kernel
theorem dX1_valueOf_15 : decode cX1_valueOf 15 = .ok (.aload_n 0, 1) := by decide +kernel
theorem dX1_valueOf_16 : decode cX1_valueOf 16 = .ok (.getfield 15, 3) := by decide +kernel
theorem dX1_valueOf_19 : decode cX1_valueOf 19 = .ok (.iload_n 3, 1) := by decide +kernel
theorem dX1_valueOf_20 : decode cX1_valueOf 20 = .ok (.laload, 1) := by decide +kernel
theorem dX1_valueOf_21 : decode cX1_valueOf 21 = .ok (.lreturn, 1) := by decide +kernel
theorem dX1_keep_0 : decode cX1_keep 0 = .ok (.aload_n 0, 1) := by decide +kernel
theorem dX1_keep_1 : decode cX1_keep 1 = .ok (.lload_n 1, 1) := by decide +kernel
theorem dX1_keep_2 : decode cX1_keep 2 = .ok (.invokevirtual 30, 3) := by decide +kernel
theorem dX1_keep_5 : decode cX1_keep 5 = .ok (.istore 6, 2) := by decide +kernel
theorem dX1_keep_7 : decode cX1_keep 7 = .ok (.iload 6, 2) := by decide +kernel
theorem dX1_keep_9 : decode cX1_keep 9 = .ok (.ifCond .lt 35, 3) := by decide +kernel
theorem dX1_keep_12 : decode cX1_keep 12 = .ok (.iload 6, 2) := by decide +kernel
theorem dX1_keep_14 : decode cX1_keep 14 = .ok (.bipush 8, 2) := by decide +kernel
theorem dX1_keep_16 : decode cX1_keep 16 = .ok (.if_icmp .ge 28, 3) := by decide +kernel
theorem dX1_keep_19 : decode cX1_keep 19 = .ok (.aload_n 0, 1) := by decide +kernel
theorem dX1_keep_20 : decode cX1_keep 20 = .ok (.getfield 9, 3) := by decide +kernel
theorem dX1_keep_23 : decode cX1_keep 23 = .ok (.iload 6, 2) := by decide +kernel
theorem dX1_keep_25 : decode cX1_keep 25 = .ok (.lload_n 1, 1) := by decide +kernel
theorem dX1_keep_26 : decode cX1_keep 26 = .ok (.lastore, 1) := by decide +kernel
theorem dX1_keep_27 : decode cX1_keep 27 = .ok (.aload_n 0, 1) := by decide +kernel
theorem dX1_keep_28 : decode cX1_keep 28 = .ok (.getfield 15, 3) := by decide +kernel
theorem dX1_keep_31 : decode cX1_keep 31 = .ok (.iload 6, 2) := by decide +kernel
theorem dX1_keep_33 : decode cX1_keep 33 = .ok (.lload_n 3, 1) := by decide +kernel
theorem dX1_keep_34 : decode cX1_keep 34 = .ok (.lastore, 1) := by decide +kernel
theorem dX1_keep_35 : decode cX1_keep 35 = .ok (.aload_n 0, 1) := by decide +kernel
theorem dX1_keep_36 : decode cX1_keep 36 = .ok (.getfield 18, 3) := by decide +kernel
theorem dX1_keep_39 : decode cX1_keep 39 = .ok (.iload 6, 2) := by decide +kernel
theorem dX1_keep_41 : decode cX1_keep 41 = .ok (.iload 5, 2) := by decide +kernel
theorem dX1_keep_43 : decode cX1_keep 43 = .ok (.iastore, 1) := by decide +kernel
theorem dX1_keep_44 : decode cX1_keep 44 = .ok (.return_, 1) := by decide +kernel
theorem dX1_forgetAll_0 : decode cX1_forgetAll 0 = .ok (.aload_n 0, 1) := by decide +kernel
theorem dX1_forgetAll_1 : decode cX1_forgetAll 1 = .ok (.iconst 0, 1) := by decide +kernel
theorem dX1_forgetAll_2 : decode cX1_forgetAll 2 = .ok (.putfield 22, 3) := by decide +kernel
theorem dX1_forgetAll_5 : decode cX1_forgetAll 5 = .ok (.return_, 1) := by decide +kernel
theorem dX1_placeFor_0 : decode cX1_placeFor 0 = .ok (.aload_n 0, 1) := by decide +kernel
theorem dX1_placeFor_1 : decode cX1_placeFor 1 = .ok (.lload_n 1, 1) := by decide +kernel
theorem dX1_placeFor_2 : decode cX1_placeFor 2 = .ok (.invokevirtual 26, 3) := by decide +kernel
theorem dX1_placeFor_5 : decode cX1_placeFor 5 = .ok (.istore_n 3, 1) := by decide +kernel
theorem dX1_placeFor_6 : decode cX1_placeFor 6 = .ok (.iload_n 3, 1) := by decide +kernel
theorem dX1_placeFor_7 : decode cX1_placeFor 7 = .ok (.iconst (-1), 1) := by decide +kernel
theorem dX1_placeFor_8 : decode cX1_placeFor 8 = .ok (.if_icmp .eq 5, 3) := by decide +kernel
theorem dX1_placeFor_11 : decode cX1_placeFor 11 = .ok (.iload_n 3, 1) := by decide +kernel
theorem dX1_placeFor_12 : decode cX1_placeFor 12 = .ok (.ireturn, 1) := by decide +kernel
theorem dX1_placeFor_13 : decode cX1_placeFor 13 = .ok (.aload_n 0, 1) := by decide +kernel
theorem dX1_placeFor_14 : decode cX1_placeFor 14 = .ok (.getfield 22, 3) := by decide +kernel
theorem dX1_placeFor_17 : decode cX1_placeFor 17 = .ok (.bipush 8, 2) := by decide +kernel
theorem dX1_placeFor_19 : decode cX1_placeFor 19 = .ok (.if_icmp .lt 8, 3) := by decide +kernel
theorem dX1_placeFor_22 : decode cX1_placeFor 22 = .ok (.aload_n 0, 1) := by decide +kernel
theorem dX1_placeFor_23 : decode cX1_placeFor 23 = .ok (.invokevirtual 33, 3) := by decide +kernel
theorem dX1_placeFor_26 : decode cX1_placeFor 26 = .ok (.ireturn, 1) := by decide +kernel
theorem dX1_placeFor_27 : decode cX1_placeFor 27 = .ok (.aload_n 0, 1) := by decide +kernel
theorem dX1_placeFor_28 : decode cX1_placeFor 28 = .ok (.dup, 1) := by decide +kernel
theorem dX1_placeFor_29 : decode cX1_placeFor 29 = .ok (.getfield 22, 3) := by decide +kernel
theorem dX1_placeFor_32 : decode cX1_placeFor 32 = .ok (.iconst 1, 1) := by decide +kernel
theorem dX1_placeFor_33 : decode cX1_placeFor 33 = .ok (.iadd, 1) := by decide +kernel
theorem dX1_placeFor_34 : decode cX1_placeFor 34 = .ok (.putfield 22, 3) := by decide +kernel
theorem dX1_placeFor_37 : decode cX1_placeFor 37 = .ok (.aload_n 0, 1) := by decide +kernel
theorem dX1_placeFor_38 : decode cX1_placeFor 38 = .ok (.getfield 22, 3) := by decide +kernel
theorem dX1_placeFor_41 : decode cX1_placeFor 41 = .ok (.iconst 1, 1) := by decide +kernel
theorem dX1_placeFor_42 : decode cX1_placeFor 42 = .ok (.isub, 1) := by decide +kernel
theorem dX1_placeFor_43 : decode cX1_placeFor 43 = .ok (.ireturn, 1) := by decide +kernel
theorem dX1_firstToGo_0 : decode cX1_firstToGo 0 = .ok (.iconst 0, 1) := by decide +kernel
theorem dX1_firstToGo_1 : decode cX1_firstToGo 1 = .ok (.istore_n 1, 1) := by decide +kernel
theorem dX1_firstToGo_2 : decode cX1_firstToGo 2 = .ok (.iconst 1, 1) := by decide +kernel
theorem dX1_firstToGo_3 : decode cX1_firstToGo 3 = .ok (.istore_n 2, 1) := by decide +kernel
theorem dX1_firstToGo_4 : decode cX1_firstToGo 4 = .ok (.iload_n 2, 1) := by decide +kernel
theorem dX1_firstToGo_5 : decode cX1_firstToGo 5 = .ok (.aload_n 0, 1) := by decide +kernel
theorem dX1_firstToGo_6 : decode cX1_firstToGo 6 = .ok (.getfield 22, 3) := by decide +kernel
theorem dX1_firstToGo_9 : decode cX1_firstToGo 9 = .ok (.if_icmp .ge 67, 3) := by decide +kernel
theorem dX1_firstToGo_12 : decode cX1_firstToGo 12 = .ok (.aload_n 0, 1) := by decide +kernel
theorem dX1_firstToGo_13 : decode cX1_firstToGo 13 = .ok (.getfield 18, 3) := by decide +kernel
theorem dX1_firstToGo_16 : decode cX1_firstToGo 16 = .ok (.iload_n 2, 1) := by decide +kernel
theorem dX1_firstToGo_17 : decode cX1_firstToGo 17 = .ok (.iaload, 1) := by decide +kernel
theorem dX1_firstToGo_18 : decode cX1_firstToGo 18 = .ok (.aload_n 0, 1) := by decide +kernel
theorem dX1_firstToGo_19 : decode cX1_firstToGo 19 = .ok (.getfield 18, 3) := by decide +kernel
theorem dX1_firstToGo_22 : decode cX1_firstToGo 22 = .ok (.iload_n 1, 1) := by decide +kernel
theorem dX1_firstToGo_23 : decode cX1_firstToGo 23 = .ok (.iaload, 1) := by decide +kernel
theorem dX1_firstToGo_24 : decode cX1_firstToGo 24 = .ok (.if_icmp .ge 7, 3) := by decide +kernel
theorem dX1_firstToGo_27 : decode cX1_firstToGo 27 = .ok (.iconst 1, 1) := by decide +kernel
theorem dX1_firstToGo_28 : decode cX1_firstToGo 28 = .ok (.goto 4, 3) := by decide +kernel
theorem dX1_firstToGo_31 : decode cX1_firstToGo 31 = .ok (.iconst 0, 1) := by decide +kernel
theorem dX1_firstToGo_32 : decode cX1_firstToGo 32 = .ok (.istore_n 3, 1) := by decide +kernel
theorem dX1_firstToGo_33 : decode cX1_firstToGo 33 = .ok (.iload_n 3, 1) := by decide +kernel
theorem dX1_firstToGo_34 : decode cX1_firstToGo 34 = .ok (.ifCond .ne 34, 3) := by decide +kernel
theorem dX1_firstToGo_37 : decode cX1_firstToGo 37 = .ok (.aload_n 0, 1) := by decide +kernel
theorem dX1_firstToGo_38 : decode cX1_firstToGo 38 = .ok (.getfield 18, 3) := by decide +kernel
theorem dX1_firstToGo_41 : decode cX1_firstToGo 41 = .ok (.iload_n 2, 1) := by decide +kernel
theorem dX1_firstToGo_42 : decode cX1_firstToGo 42 = .ok (.iaload, 1) := by decide +kernel
theorem dX1_firstToGo_43 : decode cX1_firstToGo 43 = .ok (.aload_n 0, 1) := by decide +kernel
theorem dX1_firstToGo_44 : decode cX1_firstToGo 44 = .ok (.getfield 18, 3) := by decide +kernel
theorem dX1_firstToGo_47 : decode cX1_firstToGo 47 = .ok (.iload_n 1, 1) := by decide +kernel
theorem dX1_firstToGo_48 : decode cX1_firstToGo 48 = .ok (.iaload, 1) := by decide +kernel
theorem dX1_firstToGo_49 : decode cX1_firstToGo 49 = .ok (.if_icmp .ne 21, 3) := by decide +kernel
theorem dX1_firstToGo_52 : decode cX1_firstToGo 52 = .ok (.aload_n 0, 1) := by decide +kernel
theorem dX1_firstToGo_53 : decode cX1_firstToGo 53 = .ok (.getfield 9, 3) := by decide +kernel
theorem dX1_firstToGo_56 : decode cX1_firstToGo 56 = .ok (.iload_n 2, 1) := by decide +kernel
theorem dX1_firstToGo_57 : decode cX1_firstToGo 57 = .ok (.laload, 1) := by decide +kernel
theorem dX1_firstToGo_58 : decode cX1_firstToGo 58 = .ok (.aload_n 0, 1) := by decide +kernel
theorem dX1_firstToGo_59 : decode cX1_firstToGo 59 = .ok (.getfield 9, 3) := by decide +kernel
theorem dX1_firstToGo_62 : decode cX1_firstToGo 62 = .ok (.iload_n 1, 1) := by decide +kernel
theorem dX1_firstToGo_63 : decode cX1_firstToGo 63 = .ok (.laload, 1) := by decide +kernel
theorem dX1_firstToGo_64 : decode cX1_firstToGo 64 = .ok (.lcmp, 1) := by decide +kernel
theorem dX1_firstToGo_65 : decode cX1_firstToGo 65 = .ok (.ifCond .ge 5, 3) := by decide +kernel
theorem dX1_firstToGo_68 : decode cX1_firstToGo 68 = .ok (.iload_n 2, 1) := by decide +kernel
theorem dX1_firstToGo_69 : decode cX1_firstToGo 69 = .ok (.istore_n 1, 1) := by decide +kernel
theorem dX1_firstToGo_70 : decode cX1_firstToGo 70 = .ok (.iinc 2 1, 3) := by decide +kernel
theorem dX1_firstToGo_73 : decode cX1_firstToGo 73 = .ok (.goto (-69), 3) := by decide +kernel
theorem dX1_firstToGo_76 : decode cX1_firstToGo 76 = .ok (.iload_n 1, 1) := by decide +kernel
theorem dX1_firstToGo_77 : decode cX1_firstToGo 77 = .ok (.ireturn, 1) := by decide +kernel
theorem dX1_find_0 : decode cX1_find 0 = .ok (.iconst 0, 1) := by decide +kernel
theorem dX1_find_1 : decode cX1_find 1 = .ok (.istore_n 3, 1) := by decide +kernel
theorem dX1_find_2 : decode cX1_find 2 = .ok (.iload_n 3, 1) := by decide +kernel
theorem dX1_find_3 : decode cX1_find 3 = .ok (.aload_n 0, 1) := by decide +kernel
theorem dX1_find_4 : decode cX1_find 4 = .ok (.getfield 22, 3) := by decide +kernel
theorem dX1_find_7 : decode cX1_find 7 = .ok (.if_icmp .ge 22, 3) := by decide +kernel
theorem dX1_find_10 : decode cX1_find 10 = .ok (.aload_n 0, 1) := by decide +kernel
theorem dX1_find_11 : decode cX1_find 11 = .ok (.getfield 9, 3) := by decide +kernel
theorem dX1_find_14 : decode cX1_find 14 = .ok (.iload_n 3, 1) := by decide +kernel
theorem dX1_find_15 : decode cX1_find 15 = .ok (.laload, 1) := by decide +kernel
theorem dX1_find_16 : decode cX1_find 16 = .ok (.lload_n 1, 1) := by decide +kernel
theorem dX1_find_17 : decode cX1_find 17 = .ok (.lcmp, 1) := by decide +kernel
theorem dX1_find_18 : decode cX1_find 18 = .ok (.ifCond .ne 5, 3) := by decide +kernel
theorem dX1_find_21 : decode cX1_find 21 = .ok (.iload_n 3, 1) := by decide +kernel
theorem dX1_find_22 : decode cX1_find 22 = .ok (.ireturn, 1) := by decide +kernel
theorem dX1_find_23 : decode cX1_find 23 = .ok (.iinc 3 1, 3) := by decide +kernel
theorem dX1_find_26 : decode cX1_find 26 = .ok (.goto (-24), 3) := by decide +kernel
theorem dX1_find_29 : decode cX1_find 29 = .ok (.iconst (-1), 1) := by decide +kernel
theorem dX1_find_30 : decode cX1_find 30 = .ok (.ireturn, 1) := by decide +kernel
theorem dX2_init_0 : decode cX2_init 0 = .ok (.aload_n 0, 1) := by decide +kernel
theorem dX2_init_1 : decode cX2_init 1 = .ok (.invokespecial 3, 3) := by decide +kernel
theorem dX2_init_4 : decode cX2_init 4 = .ok (.aload_n 0, 1) := by decide +kernel
theorem dX2_init_5 : decode cX2_init 5 = .ok (.bipush 100, 2) := by decide +kernel
theorem dX2_init_7 : decode cX2_init 7 = .ok (.newarray .int, 2) := by decide +kernel
theorem dX2_init_9 : decode cX2_init 9 = .ok (.putfield 9, 3) := by decide +kernel
theorem dX2_init_12 : decode cX2_init 12 = .ok (.aload_n 0, 1) := by decide +kernel
theorem dX2_init_13 : decode cX2_init 13 = .ok (.bipush 100, 2) := by decide +kernel
theorem dX2_init_15 : decode cX2_init 15 = .ok (.newarray .int, 2) := by decide +kernel
theorem dX2_init_17 : decode cX2_init 17 = .ok (.putfield 15, 3) := by decide +kernel
theorem dX2_init_20 : decode cX2_init 20 = .ok (.aload_n 0, 1) := by decide +kernel
theorem dX2_init_21 : decode cX2_init 21 = .ok (.bipush 100, 2) := by decide +kernel
theorem dX2_init_23 : decode cX2_init 23 = .ok (.newarray .long, 2) := by decide +kernel
theorem dX2_init_25 : decode cX2_init 25 = .ok (.putfield 18, 3) := by decide +kernel
theorem dX2_init_28 : decode cX2_init 28 = .ok (.aload_n 0, 1) := by decide +kernel
theorem dX2_init_29 : decode cX2_init 29 = .ok (.iconst 0, 1) := by decide +kernel
theorem dX2_init_30 : decode cX2_init 30 = .ok (.putfield 22, 3) := by decide +kernel
theorem dX2_init_33 : decode cX2_init 33 = .ok (.return_, 1) := by decide +kernel
theorem dX2_has_0 : decode cX2_has 0 = .ok (.iload_n 1, 1) := by decide +kernel
theorem dX2_has_1 : decode cX2_has 1 = .ok (.ifCond .lt 15, 3) := by decide +kernel
theorem dX2_has_4 : decode cX2_has 4 = .ok (.iload_n 1, 1) := by decide +kernel
theorem dX2_has_5 : decode cX2_has 5 = .ok (.aload_n 0, 1) := by decide +kernel
theorem dX2_has_6 : decode cX2_has 6 = .ok (.getfield 22, 3) := by decide +kernel
theorem dX2_has_9 : decode cX2_has 9 = .ok (.if_icmp .ge 7, 3) := by decide +kernel
theorem dX2_has_12 : decode cX2_has 12 = .ok (.iconst 1, 1) := by decide +kernel
theorem dX2_has_13 : decode cX2_has 13 = .ok (.goto 4, 3) := by decide +kernel
theorem dX2_has_16 : decode cX2_has 16 = .ok (.iconst 0, 1) := by decide +kernel
theorem dX2_has_17 : decode cX2_has 17 = .ok (.ireturn, 1) := by decide +kernel
theorem dX2_rowAt_0 : decode cX2_rowAt 0 = .ok (.aload_n 0, 1) := by decide +kernel
theorem dX2_rowAt_1 : decode cX2_rowAt 1 = .ok (.iload_n 1, 1) := by decide +kernel
theorem dX2_rowAt_2 : decode cX2_rowAt 2 = .ok (.invokevirtual 26, 3) := by decide +kernel
theorem dX2_rowAt_5 : decode cX2_rowAt 5 = .ok (.ifCond .eq 12, 3) := by decide +kernel
theorem dX2_rowAt_8 : decode cX2_rowAt 8 = .ok (.aload_n 0, 1) := by decide +kernel
theorem dX2_rowAt_9 : decode cX2_rowAt 9 = .ok (.getfield 9, 3) := by decide +kernel
theorem dX2_rowAt_12 : decode cX2_rowAt 12 = .ok (.iload_n 1, 1) := by decide +kernel
theorem dX2_rowAt_13 : decode cX2_rowAt 13 = .ok (.iaload, 1) := by decide +kernel
theorem dX2_rowAt_14 : decode cX2_rowAt 14 = .ok (.goto 4, 3) := by decide +kernel
theorem dX2_rowAt_17 : decode cX2_rowAt 17 = .ok (.iconst (-1), 1) := by decide +kernel
theorem dX2_rowAt_18 : decode cX2_rowAt 18 = .ok (.ireturn, 1) := by decide +kernel
theorem dX2_causeAt_0 : decode cX2_causeAt 0 = .ok (.aload_n 0, 1) := by decide +kernel
theorem dX2_causeAt_1 : decode cX2_causeAt 1 = .ok (.iload_n 1, 1) := by decide +kernel
theorem dX2_causeAt_2 : decode cX2_causeAt 2 = .ok (.invokevirtual 26, 3) := by decide +kernel
theorem dX2_causeAt_5 : decode cX2_causeAt 5 = .ok (.ifCond .eq 12, 3) := by decide +kernel
theorem dX2_causeAt_8 : decode cX2_causeAt 8 = .ok (.aload_n 0, 1) := by decide +kernel
theorem dX2_causeAt_9 : decode cX2_causeAt 9 = .ok (.getfield 15, 3) := by decide +kernel
theorem dX2_causeAt_12 : decode cX2_causeAt 12 = .ok (.iload_n 1, 1) := by decide +kernel
theorem dX2_causeAt_13 : decode cX2_causeAt 13 = .ok (.iaload, 1) := by decide +kernel
theorem dX2_causeAt_14 : decode cX2_causeAt 14 = .ok (.goto 4, 3) := by decide +kernel
theorem dX2_causeAt_17 : decode cX2_causeAt 17 = .ok (.iconst 0, 1) := by decide +kernel
theorem dX2_causeAt_18 : decode cX2_causeAt 18 = .ok (.ireturn, 1) := by decide +kernel
theorem dX2_valueAt_0 : decode cX2_valueAt 0 = .ok (.aload_n 0, 1) := by decide +kernel
theorem dX2_valueAt_1 : decode cX2_valueAt 1 = .ok (.iload_n 1, 1) := by decide +kernel
theorem dX2_valueAt_2 : decode cX2_valueAt 2 = .ok (.invokevirtual 26, 3) := by decide +kernel
theorem dX2_valueAt_5 : decode cX2_valueAt 5 = .ok (.ifCond .eq 12, 3) := by decide +kernel
theorem dX2_valueAt_8 : decode cX2_valueAt 8 = .ok (.aload_n 0, 1) := by decide +kernel
theorem dX2_valueAt_9 : decode cX2_valueAt 9 = .ok (.getfield 18, 3) := by decide +kernel
theorem dX2_valueAt_12 : decode cX2_valueAt 12 = .ok (.iload_n 1, 1) := by decide +kernel
theorem dX2_valueAt_13 : decode cX2_valueAt 13 = .ok (.laload, 1) := by decide +kernel
theorem dX2_valueAt_14 : decode cX2_valueAt 14 = .ok (.goto 4, 3) := by decide +kernel
theorem dX2_valueAt_17 : decode cX2_valueAt 17 = .ok (.lconst 0, 1) := by decide +kernel
theorem dX2_valueAt_18 : decode cX2_valueAt 18 = .ok (.lreturn, 1) := by decide +kernel
theorem dX2_setOut_0 : decode cX2_setOut 0 = .ok (.aload_n 0, 1) := by decide +kernel
theorem dX2_setOut_1 : decode cX2_setOut 1 = .ok (.getfield 22, 3) := by decide +kernel
theorem dX2_setOut_4 : decode cX2_setOut 4 = .ok (.bipush 100, 2) := by decide +kernel
theorem dX2_setOut_6 : decode cX2_setOut 6 = .ok (.if_icmp .lt 4, 3) := by decide +kernel
theorem dX2_setOut_9 : decode cX2_setOut 9 = .ok (.return_, 1) := by decide +kernel
theorem dX2_setOut_10 : decode cX2_setOut 10 = .ok (.aload_n 0, 1) := by decide +kernel
theorem dX2_setOut_11 : decode cX2_setOut 11 = .ok (.getfield 9, 3) := by decide +kernel
theorem dX2_setOut_14 : decode cX2_setOut 14 = .ok (.aload_n 0, 1) := by decide +kernel
theorem dX2_setOut_15 : decode cX2_setOut 15 = .ok (.getfield 22, 3) := by decide +kernel
theorem dX2_setOut_18 : decode cX2_setOut 18 = .ok (.iload_n 1, 1) := by decide +kernel
theorem dX2_setOut_19 : decode cX2_setOut 19 = .ok (.iastore, 1) := by decide +kernel
theorem dX2_setOut_20 : decode cX2_setOut 20 = .ok (.aload_n 0, 1) := by decide +kernel
theorem dX2_setOut_21 : decode cX2_setOut 21 = .ok (.getfield 15, 3) := by decide +kernel
theorem dX2_setOut_24 : decode cX2_setOut 24 = .ok (.aload_n 0, 1) := by decide +kernel
theorem dX2_setOut_25 : decode cX2_setOut 25 = .ok (.getfield 22, 3) := by decide +kernel
theorem dX2_setOut_28 : decode cX2_setOut 28 = .ok (.iload_n 2, 1) := by decide +kernel
theorem dX2_setOut_29 : decode cX2_setOut 29 = .ok (.iastore, 1) := by decide +kernel
theorem dX2_setOut_30 : decode cX2_setOut 30 = .ok (.aload_n 0, 1) := by decide +kernel
theorem dX2_setOut_31 : decode cX2_setOut 31 = .ok (.getfield 18, 3) := by decide +kernel
theorem dX2_setOut_34 : decode cX2_setOut 34 = .ok (.aload_n 0, 1) := by decide +kernel
theorem dX2_setOut_35 : decode cX2_setOut 35 = .ok (.getfield 22, 3) := by decide +kernel
theorem dX2_setOut_38 : decode cX2_setOut 38 = .ok (.lload_n 3, 1) := by decide +kernel
theorem dX2_setOut_39 : decode cX2_setOut 39 = .ok (.lastore, 1) := by decide +kernel
theorem dX2_setOut_40 : decode cX2_setOut 40 = .ok (.aload_n 0, 1) := by decide +kernel
theorem dX2_setOut_41 : decode cX2_setOut 41 = .ok (.dup, 1) := by decide +kernel
theorem dX2_setOut_42 : decode cX2_setOut 42 = .ok (.getfield 22, 3) := by decide +kernel
theorem dX2_setOut_45 : decode cX2_setOut 45 = .ok (.iconst 1, 1) := by decide +kernel
theorem dX2_setOut_46 : decode cX2_setOut 46 = .ok (.iadd, 1) := by decide +kernel
theorem dX2_setOut_47 : decode cX2_setOut 47 = .ok (.putfield 22, 3) := by decide +kernel
theorem dX2_setOut_50 : decode cX2_setOut 50 = .ok (.return_, 1) := by decide +kernel
theorem dX2_removeAt_0 : decode cX2_removeAt 0 = .ok (.aload_n 0, 1) := by decide +kernel
theorem dX2_removeAt_1 : decode cX2_removeAt 1 = .ok (.iload_n 1, 1) := by decide +kernel
theorem dX2_removeAt_2 : decode cX2_removeAt 2 = .ok (.invokevirtual 26, 3) := by decide +kernel
theorem dX2_removeAt_5 : decode cX2_removeAt 5 = .ok (.ifCond .ne 4, 3) := by decide +kernel
theorem dX2_removeAt_8 : decode cX2_removeAt 8 = .ok (.return_, 1) := by decide +kernel
theorem dX2_removeAt_9 : decode cX2_removeAt 9 = .ok (.aload_n 0, 1) := by decide +kernel
theorem dX2_removeAt_10 : decode cX2_removeAt 10 = .ok (.getfield 22, 3) := by decide +kernel
theorem dX2_removeAt_13 : decode cX2_removeAt 13 = .ok (.iload_n 1, 1) := by decide +kernel
theorem dX2_removeAt_14 : decode cX2_removeAt 14 = .ok (.isub, 1) := by decide +kernel
theorem dX2_removeAt_15 : decode cX2_removeAt 15 = .ok (.iconst 1, 1) := by decide +kernel
theorem dX2_removeAt_16 : decode cX2_removeAt 16 = .ok (.isub, 1) := by decide +kernel
theorem dX2_removeAt_17 : decode cX2_removeAt 17 = .ok (.istore_n 2, 1) := by decide +kernel
theorem dX2_removeAt_18 : decode cX2_removeAt 18 = .ok (.aload_n 0, 1) := by decide +kernel
theorem dX2_removeAt_19 : decode cX2_removeAt 19 = .ok (.getfield 9, 3) := by decide +kernel
theorem dX2_removeAt_22 : decode cX2_removeAt 22 = .ok (.iload_n 1, 1) := by decide +kernel
theorem dX2_removeAt_23 : decode cX2_removeAt 23 = .ok (.iconst 1, 1) := by decide +kernel
theorem dX2_removeAt_24 : decode cX2_removeAt 24 = .ok (.iadd, 1) := by decide +kernel
theorem dX2_removeAt_25 : decode cX2_removeAt 25 = .ok (.aload_n 0, 1) := by decide +kernel
theorem dX2_removeAt_26 : decode cX2_removeAt 26 = .ok (.getfield 9, 3) := by decide +kernel
theorem dX2_removeAt_29 : decode cX2_removeAt 29 = .ok (.iload_n 1, 1) := by decide +kernel
theorem dX2_removeAt_30 : decode cX2_removeAt 30 = .ok (.iload_n 2, 1) := by decide +kernel
theorem dX2_removeAt_31 : decode cX2_removeAt 31 = .ok (.invokestatic 30, 3) := by decide +kernel
theorem dX2_removeAt_34 : decode cX2_removeAt 34 = .ok (.aload_n 0, 1) := by decide +kernel
theorem dX2_removeAt_35 : decode cX2_removeAt 35 = .ok (.getfield 15, 3) := by decide +kernel
theorem dX2_removeAt_38 : decode cX2_removeAt 38 = .ok (.iload_n 1, 1) := by decide +kernel
theorem dX2_removeAt_39 : decode cX2_removeAt 39 = .ok (.iconst 1, 1) := by decide +kernel
theorem dX2_removeAt_40 : decode cX2_removeAt 40 = .ok (.iadd, 1) := by decide +kernel
theorem dX2_removeAt_41 : decode cX2_removeAt 41 = .ok (.aload_n 0, 1) := by decide +kernel
theorem dX2_removeAt_42 : decode cX2_removeAt 42 = .ok (.getfield 15, 3) := by decide +kernel
theorem dX2_removeAt_45 : decode cX2_removeAt 45 = .ok (.iload_n 1, 1) := by decide +kernel
theorem dX2_removeAt_46 : decode cX2_removeAt 46 = .ok (.iload_n 2, 1) := by decide +kernel
theorem dX2_removeAt_47 : decode cX2_removeAt 47 = .ok (.invokestatic 30, 3) := by decide +kernel
theorem dX2_removeAt_50 : decode cX2_removeAt 50 = .ok (.aload_n 0, 1) := by decide +kernel
theorem dX2_removeAt_51 : decode cX2_removeAt 51 = .ok (.getfield 18, 3) := by decide +kernel
theorem dX2_removeAt_54 : decode cX2_removeAt 54 = .ok (.iload_n 1, 1) := by decide +kernel
theorem dX2_removeAt_55 : decode cX2_removeAt 55 = .ok (.iconst 1, 1) := by decide +kernel
theorem dX2_removeAt_56 : decode cX2_removeAt 56 = .ok (.iadd, 1) := by decide +kernel
theorem dX2_removeAt_57 : decode cX2_removeAt 57 = .ok (.aload_n 0, 1) := by decide +kernel
theorem dX2_removeAt_58 : decode cX2_removeAt 58 = .ok (.getfield 18, 3) := by decide +kernel
theorem dX2_removeAt_61 : decode cX2_removeAt 61 = .ok (.iload_n 1, 1) := by decide +kernel
theorem dX2_removeAt_62 : decode cX2_removeAt 62 = .ok (.iload_n 2, 1) := by decide +kernel
theorem dX2_removeAt_63 : decode cX2_removeAt 63 = .ok (.invokestatic 30, 3) := by decide +kernel
theorem dX2_removeAt_66 : decode cX2_removeAt 66 = .ok (.aload_n 0, 1) := by decide +kernel
theorem dX2_removeAt_67 : decode cX2_removeAt 67 = .ok (.dup, 1) := by decide +kernel
theorem dX2_removeAt_68 : decode cX2_removeAt 68 = .ok (.getfield 22, 3) := by decide +kernel
theorem dX2_removeAt_71 : decode cX2_removeAt 71 = .ok (.iconst 1, 1) := by decide +kernel
theorem dX2_removeAt_72 : decode cX2_removeAt 72 = .ok (.isub, 1) := by decide +kernel
theorem dX2_removeAt_73 : decode cX2_removeAt 73 = .ok (.putfield 22, 3) := by decide +kernel
theorem dX2_removeAt_76 : decode cX2_removeAt 76 = .ok (.return_, 1) := by decide +kernel
theorem dX3_init_0 : decode cX3_init 0 = .ok (.aload_n 0, 1) := by decide +kernel
theorem dX3_init_1 : decode cX3_init 1 = .ok (.invokespecial 3, 3) := by decide +kernel
theorem dX3_init_4 : decode cX3_init 4 = .ok (.aload_n 0, 1) := by decide +kernel
theorem dX3_init_5 : decode cX3_init 5 = .ok (.sipush 300, 3) := by decide +kernel
theorem dX3_init_8 : decode cX3_init 8 = .ok (.newarray .int, 2) := by decide +kernel
theorem dX3_init_10 : decode cX3_init 10 = .ok (.putfield 9, 3) := by decide +kernel
theorem dX3_init_13 : decode cX3_init 13 = .ok (.aload_n 0, 1) := by decide +kernel
theorem dX3_init_14 : decode cX3_init 14 = .ok (.sipush 300, 3) := by decide +kernel
theorem dX3_init_17 : decode cX3_init 17 = .ok (.newarray .int, 2) := by decide +kernel
theorem dX3_init_19 : decode cX3_init 19 = .ok (.putfield 15, 3) := by decide +kernel
theorem dX3_init_22 : decode cX3_init 22 = .ok (.return_, 1) := by decide +kernel
theorem dX3_write_0 : decode cX3_write 0 = .ok (.iload_n 1, 1) := by decide +kernel
theorem dX3_write_1 : decode cX3_write 1 = .ok (.ifCond .lt 24, 3) := by decide +kernel
theorem dX3_write_4 : decode cX3_write 4 = .ok (.iload_n 1, 1) := by decide +kernel
theorem dX3_write_5 : decode cX3_write 5 = .ok (.sipush 300, 3) := by decide +kernel
theorem dX3_write_8 : decode cX3_write 8 = .ok (.if_icmp .ge 17, 3) := by decide +kernel
theorem dX3_write_11 : decode cX3_write 11 = .ok (.aload_n 0, 1) := by decide +kernel
theorem dX3_write_12 : decode cX3_write 12 = .ok (.getfield 9, 3) := by decide +kernel
theorem dX3_write_15 : decode cX3_write 15 = .ok (.iload_n 1, 1) := by decide +kernel
theorem dX3_write_16 : decode cX3_write 16 = .ok (.iload_n 2, 1) := by decide +kernel
theorem dX3_write_17 : decode cX3_write 17 = .ok (.iastore, 1) := by decide +kernel
theorem dX3_write_18 : decode cX3_write 18 = .ok (.aload_n 0, 1) := by decide +kernel
theorem dX3_write_19 : decode cX3_write 19 = .ok (.getfield 15, 3) := by decide +kernel
theorem dX3_write_22 : decode cX3_write 22 = .ok (.iload_n 1, 1) := by decide +kernel
theorem dX3_write_23 : decode cX3_write 23 = .ok (.iload_n 3, 1) := by decide +kernel
theorem dX3_write_24 : decode cX3_write 24 = .ok (.iastore, 1) := by decide +kernel
theorem dX3_write_25 : decode cX3_write 25 = .ok (.return_, 1) := by decide +kernel
theorem dX3_itemAt_0 : decode cX3_itemAt 0 = .ok (.iload_n 1, 1) := by decide +kernel
theorem dX3_itemAt_1 : decode cX3_itemAt 1 = .ok (.ifCond .lt 19, 3) := by decide +kernel
theorem dX3_itemAt_4 : decode cX3_itemAt 4 = .ok (.iload_n 1, 1) := by decide +kernel
theorem dX3_itemAt_5 : decode cX3_itemAt 5 = .ok (.sipush 300, 3) := by decide +kernel
theorem dX3_itemAt_8 : decode cX3_itemAt 8 = .ok (.if_icmp .ge 12, 3) := by decide +kernel
theorem dX3_itemAt_11 : decode cX3_itemAt 11 = .ok (.aload_n 0, 1) := by decide +kernel
theorem dX3_itemAt_12 : decode cX3_itemAt 12 = .ok (.getfield 9, 3) := by decide +kernel
theorem dX3_itemAt_15 : decode cX3_itemAt 15 = .ok (.iload_n 1, 1) := by decide +kernel
theorem dX3_itemAt_16 : decode cX3_itemAt 16 = .ok (.iaload, 1) := by decide +kernel
theorem dX3_itemAt_17 : decode cX3_itemAt 17 = .ok (.goto 4, 3) := by decide +kernel
theorem dX3_itemAt_20 : decode cX3_itemAt 20 = .ok (.iconst (-1), 1) := by decide +kernel
theorem dX3_itemAt_21 : decode cX3_itemAt 21 = .ok (.ireturn, 1) := by decide +kernel
theorem dX3_tickAt_0 : decode cX3_tickAt 0 = .ok (.iload_n 1, 1) := by decide +kernel
theorem dX3_tickAt_1 : decode cX3_tickAt 1 = .ok (.ifCond .lt 19, 3) := by decide +kernel
theorem dX3_tickAt_4 : decode cX3_tickAt 4 = .ok (.iload_n 1, 1) := by decide +kernel
theorem dX3_tickAt_5 : decode cX3_tickAt 5 = .ok (.sipush 300, 3) := by decide +kernel
theorem dX3_tickAt_8 : decode cX3_tickAt 8 = .ok (.if_icmp .ge 12, 3) := by decide +kernel
theorem dX3_tickAt_11 : decode cX3_tickAt 11 = .ok (.aload_n 0, 1) := by decide +kernel
theorem dX3_tickAt_12 : decode cX3_tickAt 12 = .ok (.getfield 15, 3) := by decide +kernel
theorem dX3_tickAt_15 : decode cX3_tickAt 15 = .ok (.iload_n 1, 1) := by decide +kernel
theorem dX3_tickAt_16 : decode cX3_tickAt 16 = .ok (.iaload, 1) := by decide +kernel
theorem dX3_tickAt_17 : decode cX3_tickAt 17 = .ok (.goto 4, 3) := by decide +kernel
theorem dX3_tickAt_20 : decode cX3_tickAt 20 = .ok (.iconst (-1), 1) := by decide +kernel
theorem dX3_tickAt_21 : decode cX3_tickAt 21 = .ok (.ireturn, 1) := by decide +kernel
theorem dX4_init_0 : decode cX4_init 0 = .ok (.aload_n 0, 1) := by decide +kernel
theorem dX4_init_1 : decode cX4_init 1 = .ok (.invokespecial 3, 3) := by decide +kernel
theorem dX4_init_4 : decode cX4_init 4 = .ok (.aload_n 0, 1) := by decide +kernel
theorem dX4_init_5 : decode cX4_init 5 = .ok (.sipush 300, 3) := by decide +kernel
theorem dX4_init_8 : decode cX4_init 8 = .ok (.newarray .int, 2) := by decide +kernel
theorem dX4_init_10 : decode cX4_init 10 = .ok (.putfield 9, 3) := by decide +kernel
theorem dX4_init_13 : decode cX4_init 13 = .ok (.aload_n 0, 1) := by decide +kernel
theorem dX4_init_14 : decode cX4_init 14 = .ok (.sipush 300, 3) := by decide +kernel
theorem dX4_init_17 : decode cX4_init 17 = .ok (.newarray .int, 2) := by decide +kernel
theorem dX4_init_19 : decode cX4_init 19 = .ok (.putfield 15, 3) := by decide +kernel
theorem dX4_init_22 : decode cX4_init 22 = .ok (.aload_n 0, 1) := by decide +kernel
theorem dX4_init_23 : decode cX4_init 23 = .ok (.sipush 300, 3) := by decide +kernel
theorem dX4_init_26 : decode cX4_init 26 = .ok (.newarray .int, 2) := by decide +kernel
theorem dX4_init_28 : decode cX4_init 28 = .ok (.putfield 18, 3) := by decide +kernel
theorem dX4_init_31 : decode cX4_init 31 = .ok (.aload_n 0, 1) := by decide +kernel
theorem dX4_init_32 : decode cX4_init 32 = .ok (.sipush 300, 3) := by decide +kernel
theorem dX4_init_35 : decode cX4_init 35 = .ok (.newarray .long, 2) := by decide +kernel
theorem dX4_init_37 : decode cX4_init 37 = .ok (.putfield 21, 3) := by decide +kernel
theorem dX4_init_40 : decode cX4_init 40 = .ok (.aload_n 0, 1) := by decide +kernel
theorem dX4_init_41 : decode cX4_init 41 = .ok (.iconst 0, 1) := by decide +kernel
theorem dX4_init_42 : decode cX4_init 42 = .ok (.putfield 25, 3) := by decide +kernel
theorem dX4_init_45 : decode cX4_init 45 = .ok (.aload_n 0, 1) := by decide +kernel
theorem dX4_init_46 : decode cX4_init 46 = .ok (.iconst 0, 1) := by decide +kernel
theorem dX4_init_47 : decode cX4_init 47 = .ok (.putfield 29, 3) := by decide +kernel
theorem dX4_init_50 : decode cX4_init 50 = .ok (.aload_n 0, 1) := by decide +kernel
theorem dX4_init_51 : decode cX4_init 51 = .ok (.iconst 0, 1) := by decide +kernel
theorem dX4_init_52 : decode cX4_init 52 = .ok (.putfield 32, 3) := by decide +kernel
theorem dX4_init_55 : decode cX4_init 55 = .ok (.aload_n 0, 1) := by decide +kernel
theorem dX4_init_56 : decode cX4_init 56 = .ok (.iconst 0, 1) := by decide +kernel
theorem dX4_init_57 : decode cX4_init 57 = .ok (.putfield 35, 3) := by decide +kernel
theorem dX4_init_60 : decode cX4_init 60 = .ok (.return_, 1) := by decide +kernel
theorem dX4_hasItem_0 : decode cX4_hasItem 0 = .ok (.iload_n 1, 1) := by decide +kernel
theorem dX4_hasItem_1 : decode cX4_hasItem 1 = .ok (.ifCond .lt 15, 3) := by decide +kernel
theorem dX4_hasItem_4 : decode cX4_hasItem 4 = .ok (.iload_n 1, 1) := by decide +kernel
theorem dX4_hasItem_5 : decode cX4_hasItem 5 = .ok (.aload_n 0, 1) := by decide +kernel
theorem dX4_hasItem_6 : decode cX4_hasItem 6 = .ok (.getfield 25, 3) := by decide +kernel
theorem dX4_hasItem_9 : decode cX4_hasItem 9 = .ok (.if_icmp .ge 7, 3) := by decide +kernel
theorem dX4_hasItem_12 : decode cX4_hasItem 12 = .ok (.iconst 1, 1) := by decide +kernel
theorem dX4_hasItem_13 : decode cX4_hasItem 13 = .ok (.goto 4, 3) := by decide +kernel
theorem dX4_hasItem_16 : decode cX4_hasItem 16 = .ok (.iconst 0, 1) := by decide +kernel
theorem dX4_hasItem_17 : decode cX4_hasItem 17 = .ok (.ireturn, 1) := by decide +kernel
theorem dX4_stateOf_0 : decode cX4_stateOf 0 = .ok (.aload_n 0, 1) := by decide +kernel
theorem dX4_stateOf_1 : decode cX4_stateOf 1 = .ok (.iload_n 1, 1) := by decide +kernel
theorem dX4_stateOf_2 : decode cX4_stateOf 2 = .ok (.invokevirtual 38, 3) := by decide +kernel
theorem dX4_stateOf_5 : decode cX4_stateOf 5 = .ok (.ifCond .eq 12, 3) := by decide +kernel
theorem dX4_stateOf_8 : decode cX4_stateOf 8 = .ok (.aload_n 0, 1) := by decide +kernel
theorem dX4_stateOf_9 : decode cX4_stateOf 9 = .ok (.getfield 9, 3) := by decide +kernel
theorem dX4_stateOf_12 : decode cX4_stateOf 12 = .ok (.iload_n 1, 1) := by decide +kernel
theorem dX4_stateOf_13 : decode cX4_stateOf 13 = .ok (.iaload, 1) := by decide +kernel
theorem dX4_stateOf_14 : decode cX4_stateOf 14 = .ok (.goto 4, 3) := by decide +kernel
theorem dX4_stateOf_17 : decode cX4_stateOf 17 = .ok (.iconst (-1), 1) := by decide +kernel
theorem dX4_stateOf_18 : decode cX4_stateOf 18 = .ok (.ireturn, 1) := by decide +kernel
theorem dX4_resultOf_0 : decode cX4_resultOf 0 = .ok (.aload_n 0, 1) := by decide +kernel
theorem dX4_resultOf_1 : decode cX4_resultOf 1 = .ok (.iload_n 1, 1) := by decide +kernel
theorem dX4_resultOf_2 : decode cX4_resultOf 2 = .ok (.invokevirtual 38, 3) := by decide +kernel
theorem dX4_resultOf_5 : decode cX4_resultOf 5 = .ok (.ifCond .eq 12, 3) := by decide +kernel
theorem dX4_resultOf_8 : decode cX4_resultOf 8 = .ok (.aload_n 0, 1) := by decide +kernel
theorem dX4_resultOf_9 : decode cX4_resultOf 9 = .ok (.getfield 15, 3) := by decide +kernel
theorem dX4_resultOf_12 : decode cX4_resultOf 12 = .ok (.iload_n 1, 1) := by decide +kernel
theorem dX4_resultOf_13 : decode cX4_resultOf 13 = .ok (.iaload, 1) := by decide +kernel
theorem dX4_resultOf_14 : decode cX4_resultOf 14 = .ok (.goto 4, 3) := by decide +kernel
theorem dX4_resultOf_17 : decode cX4_resultOf 17 = .ok (.iconst (-1), 1) := by decide +kernel
theorem dX4_resultOf_18 : decode cX4_resultOf 18 = .ok (.ireturn, 1) := by decide +kernel
theorem dX4_triesOf_0 : decode cX4_triesOf 0 = .ok (.aload_n 0, 1) := by decide +kernel
theorem dX4_triesOf_1 : decode cX4_triesOf 1 = .ok (.iload_n 1, 1) := by decide +kernel
theorem dX4_triesOf_2 : decode cX4_triesOf 2 = .ok (.invokevirtual 38, 3) := by decide +kernel
theorem dX4_triesOf_5 : decode cX4_triesOf 5 = .ok (.ifCond .eq 12, 3) := by decide +kernel
theorem dX4_triesOf_8 : decode cX4_triesOf 8 = .ok (.aload_n 0, 1) := by decide +kernel
theorem dX4_triesOf_9 : decode cX4_triesOf 9 = .ok (.getfield 18, 3) := by decide +kernel
theorem dX4_triesOf_12 : decode cX4_triesOf 12 = .ok (.iload_n 1, 1) := by decide +kernel
theorem dX4_triesOf_13 : decode cX4_triesOf 13 = .ok (.iaload, 1) := by decide +kernel
theorem dX4_triesOf_14 : decode cX4_triesOf 14 = .ok (.goto 4, 3) := by decide +kernel
theorem dX4_triesOf_17 : decode cX4_triesOf 17 = .ok (.iconst 0, 1) := by decide +kernel
theorem dX4_triesOf_18 : decode cX4_triesOf 18 = .ok (.ireturn, 1) := by decide +kernel
theorem dX4_valueOf_0 : decode cX4_valueOf 0 = .ok (.aload_n 0, 1) := by decide +kernel
theorem dX4_valueOf_1 : decode cX4_valueOf 1 = .ok (.iload_n 1, 1) := by decide +kernel
theorem dX4_valueOf_2 : decode cX4_valueOf 2 = .ok (.invokevirtual 38, 3) := by decide +kernel
theorem dX4_valueOf_5 : decode cX4_valueOf 5 = .ok (.ifCond .eq 12, 3) := by decide +kernel
theorem dX4_valueOf_8 : decode cX4_valueOf 8 = .ok (.aload_n 0, 1) := by decide +kernel
theorem dX4_valueOf_9 : decode cX4_valueOf 9 = .ok (.getfield 21, 3) := by decide +kernel
theorem dX4_valueOf_12 : decode cX4_valueOf 12 = .ok (.iload_n 1, 1) := by decide +kernel
theorem dX4_valueOf_13 : decode cX4_valueOf 13 = .ok (.laload, 1) := by decide +kernel
theorem dX4_valueOf_14 : decode cX4_valueOf 14 = .ok (.goto 4, 3) := by decide +kernel
theorem dX4_valueOf_17 : decode cX4_valueOf 17 = .ok (.lconst 0, 1) := by decide +kernel
theorem dX4_valueOf_18 : decode cX4_valueOf 18 = .ok (.lreturn, 1) := by decide +kernel
theorem dX4_addRow_0 : decode cX4_addRow 0 = .ok (.aload_n 0, 1) := by decide +kernel
theorem dX4_addRow_1 : decode cX4_addRow 1 = .ok (.getfield 25, 3) := by decide +kernel
theorem dX4_addRow_4 : decode cX4_addRow 4 = .ok (.sipush 300, 3) := by decide +kernel
theorem dX4_addRow_7 : decode cX4_addRow 7 = .ok (.if_icmp .ge 43, 3) := by decide +kernel
theorem dX4_addRow_10 : decode cX4_addRow 10 = .ok (.aload_n 0, 1) := by decide +kernel
theorem dX4_addRow_11 : decode cX4_addRow 11 = .ok (.getfield 9, 3) := by decide +kernel
theorem dX4_addRow_14 : decode cX4_addRow 14 = .ok (.aload_n 0, 1) := by decide +kernel
theorem dX4_addRow_15 : decode cX4_addRow 15 = .ok (.getfield 25, 3) := by decide +kernel
theorem dX4_addRow_18 : decode cX4_addRow 18 = .ok (.iconst 0, 1) := by decide +kernel
theorem dX4_addRow_19 : decode cX4_addRow 19 = .ok (.iastore, 1) := by decide +kernel
theorem dX4_addRow_20 : decode cX4_addRow 20 = .ok (.aload_n 0, 1) := by decide +kernel
theorem dX4_addRow_21 : decode cX4_addRow 21 = .ok (.getfield 15, 3) := by decide +kernel
theorem dX4_addRow_24 : decode cX4_addRow 24 = .ok (.aload_n 0, 1) := by decide +kernel
theorem dX4_addRow_25 : decode cX4_addRow 25 = .ok (.getfield 25, 3) := by decide +kernel
theorem dX4_addRow_28 : decode cX4_addRow 28 = .ok (.iconst (-1), 1) := by decide +kernel
theorem dX4_addRow_29 : decode cX4_addRow 29 = .ok (.iastore, 1) := by decide +kernel
theorem dX4_addRow_30 : decode cX4_addRow 30 = .ok (.aload_n 0, 1) := by decide +kernel
theorem dX4_addRow_31 : decode cX4_addRow 31 = .ok (.dup, 1) := by decide +kernel
theorem dX4_addRow_32 : decode cX4_addRow 32 = .ok (.getfield 25, 3) := by decide +kernel
theorem dX4_addRow_35 : decode cX4_addRow 35 = .ok (.iconst 1, 1) := by decide +kernel
theorem dX4_addRow_36 : decode cX4_addRow 36 = .ok (.iadd, 1) := by decide +kernel
theorem dX4_addRow_37 : decode cX4_addRow 37 = .ok (.putfield 25, 3) := by decide +kernel
theorem dX4_addRow_40 : decode cX4_addRow 40 = .ok (.aload_n 0, 1) := by decide +kernel
theorem dX4_addRow_41 : decode cX4_addRow 41 = .ok (.dup, 1) := by decide +kernel
theorem dX4_addRow_42 : decode cX4_addRow 42 = .ok (.getfield 32, 3) := by decide +kernel
theorem dX4_addRow_45 : decode cX4_addRow 45 = .ok (.iconst 1, 1) := by decide +kernel
theorem dX4_addRow_46 : decode cX4_addRow 46 = .ok (.iadd, 1) := by decide +kernel
theorem dX4_addRow_47 : decode cX4_addRow 47 = .ok (.putfield 32, 3) := by decide +kernel
theorem dX4_addRow_50 : decode cX4_addRow 50 = .ok (.return_, 1) := by decide +kernel
theorem dX4_addMark_0 : decode cX4_addMark 0 = .ok (.aload_n 0, 1) := by decide +kernel
theorem dX4_addMark_1 : decode cX4_addMark 1 = .ok (.getfield 25, 3) := by decide +kernel
theorem dX4_addMark_4 : decode cX4_addMark 4 = .ok (.sipush 300, 3) := by decide +kernel
theorem dX4_addMark_7 : decode cX4_addMark 7 = .ok (.if_icmp .ge 43, 3) := by decide +kernel
theorem dX4_addMark_10 : decode cX4_addMark 10 = .ok (.aload_n 0, 1) := by decide +kernel
theorem dX4_addMark_11 : decode cX4_addMark 11 = .ok (.getfield 9, 3) := by decide +kernel
theorem dX4_addMark_14 : decode cX4_addMark 14 = .ok (.aload_n 0, 1) := by decide +kernel
theorem dX4_addMark_15 : decode cX4_addMark 15 = .ok (.getfield 25, 3) := by decide +kernel
theorem dX4_addMark_18 : decode cX4_addMark 18 = .ok (.iconst 2, 1) := by decide +kernel
theorem dX4_addMark_19 : decode cX4_addMark 19 = .ok (.iastore, 1) := by decide +kernel
theorem dX4_addMark_20 : decode cX4_addMark 20 = .ok (.aload_n 0, 1) := by decide +kernel
theorem dX4_addMark_21 : decode cX4_addMark 21 = .ok (.getfield 15, 3) := by decide +kernel
theorem dX4_addMark_24 : decode cX4_addMark 24 = .ok (.aload_n 0, 1) := by decide +kernel
theorem dX4_addMark_25 : decode cX4_addMark 25 = .ok (.getfield 25, 3) := by decide +kernel
theorem dX4_addMark_28 : decode cX4_addMark 28 = .ok (.iconst 5, 1) := by decide +kernel
theorem dX4_addMark_29 : decode cX4_addMark 29 = .ok (.iastore, 1) := by decide +kernel
theorem dX4_addMark_30 : decode cX4_addMark 30 = .ok (.aload_n 0, 1) := by decide +kernel
theorem dX4_addMark_31 : decode cX4_addMark 31 = .ok (.dup, 1) := by decide +kernel
theorem dX4_addMark_32 : decode cX4_addMark 32 = .ok (.getfield 25, 3) := by decide +kernel
theorem dX4_addMark_35 : decode cX4_addMark 35 = .ok (.iconst 1, 1) := by decide +kernel
theorem dX4_addMark_36 : decode cX4_addMark 36 = .ok (.iadd, 1) := by decide +kernel
theorem dX4_addMark_37 : decode cX4_addMark 37 = .ok (.putfield 25, 3) := by decide +kernel
theorem dX4_addMark_40 : decode cX4_addMark 40 = .ok (.aload_n 0, 1) := by decide +kernel
theorem dX4_addMark_41 : decode cX4_addMark 41 = .ok (.dup, 1) := by decide +kernel
theorem dX4_addMark_42 : decode cX4_addMark 42 = .ok (.getfield 35, 3) := by decide +kernel
theorem dX4_addMark_45 : decode cX4_addMark 45 = .ok (.iconst 1, 1) := by decide +kernel
theorem dX4_addMark_46 : decode cX4_addMark 46 = .ok (.iadd, 1) := by decide +kernel
theorem dX4_addMark_47 : decode cX4_addMark 47 = .ok (.putfield 35, 3) := by decide +kernel
theorem dX4_addMark_50 : decode cX4_addMark 50 = .ok (.return_, 1) := by decide +kernel
theorem dX4_startTrying_0 : decode cX4_startTrying 0 = .ok (.aload_n 0, 1) := by decide +kernel
theorem dX4_startTrying_1 : decode cX4_startTrying 1 = .ok (.iload_n 1, 1) := by decide +kernel
theorem dX4_startTrying_2 : decode cX4_startTrying 2 = .ok (.invokevirtual 38, 3) := by decide +kernel
theorem dX4_startTrying_5 : decode cX4_startTrying 5 = .ok (.ifCond .eq 27, 3) := by decide +kernel
theorem dX4_startTrying_8 : decode cX4_startTrying 8 = .ok (.aload_n 0, 1) := by decide +kernel
theorem dX4_startTrying_9 : decode cX4_startTrying 9 = .ok (.getfield 9, 3) := by decide +kernel
theorem dX4_startTrying_12 : decode cX4_startTrying 12 = .ok (.iload_n 1, 1) := by decide +kernel
theorem dX4_startTrying_13 : decode cX4_startTrying 13 = .ok (.iconst 1, 1) := by decide +kernel
theorem dX4_startTrying_14 : decode cX4_startTrying 14 = .ok (.iastore, 1) := by decide +kernel
theorem dX4_startTrying_15 : decode cX4_startTrying 15 = .ok (.aload_n 0, 1) := by decide +kernel
theorem dX4_startTrying_16 : decode cX4_startTrying 16 = .ok (.getfield 18, 3) := by decide +kernel
theorem dX4_startTrying_19 : decode cX4_startTrying 19 = .ok (.iload_n 1, 1) := by decide +kernel
theorem dX4_startTrying_20 : decode cX4_startTrying 20 = .ok (.iconst 1, 1) := by decide +kernel
theorem dX4_startTrying_21 : decode cX4_startTrying 21 = .ok (.iastore, 1) := by decide +kernel
theorem dX4_startTrying_22 : decode cX4_startTrying 22 = .ok (.aload_n 0, 1) := by decide +kernel
theorem dX4_startTrying_23 : decode cX4_startTrying 23 = .ok (.dup, 1) := by decide +kernel
theorem dX4_startTrying_24 : decode cX4_startTrying 24 = .ok (.getfield 32, 3) := by decide +kernel
theorem dX4_startTrying_27 : decode cX4_startTrying 27 = .ok (.iconst 1, 1) := by decide +kernel
theorem dX4_startTrying_28 : decode cX4_startTrying 28 = .ok (.isub, 1) := by decide +kernel
theorem dX4_startTrying_29 : decode cX4_startTrying 29 = .ok (.putfield 32, 3) := by decide +kernel
theorem dX4_startTrying_32 : decode cX4_startTrying 32 = .ok (.return_, 1) := by decide +kernel
theorem dX4_addTry_0 : decode cX4_addTry 0 = .ok (.aload_n 0, 1) := by decide +kernel
theorem dX4_addTry_1 : decode cX4_addTry 1 = .ok (.iload_n 1, 1) := by decide +kernel
theorem dX4_addTry_2 : decode cX4_addTry 2 = .ok (.invokevirtual 38, 3) := by decide +kernel
theorem dX4_addTry_5 : decode cX4_addTry 5 = .ok (.ifCond .eq 13, 3) := by decide +kernel
theorem dX4_addTry_8 : decode cX4_addTry 8 = .ok (.aload_n 0, 1) := by decide +kernel
theorem dX4_addTry_9 : decode cX4_addTry 9 = .ok (.getfield 18, 3) := by decide +kernel
theorem dX4_addTry_12 : decode cX4_addTry 12 = .ok (.iload_n 1, 1) := by decide +kernel
theorem dX4_addTry_13 : decode cX4_addTry 13 = .ok (.dup2, 1) := by decide +kernel
theorem dX4_addTry_14 : decode cX4_addTry 14 = .ok (.iaload, 1) := by decide +kernel
theorem dX4_addTry_15 : decode cX4_addTry 15 = .ok (.iconst 1, 1) := by decide +kernel
theorem dX4_addTry_16 : decode cX4_addTry 16 = .ok (.iadd, 1) := by decide +kernel
theorem dX4_addTry_17 : decode cX4_addTry 17 = .ok (.iastore, 1) := by decide +kernel
theorem dX4_addTry_18 : decode cX4_addTry 18 = .ok (.return_, 1) := by decide +kernel
theorem dX4_settleRow_0 : decode cX4_settleRow 0 = .ok (.aload_n 0, 1) := by decide +kernel
theorem dX4_settleRow_1 : decode cX4_settleRow 1 = .ok (.iload_n 1, 1) := by decide +kernel
theorem dX4_settleRow_2 : decode cX4_settleRow 2 = .ok (.invokevirtual 38, 3) := by decide +kernel
theorem dX4_settleRow_5 : decode cX4_settleRow 5 = .ok (.ifCond .ne 4, 3) := by decide +kernel
theorem dX4_settleRow_8 : decode cX4_settleRow 8 = .ok (.return_, 1) := by decide +kernel
theorem dX4_settleRow_9 : decode cX4_settleRow 9 = .ok (.aload_n 0, 1) := by decide +kernel
theorem dX4_settleRow_10 : decode cX4_settleRow 10 = .ok (.getfield 9, 3) := by decide +kernel
theorem dX4_settleRow_13 : decode cX4_settleRow 13 = .ok (.iload_n 1, 1) := by decide +kernel
theorem dX4_settleRow_14 : decode cX4_settleRow 14 = .ok (.iaload, 1) := by decide +kernel
theorem dX4_settleRow_15 : decode cX4_settleRow 15 = .ok (.ifCond .ne 13, 3) := by decide +kernel
theorem dX4_settleRow_18 : decode cX4_settleRow 18 = .ok (.aload_n 0, 1) := by decide +kernel
theorem dX4_settleRow_19 : decode cX4_settleRow 19 = .ok (.dup, 1) := by decide +kernel
theorem dX4_settleRow_20 : decode cX4_settleRow 20 = .ok (.getfield 32, 3) := by decide +kernel
theorem dX4_settleRow_23 : decode cX4_settleRow 23 = .ok (.iconst 1, 1) := by decide +kernel
theorem dX4_settleRow_24 : decode cX4_settleRow 24 = .ok (.isub, 1) := by decide +kernel
theorem dX4_settleRow_25 : decode cX4_settleRow 25 = .ok (.putfield 32, 3) := by decide +kernel
theorem dX4_settleRow_28 : decode cX4_settleRow 28 = .ok (.aload_n 0, 1) := by decide +kernel
theorem dX4_settleRow_29 : decode cX4_settleRow 29 = .ok (.getfield 9, 3) := by decide +kernel
theorem dX4_settleRow_32 : decode cX4_settleRow 32 = .ok (.iload_n 1, 1) := by decide +kernel
theorem dX4_settleRow_33 : decode cX4_settleRow 33 = .ok (.iconst 2, 1) := by decide +kernel
theorem dX4_settleRow_34 : decode cX4_settleRow 34 = .ok (.iastore, 1) := by decide +kernel
theorem dX4_settleRow_35 : decode cX4_settleRow 35 = .ok (.aload_n 0, 1) := by decide +kernel
theorem dX4_settleRow_36 : decode cX4_settleRow 36 = .ok (.getfield 15, 3) := by decide +kernel
theorem dX4_settleRow_39 : decode cX4_settleRow 39 = .ok (.iload_n 1, 1) := by decide +kernel
theorem dX4_settleRow_40 : decode cX4_settleRow 40 = .ok (.iload_n 2, 1) := by decide +kernel
theorem dX4_settleRow_41 : decode cX4_settleRow 41 = .ok (.iastore, 1) := by decide +kernel
theorem dX4_settleRow_42 : decode cX4_settleRow 42 = .ok (.aload_n 0, 1) := by decide +kernel
theorem dX4_settleRow_43 : decode cX4_settleRow 43 = .ok (.getfield 21, 3) := by decide +kernel
theorem dX4_settleRow_46 : decode cX4_settleRow 46 = .ok (.iload_n 1, 1) := by decide +kernel
theorem dX4_settleRow_47 : decode cX4_settleRow 47 = .ok (.lload_n 3, 1) := by decide +kernel
theorem dX4_settleRow_48 : decode cX4_settleRow 48 = .ok (.lastore, 1) := by decide +kernel
theorem dX4_settleRow_49 : decode cX4_settleRow 49 = .ok (.aload_n 0, 1) := by decide +kernel
theorem dX4_settleRow_50 : decode cX4_settleRow 50 = .ok (.dup, 1) := by decide +kernel
theorem dX4_settleRow_51 : decode cX4_settleRow 51 = .ok (.getfield 35, 3) := by decide +kernel
theorem dX4_settleRow_54 : decode cX4_settleRow 54 = .ok (.iconst 1, 1) := by decide +kernel
theorem dX4_settleRow_55 : decode cX4_settleRow 55 = .ok (.iadd, 1) := by decide +kernel
theorem dX4_settleRow_56 : decode cX4_settleRow 56 = .ok (.putfield 35, 3) := by decide +kernel
theorem dX4_settleRow_59 : decode cX4_settleRow 59 = .ok (.return_, 1) := by decide +kernel
theorem dX4_goOut_0 : decode cX4_goOut 0 = .ok (.aload_n 0, 1) := by decide +kernel
theorem dX4_goOut_1 : decode cX4_goOut 1 = .ok (.iload_n 1, 1) := by decide +kernel
theorem dX4_goOut_2 : decode cX4_goOut 2 = .ok (.invokevirtual 38, 3) := by decide +kernel
theorem dX4_goOut_5 : decode cX4_goOut 5 = .ok (.ifCond .eq 30, 3) := by decide +kernel
theorem dX4_goOut_8 : decode cX4_goOut 8 = .ok (.aload_n 0, 1) := by decide +kernel
theorem dX4_goOut_9 : decode cX4_goOut 9 = .ok (.getfield 9, 3) := by decide +kernel
theorem dX4_goOut_12 : decode cX4_goOut 12 = .ok (.iload_n 1, 1) := by decide +kernel
theorem dX4_goOut_13 : decode cX4_goOut 13 = .ok (.iconst 3, 1) := by decide +kernel
theorem dX4_goOut_14 : decode cX4_goOut 14 = .ok (.iastore, 1) := by decide +kernel
theorem dX4_goOut_15 : decode cX4_goOut 15 = .ok (.aload_n 0, 1) := by decide +kernel
theorem dX4_goOut_16 : decode cX4_goOut 16 = .ok (.dup, 1) := by decide +kernel
theorem dX4_goOut_17 : decode cX4_goOut 17 = .ok (.getfield 35, 3) := by decide +kernel
theorem dX4_goOut_20 : decode cX4_goOut 20 = .ok (.iconst 1, 1) := by decide +kernel
theorem dX4_goOut_21 : decode cX4_goOut 21 = .ok (.isub, 1) := by decide +kernel
theorem dX4_goOut_22 : decode cX4_goOut 22 = .ok (.putfield 35, 3) := by decide +kernel
theorem dX4_goOut_25 : decode cX4_goOut 25 = .ok (.aload_n 0, 1) := by decide +kernel
theorem dX4_goOut_26 : decode cX4_goOut 26 = .ok (.dup, 1) := by decide +kernel
theorem dX4_goOut_27 : decode cX4_goOut 27 = .ok (.getfield 29, 3) := by decide +kernel
theorem dX4_goOut_30 : decode cX4_goOut 30 = .ok (.iconst 1, 1) := by decide +kernel
theorem dX4_goOut_31 : decode cX4_goOut 31 = .ok (.iadd, 1) := by decide +kernel
theorem dX4_goOut_32 : decode cX4_goOut 32 = .ok (.putfield 29, 3) := by decide +kernel
theorem dX4_goOut_35 : decode cX4_goOut 35 = .ok (.return_, 1) := by decide +kernel
theorem dX4_copyFrom_0 : decode cX4_copyFrom 0 = .ok (.aload_n 0, 1) := by decide +kernel
theorem dX4_copyFrom_1 : decode cX4_copyFrom 1 = .ok (.aload_n 1, 1) := by decide +kernel
theorem dX4_copyFrom_2 : decode cX4_copyFrom 2 = .ok (.invokevirtual 42, 3) := by decide +kernel
theorem dX4_copyFrom_5 : decode cX4_copyFrom 5 = .ok (.aload_n 0, 1) := by decide +kernel
theorem dX4_copyFrom_6 : decode cX4_copyFrom 6 = .ok (.aload_n 1, 1) := by decide +kernel
theorem dX4_copyFrom_7 : decode cX4_copyFrom 7 = .ok (.getfield 25, 3) := by decide +kernel
theorem dX4_copyFrom_10 : decode cX4_copyFrom 10 = .ok (.putfield 25, 3) := by decide +kernel
theorem dX4_copyFrom_13 : decode cX4_copyFrom 13 = .ok (.return_, 1) := by decide +kernel
theorem dX4_goBackTo_0 : decode cX4_goBackTo 0 = .ok (.aload_n 0, 1) := by decide +kernel
theorem dX4_goBackTo_1 : decode cX4_goBackTo 1 = .ok (.aload_n 1, 1) := by decide +kernel
theorem dX4_goBackTo_2 : decode cX4_goBackTo 2 = .ok (.invokevirtual 42, 3) := by decide +kernel
theorem dX4_goBackTo_5 : decode cX4_goBackTo 5 = .ok (.aload_n 1, 1) := by decide +kernel
theorem dX4_goBackTo_6 : decode cX4_goBackTo 6 = .ok (.getfield 25, 3) := by decide +kernel
theorem dX4_goBackTo_9 : decode cX4_goBackTo 9 = .ok (.istore_n 2, 1) := by decide +kernel
theorem dX4_goBackTo_10 : decode cX4_goBackTo 10 = .ok (.iload_n 2, 1) := by decide +kernel
theorem dX4_goBackTo_11 : decode cX4_goBackTo 11 = .ok (.aload_n 0, 1) := by decide +kernel
theorem dX4_goBackTo_12 : decode cX4_goBackTo 12 = .ok (.getfield 25, 3) := by decide +kernel
theorem dX4_goBackTo_15 : decode cX4_goBackTo 15 = .ok (.if_icmp .ge 14, 3) := by decide +kernel
theorem dX4_goBackTo_18 : decode cX4_goBackTo 18 = .ok (.aload_n 0, 1) := by decide +kernel
theorem dX4_goBackTo_19 : decode cX4_goBackTo 19 = .ok (.iload_n 2, 1) := by decide +kernel
theorem dX4_goBackTo_20 : decode cX4_goBackTo 20 = .ok (.invokevirtual 46, 3) := by decide +kernel
theorem dX4_goBackTo_23 : decode cX4_goBackTo 23 = .ok (.iinc 2 1, 3) := by decide +kernel
theorem dX4_goBackTo_26 : decode cX4_goBackTo 26 = .ok (.goto (-16), 3) := by decide +kernel
theorem dX4_goBackTo_29 : decode cX4_goBackTo 29 = .ok (.return_, 1) := by decide +kernel
theorem dX4_becomeGone_0 : decode cX4_becomeGone 0 = .ok (.aload_n 0, 1) := by decide +kernel
theorem dX4_becomeGone_1 : decode cX4_becomeGone 1 = .ok (.iload_n 1, 1) := by decide +kernel
theorem dX4_becomeGone_2 : decode cX4_becomeGone 2 = .ok (.invokevirtual 38, 3) := by decide +kernel
theorem dX4_becomeGone_5 : decode cX4_becomeGone 5 = .ok (.ifCond .eq 31, 3) := by decide +kernel
theorem dX4_becomeGone_8 : decode cX4_becomeGone 8 = .ok (.aload_n 0, 1) := by decide +kernel
theorem dX4_becomeGone_9 : decode cX4_becomeGone 9 = .ok (.getfield 9, 3) := by decide +kernel
theorem dX4_becomeGone_12 : decode cX4_becomeGone 12 = .ok (.iload_n 1, 1) := by decide +kernel
theorem dX4_becomeGone_13 : decode cX4_becomeGone 13 = .ok (.iconst 4, 1) := by decide +kernel
theorem dX4_becomeGone_14 : decode cX4_becomeGone 14 = .ok (.iastore, 1) := by decide +kernel
theorem dX4_becomeGone_15 : decode cX4_becomeGone 15 = .ok (.aload_n 0, 1) := by decide +kernel
theorem dX4_becomeGone_16 : decode cX4_becomeGone 16 = .ok (.getfield 15, 3) := by decide +kernel
theorem dX4_becomeGone_19 : decode cX4_becomeGone 19 = .ok (.iload_n 1, 1) := by decide +kernel
theorem dX4_becomeGone_20 : decode cX4_becomeGone 20 = .ok (.iconst (-1), 1) := by decide +kernel
theorem dX4_becomeGone_21 : decode cX4_becomeGone 21 = .ok (.iastore, 1) := by decide +kernel
theorem dX4_becomeGone_22 : decode cX4_becomeGone 22 = .ok (.aload_n 0, 1) := by decide +kernel
theorem dX4_becomeGone_23 : decode cX4_becomeGone 23 = .ok (.getfield 18, 3) := by decide +kernel
theorem dX4_becomeGone_26 : decode cX4_becomeGone 26 = .ok (.iload_n 1, 1) := by decide +kernel
theorem dX4_becomeGone_27 : decode cX4_becomeGone 27 = .ok (.iconst 0, 1) := by decide +kernel
theorem dX4_becomeGone_28 : decode cX4_becomeGone 28 = .ok (.iastore, 1) := by decide +kernel
theorem dX4_becomeGone_29 : decode cX4_becomeGone 29 = .ok (.aload_n 0, 1) := by decide +kernel
theorem dX4_becomeGone_30 : decode cX4_becomeGone 30 = .ok (.getfield 21, 3) := by decide +kernel
theorem dX4_becomeGone_33 : decode cX4_becomeGone 33 = .ok (.iload_n 1, 1) := by decide +kernel
theorem dX4_becomeGone_34 : decode cX4_becomeGone 34 = .ok (.lconst 0, 1) := by decide +kernel
theorem dX4_becomeGone_35 : decode cX4_becomeGone 35 = .ok (.lastore, 1) := by decide +kernel
theorem dX4_becomeGone_36 : decode cX4_becomeGone 36 = .ok (.return_, 1) := by decide +kernel
theorem dX4_copyItems_0 : decode cX4_copyItems 0 = .ok (.aload_n 1, 1) := by decide +kernel
theorem dX4_copyItems_1 : decode cX4_copyItems 1 = .ok (.getfield 9, 3) := by decide +kernel
theorem dX4_copyItems_4 : decode cX4_copyItems 4 = .ok (.iconst 0, 1) := by decide +kernel
theorem dX4_copyItems_5 : decode cX4_copyItems 5 = .ok (.aload_n 0, 1) := by decide +kernel
theorem dX4_copyItems_6 : decode cX4_copyItems 6 = .ok (.getfield 9, 3) := by decide +kernel
theorem dX4_copyItems_9 : decode cX4_copyItems 9 = .ok (.iconst 0, 1) := by decide +kernel
theorem dX4_copyItems_10 : decode cX4_copyItems 10 = .ok (.sipush 300, 3) := by decide +kernel
theorem dX4_copyItems_13 : decode cX4_copyItems 13 = .ok (.invokestatic 50, 3) := by decide +kernel
theorem dX4_copyItems_16 : decode cX4_copyItems 16 = .ok (.aload_n 1, 1) := by decide +kernel
theorem dX4_copyItems_17 : decode cX4_copyItems 17 = .ok (.getfield 15, 3) := by decide +kernel
theorem dX4_copyItems_20 : decode cX4_copyItems 20 = .ok (.iconst 0, 1) := by decide +kernel
theorem dX4_copyItems_21 : decode cX4_copyItems 21 = .ok (.aload_n 0, 1) := by decide +kernel
theorem dX4_copyItems_22 : decode cX4_copyItems 22 = .ok (.getfield 15, 3) := by decide +kernel
theorem dX4_copyItems_25 : decode cX4_copyItems 25 = .ok (.iconst 0, 1) := by decide +kernel
theorem dX4_copyItems_26 : decode cX4_copyItems 26 = .ok (.sipush 300, 3) := by decide +kernel
theorem dX4_copyItems_29 : decode cX4_copyItems 29 = .ok (.invokestatic 50, 3) := by decide +kernel
theorem dX4_copyItems_32 : decode cX4_copyItems 32 = .ok (.aload_n 1, 1) := by decide +kernel
theorem dX4_copyItems_33 : decode cX4_copyItems 33 = .ok (.getfield 18, 3) := by decide +kernel
theorem dX4_copyItems_36 : decode cX4_copyItems 36 = .ok (.iconst 0, 1) := by decide +kernel
theorem dX4_copyItems_37 : decode cX4_copyItems 37 = .ok (.aload_n 0, 1) := by decide +kernel
theorem dX4_copyItems_38 : decode cX4_copyItems 38 = .ok (.getfield 18, 3) := by decide +kernel
theorem dX4_copyItems_41 : decode cX4_copyItems 41 = .ok (.iconst 0, 1) := by decide +kernel
theorem dX4_copyItems_42 : decode cX4_copyItems 42 = .ok (.sipush 300, 3) := by decide +kernel
theorem dX4_copyItems_45 : decode cX4_copyItems 45 = .ok (.invokestatic 50, 3) := by decide +kernel
theorem dX4_copyItems_48 : decode cX4_copyItems 48 = .ok (.aload_n 1, 1) := by decide +kernel
theorem dX4_copyItems_49 : decode cX4_copyItems 49 = .ok (.getfield 21, 3) := by decide +kernel
theorem dX4_copyItems_52 : decode cX4_copyItems 52 = .ok (.iconst 0, 1) := by decide +kernel
theorem dX4_copyItems_53 : decode cX4_copyItems 53 = .ok (.aload_n 0, 1) := by decide +kernel
theorem dX4_copyItems_54 : decode cX4_copyItems 54 = .ok (.getfield 21, 3) := by decide +kernel
theorem dX4_copyItems_57 : decode cX4_copyItems 57 = .ok (.iconst 0, 1) := by decide +kernel
theorem dX4_copyItems_58 : decode cX4_copyItems 58 = .ok (.sipush 300, 3) := by decide +kernel
theorem dX4_copyItems_61 : decode cX4_copyItems 61 = .ok (.invokestatic 50, 3) := by decide +kernel
theorem dX4_copyItems_64 : decode cX4_copyItems 64 = .ok (.aload_n 0, 1) := by decide +kernel
theorem dX4_copyItems_65 : decode cX4_copyItems 65 = .ok (.aload_n 1, 1) := by decide +kernel
theorem dX4_copyItems_66 : decode cX4_copyItems 66 = .ok (.getfield 29, 3) := by decide +kernel
theorem dX4_copyItems_69 : decode cX4_copyItems 69 = .ok (.putfield 29, 3) := by decide +kernel
theorem dX4_copyItems_72 : decode cX4_copyItems 72 = .ok (.aload_n 0, 1) := by decide +kernel
theorem dX4_copyItems_73 : decode cX4_copyItems 73 = .ok (.aload_n 1, 1) := by decide +kernel
theorem dX4_copyItems_74 : decode cX4_copyItems 74 = .ok (.getfield 32, 3) := by decide +kernel
theorem dX4_copyItems_77 : decode cX4_copyItems 77 = .ok (.putfield 32, 3) := by decide +kernel
theorem dX4_copyItems_80 : decode cX4_copyItems 80 = .ok (.aload_n 0, 1) := by decide +kernel
theorem dX4_copyItems_81 : decode cX4_copyItems 81 = .ok (.aload_n 1, 1) := by decide +kernel
theorem dX4_copyItems_82 : decode cX4_copyItems 82 = .ok (.getfield 35, 3) := by decide +kernel
theorem dX4_copyItems_85 : decode cX4_copyItems 85 = .ok (.putfield 35, 3) := by decide +kernel
theorem dX4_copyItems_88 : decode cX4_copyItems 88 = .ok (.return_, 1) := by decide +kernel
theorem dX5_init_0 : decode cX5_init 0 = .ok (.aload_n 0, 1) := by decide +kernel
theorem dX5_init_1 : decode cX5_init 1 = .ok (.invokespecial 3, 3) := by decide +kernel
theorem dX5_init_4 : decode cX5_init 4 = .ok (.aload_n 0, 1) := by decide +kernel
theorem dX5_init_5 : decode cX5_init 5 = .ok (.bipush 16, 2) := by decide +kernel
theorem dX5_init_7 : decode cX5_init 7 = .ok (.newarray .int, 2) := by decide +kernel
theorem dX5_init_9 : decode cX5_init 9 = .ok (.putfield 9, 3) := by decide +kernel
theorem dX5_init_12 : decode cX5_init 12 = .ok (.aload_n 0, 1) := by decide +kernel
theorem dX5_init_13 : decode cX5_init 13 = .ok (.iconst 0, 1) := by decide +kernel
theorem dX5_init_14 : decode cX5_init 14 = .ok (.putfield 15, 3) := by decide +kernel
theorem dX5_init_17 : decode cX5_init 17 = .ok (.return_, 1) := by decide +kernel
theorem dX5_at_0 : decode cX5_at 0 = .ok (.iload_n 1, 1) := by decide +kernel
theorem dX5_at_1 : decode cX5_at 1 = .ok (.ifCond .lt 20, 3) := by decide +kernel
theorem dX5_at_4 : decode cX5_at 4 = .ok (.iload_n 1, 1) := by decide +kernel
theorem dX5_at_5 : decode cX5_at 5 = .ok (.aload_n 0, 1) := by decide +kernel
theorem dX5_at_6 : decode cX5_at 6 = .ok (.getfield 15, 3) := by decide +kernel
theorem dX5_at_9 : decode cX5_at 9 = .ok (.if_icmp .ge 12, 3) := by decide +kernel
theorem dX5_at_12 : decode cX5_at 12 = .ok (.aload_n 0, 1) := by decide +kernel
theorem dX5_at_13 : decode cX5_at 13 = .ok (.getfield 9, 3) := by decide +kernel
theorem dX5_at_16 : decode cX5_at 16 = .ok (.iload_n 1, 1) := by decide +kernel
theorem dX5_at_17 : decode cX5_at 17 = .ok (.iaload, 1) := by decide +kernel
theorem dX5_at_18 : decode cX5_at 18 = .ok (.goto 4, 3) := by decide +kernel
theorem dX5_at_21 : decode cX5_at 21 = .ok (.iconst (-1), 1) := by decide +kernel
theorem dX5_at_22 : decode cX5_at 22 = .ok (.ireturn, 1) := by decide +kernel
theorem dX5_find_0 : decode cX5_find 0 = .ok (.iconst 0, 1) := by decide +kernel
theorem dX5_find_1 : decode cX5_find 1 = .ok (.istore_n 2, 1) := by decide +kernel
theorem dX5_find_2 : decode cX5_find 2 = .ok (.iload_n 2, 1) := by decide +kernel
theorem dX5_find_3 : decode cX5_find 3 = .ok (.aload_n 0, 1) := by decide +kernel
theorem dX5_find_4 : decode cX5_find 4 = .ok (.getfield 15, 3) := by decide +kernel
theorem dX5_find_7 : decode cX5_find 7 = .ok (.if_icmp .ge 21, 3) := by decide +kernel
theorem dX5_find_10 : decode cX5_find 10 = .ok (.aload_n 0, 1) := by decide +kernel
theorem dX5_find_11 : decode cX5_find 11 = .ok (.getfield 9, 3) := by decide +kernel
theorem dX5_find_14 : decode cX5_find 14 = .ok (.iload_n 2, 1) := by decide +kernel
theorem dX5_find_15 : decode cX5_find 15 = .ok (.iaload, 1) := by decide +kernel
theorem dX5_find_16 : decode cX5_find 16 = .ok (.iload_n 1, 1) := by decide +kernel
theorem dX5_find_17 : decode cX5_find 17 = .ok (.if_icmp .ne 5, 3) := by decide +kernel
theorem dX5_find_20 : decode cX5_find 20 = .ok (.iload_n 2, 1) := by decide +kernel
theorem dX5_find_21 : decode cX5_find 21 = .ok (.ireturn, 1) := by decide +kernel
theorem dX5_find_22 : decode cX5_find 22 = .ok (.iinc 2 1, 3) := by decide +kernel
theorem dX5_find_25 : decode cX5_find 25 = .ok (.goto (-23), 3) := by decide +kernel
theorem dX5_find_28 : decode cX5_find 28 = .ok (.iconst (-1), 1) := by decide +kernel
theorem dX5_find_29 : decode cX5_find 29 = .ok (.ireturn, 1) := by decide +kernel
theorem dX5_append_0 : decode cX5_append 0 = .ok (.aload_n 0, 1) := by decide +kernel
theorem dX5_append_1 : decode cX5_append 1 = .ok (.getfield 15, 3) := by decide +kernel
theorem dX5_append_4 : decode cX5_append 4 = .ok (.bipush 16, 2) := by decide +kernel
theorem dX5_append_6 : decode cX5_append 6 = .ok (.if_icmp .ge 23, 3) := by decide +kernel
theorem dX5_append_9 : decode cX5_append 9 = .ok (.aload_n 0, 1) := by decide +kernel
theorem dX5_append_10 : decode cX5_append 10 = .ok (.getfield 9, 3) := by decide +kernel
theorem dX5_append_13 : decode cX5_append 13 = .ok (.aload_n 0, 1) := by decide +kernel
theorem dX5_append_14 : decode cX5_append 14 = .ok (.getfield 15, 3) := by decide +kernel
theorem dX5_append_17 : decode cX5_append 17 = .ok (.iload_n 1, 1) := by decide +kernel
theorem dX5_append_18 : decode cX5_append 18 = .ok (.iastore, 1) := by decide +kernel
theorem dX5_append_19 : decode cX5_append 19 = .ok (.aload_n 0, 1) := by decide +kernel
theorem dX5_append_20 : decode cX5_append 20 = .ok (.dup, 1) := by decide +kernel
theorem dX5_append_21 : decode cX5_append 21 = .ok (.getfield 15, 3) := by decide +kernel
theorem dX5_append_24 : decode cX5_append 24 = .ok (.iconst 1, 1) := by decide +kernel
theorem dX5_append_25 : decode cX5_append 25 = .ok (.iadd, 1) := by decide +kernel
theorem dX5_append_26 : decode cX5_append 26 = .ok (.putfield 15, 3) := by decide +kernel
theorem dX5_append_29 : decode cX5_append 29 = .ok (.return_, 1) := by decide +kernel
theorem dX5_removeAt_0 : decode cX5_removeAt 0 = .ok (.iload_n 1, 1) := by decide +kernel
theorem dX5_removeAt_1 : decode cX5_removeAt 1 = .ok (.ifCond .lt 11, 3) := by decide +kernel
theorem dX5_removeAt_4 : decode cX5_removeAt 4 = .ok (.iload_n 1, 1) := by decide +kernel
theorem dX5_removeAt_5 : decode cX5_removeAt 5 = .ok (.aload_n 0, 1) := by decide +kernel
theorem dX5_removeAt_6 : decode cX5_removeAt 6 = .ok (.getfield 15, 3) := by decide +kernel
theorem dX5_removeAt_9 : decode cX5_removeAt 9 = .ok (.if_icmp .lt 4, 3) := by decide +kernel
theorem dX5_removeAt_12 : decode cX5_removeAt 12 = .ok (.return_, 1) := by decide +kernel
theorem dX5_removeAt_13 : decode cX5_removeAt 13 = .ok (.aload_n 0, 1) := by decide +kernel
theorem dX5_removeAt_14 : decode cX5_removeAt 14 = .ok (.getfield 15, 3) := by decide +kernel
theorem dX5_removeAt_17 : decode cX5_removeAt 17 = .ok (.iload_n 1, 1) := by decide +kernel
theorem dX5_removeAt_18 : decode cX5_removeAt 18 = .ok (.isub, 1) := by decide +kernel
theorem dX5_removeAt_19 : decode cX5_removeAt 19 = .ok (.iconst 1, 1) := by decide +kernel
theorem dX5_removeAt_20 : decode cX5_removeAt 20 = .ok (.isub, 1) := by decide +kernel
theorem dX5_removeAt_21 : decode cX5_removeAt 21 = .ok (.istore_n 2, 1) := by decide +kernel
theorem dX5_removeAt_22 : decode cX5_removeAt 22 = .ok (.aload_n 0, 1) := by decide +kernel
theorem dX5_removeAt_23 : decode cX5_removeAt 23 = .ok (.getfield 9, 3) := by decide +kernel
theorem dX5_removeAt_26 : decode cX5_removeAt 26 = .ok (.iload_n 1, 1) := by decide +kernel
theorem dX5_removeAt_27 : decode cX5_removeAt 27 = .ok (.iconst 1, 1) := by decide +kernel
theorem dX5_removeAt_28 : decode cX5_removeAt 28 = .ok (.iadd, 1) := by decide +kernel
theorem dX5_removeAt_29 : decode cX5_removeAt 29 = .ok (.aload_n 0, 1) := by decide +kernel
theorem dX5_removeAt_30 : decode cX5_removeAt 30 = .ok (.getfield 9, 3) := by decide +kernel
theorem dX5_removeAt_33 : decode cX5_removeAt 33 = .ok (.iload_n 1, 1) := by decide +kernel
theorem dX5_removeAt_34 : decode cX5_removeAt 34 = .ok (.iload_n 2, 1) := by decide +kernel
theorem dX5_removeAt_35 : decode cX5_removeAt 35 = .ok (.invokestatic 19, 3) := by decide +kernel
theorem dX5_removeAt_38 : decode cX5_removeAt 38 = .ok (.aload_n 0, 1) := by decide +kernel
theorem dX5_removeAt_39 : decode cX5_removeAt 39 = .ok (.dup, 1) := by decide +kernel
theorem dX5_removeAt_40 : decode cX5_removeAt 40 = .ok (.getfield 15, 3) := by decide +kernel
theorem dX5_removeAt_43 : decode cX5_removeAt 43 = .ok (.iconst 1, 1) := by decide +kernel
theorem dX5_removeAt_44 : decode cX5_removeAt 44 = .ok (.isub, 1) := by decide +kernel
theorem dX5_removeAt_45 : decode cX5_removeAt 45 = .ok (.putfield 15, 3) := by decide +kernel
theorem dX5_removeAt_48 : decode cX5_removeAt 48 = .ok (.return_, 1) := by decide +kernel
theorem dX5_clear_0 : decode cX5_clear 0 = .ok (.aload_n 0, 1) := by decide +kernel
theorem dX5_clear_1 : decode cX5_clear 1 = .ok (.iconst 0, 1) := by decide +kernel
theorem dX5_clear_2 : decode cX5_clear 2 = .ok (.putfield 15, 3) := by decide +kernel
theorem dX5_clear_5 : decode cX5_clear 5 = .ok (.return_, 1) := by decide +kernel
theorem dX6_init_0 : decode cX6_init 0 = .ok (.aload_n 0, 1) := by decide +kernel
theorem dX6_init_1 : decode cX6_init 1 = .ok (.invokespecial 3, 3) := by decide +kernel
theorem dX6_init_4 : decode cX6_init 4 = .ok (.aload_n 0, 1) := by decide +kernel
theorem dX6_init_5 : decode cX6_init 5 = .ok (.sipush 300, 3) := by decide +kernel
theorem dX6_init_8 : decode cX6_init 8 = .ok (.newarray .long, 2) := by decide +kernel
theorem dX6_init_10 : decode cX6_init 10 = .ok (.putfield 9, 3) := by decide +kernel
theorem dX6_init_13 : decode cX6_init 13 = .ok (.aload_n 0, 1) := by decide +kernel
theorem dX6_init_14 : decode cX6_init 14 = .ok (.sipush 300, 3) := by decide +kernel
theorem dX6_init_17 : decode cX6_init 17 = .ok (.newarray .int, 2) := by decide +kernel
theorem dX6_init_19 : decode cX6_init 19 = .ok (.putfield 15, 3) := by decide +kernel
theorem dX6_init_22 : decode cX6_init 22 = .ok (.aload_n 0, 1) := by decide +kernel
theorem dX6_init_23 : decode cX6_init 23 = .ok (.sipush 300, 3) := by decide +kernel
theorem dX6_init_26 : decode cX6_init 26 = .ok (.newarray .long, 2) := by decide +kernel
theorem dX6_init_28 : decode cX6_init 28 = .ok (.putfield 19, 3) := by decide +kernel
theorem dX6_init_31 : decode cX6_init 31 = .ok (.return_, 1) := by decide +kernel
theorem dX6_countOf_0 : decode cX6_countOf 0 = .ok (.iconst 0, 1) := by decide +kernel
theorem dX6_countOf_1 : decode cX6_countOf 1 = .ok (.istore_n 3, 1) := by decide +kernel
theorem dX6_countOf_2 : decode cX6_countOf 2 = .ok (.iconst 0, 1) := by decide +kernel
theorem dX6_countOf_3 : decode cX6_countOf 3 = .ok (.istore 4, 2) := by decide +kernel
theorem dX6_countOf_5 : decode cX6_countOf 5 = .ok (.iload 4, 2) := by decide +kernel
theorem dX6_countOf_7 : decode cX6_countOf 7 = .ok (.sipush 300, 3) := by decide +kernel
theorem dX6_countOf_10 : decode cX6_countOf 10 = .ok (.if_icmp .ge 31, 3) := by decide +kernel
theorem dX6_countOf_13 : decode cX6_countOf 13 = .ok (.aload_n 0, 1) := by decide +kernel
theorem dX6_countOf_14 : decode cX6_countOf 14 = .ok (.getfield 9, 3) := by decide +kernel
theorem dX6_countOf_17 : decode cX6_countOf 17 = .ok (.iload 4, 2) := by decide +kernel
theorem dX6_countOf_19 : decode cX6_countOf 19 = .ok (.laload, 1) := by decide +kernel
theorem dX6_countOf_20 : decode cX6_countOf 20 = .ok (.lload_n 1, 1) := by decide +kernel
theorem dX6_countOf_21 : decode cX6_countOf 21 = .ok (.lcmp, 1) := by decide +kernel
theorem dX6_countOf_22 : decode cX6_countOf 22 = .ok (.ifCond .ne 13, 3) := by decide +kernel
theorem dX6_countOf_25 : decode cX6_countOf 25 = .ok (.iload_n 3, 1) := by decide +kernel
theorem dX6_countOf_26 : decode cX6_countOf 26 = .ok (.aload_n 0, 1) := by decide +kernel
theorem dX6_countOf_27 : decode cX6_countOf 27 = .ok (.getfield 15, 3) := by decide +kernel
theorem dX6_countOf_30 : decode cX6_countOf 30 = .ok (.iload 4, 2) := by decide +kernel
theorem dX6_countOf_32 : decode cX6_countOf 32 = .ok (.iaload, 1) := by decide +kernel
theorem dX6_countOf_33 : decode cX6_countOf 33 = .ok (.iadd, 1) := by decide +kernel
theorem dX6_countOf_34 : decode cX6_countOf 34 = .ok (.istore_n 3, 1) := by decide +kernel
theorem dX6_countOf_35 : decode cX6_countOf 35 = .ok (.iinc 4 1, 3) := by decide +kernel
theorem dX6_countOf_38 : decode cX6_countOf 38 = .ok (.goto (-33), 3) := by decide +kernel
theorem dX6_countOf_41 : decode cX6_countOf 41 = .ok (.iload_n 3, 1) := by decide +kernel
theorem dX6_countOf_42 : decode cX6_countOf 42 = .ok (.ireturn, 1) := by decide +kernel
theorem dX6_answerTo_0 : decode cX6_answerTo 0 = .ok (.iload_n 1, 1) := by decide +kernel
theorem dX6_answerTo_1 : decode cX6_answerTo 1 = .ok (.ifCond .lt 19, 3) := by decide +kernel
theorem dX6_answerTo_4 : decode cX6_answerTo 4 = .ok (.iload_n 1, 1) := by decide +kernel
theorem dX6_answerTo_5 : decode cX6_answerTo 5 = .ok (.sipush 300, 3) := by decide +kernel
theorem dX6_answerTo_8 : decode cX6_answerTo 8 = .ok (.if_icmp .ge 12, 3) := by decide +kernel
theorem dX6_answerTo_11 : decode cX6_answerTo 11 = .ok (.aload_n 0, 1) := by decide +kernel
theorem dX6_answerTo_12 : decode cX6_answerTo 12 = .ok (.getfield 19, 3) := by decide +kernel
theorem dX6_answerTo_15 : decode cX6_answerTo 15 = .ok (.iload_n 1, 1) := by decide +kernel
theorem dX6_answerTo_16 : decode cX6_answerTo 16 = .ok (.laload, 1) := by decide +kernel
theorem dX6_answerTo_17 : decode cX6_answerTo 17 = .ok (.goto 4, 3) := by decide +kernel
theorem dX6_answerTo_20 : decode cX6_answerTo 20 = .ok (.lconst 0, 1) := by decide +kernel
theorem dX6_answerTo_21 : decode cX6_answerTo 21 = .ok (.lreturn, 1) := by decide +kernel
theorem dX6_takeAsk_0 : decode cX6_takeAsk 0 = .ok (.iload_n 1, 1) := by decide +kernel
theorem dX6_takeAsk_1 : decode cX6_takeAsk 1 = .ok (.ifCond .lt 24, 3) := by decide +kernel
theorem dX6_takeAsk_4 : decode cX6_takeAsk 4 = .ok (.iload_n 1, 1) := by decide +kernel
theorem dX6_takeAsk_5 : decode cX6_takeAsk 5 = .ok (.sipush 300, 3) := by decide +kernel
theorem dX6_takeAsk_8 : decode cX6_takeAsk 8 = .ok (.if_icmp .ge 17, 3) := by decide +kernel
theorem dX6_takeAsk_11 : decode cX6_takeAsk 11 = .ok (.iload 6, 2) := by decide +kernel
theorem dX6_takeAsk_13 : decode cX6_takeAsk 13 = .ok (.ifCond .eq 14, 3) := by decide +kernel
theorem dX6_takeAsk_16 : decode cX6_takeAsk 16 = .ok (.aload_n 0, 1) := by decide +kernel
theorem dX6_takeAsk_17 : decode cX6_takeAsk 17 = .ok (.getfield 15, 3) := by decide +kernel
theorem dX6_takeAsk_20 : decode cX6_takeAsk 20 = .ok (.iload_n 1, 1) := by decide +kernel
theorem dX6_takeAsk_21 : decode cX6_takeAsk 21 = .ok (.iaload, 1) := by decide +kernel
theorem dX6_takeAsk_22 : decode cX6_takeAsk 22 = .ok (.ifCond .le 5, 3) := by decide +kernel
theorem dX6_takeAsk_25 : decode cX6_takeAsk 25 = .ok (.iconst 0, 1) := by decide +kernel
theorem dX6_takeAsk_26 : decode cX6_takeAsk 26 = .ok (.ireturn, 1) := by decide +kernel
theorem dX6_takeAsk_27 : decode cX6_takeAsk 27 = .ok (.aload_n 0, 1) := by decide +kernel
theorem dX6_takeAsk_28 : decode cX6_takeAsk 28 = .ok (.getfield 9, 3) := by decide +kernel
theorem dX6_takeAsk_31 : decode cX6_takeAsk 31 = .ok (.iload_n 1, 1) := by decide +kernel
theorem dX6_takeAsk_32 : decode cX6_takeAsk 32 = .ok (.lload_n 2, 1) := by decide +kernel
theorem dX6_takeAsk_33 : decode cX6_takeAsk 33 = .ok (.lastore, 1) := by decide +kernel
theorem dX6_takeAsk_34 : decode cX6_takeAsk 34 = .ok (.aload_n 0, 1) := by decide +kernel
theorem dX6_takeAsk_35 : decode cX6_takeAsk 35 = .ok (.getfield 15, 3) := by decide +kernel
theorem dX6_takeAsk_38 : decode cX6_takeAsk 38 = .ok (.iload_n 1, 1) := by decide +kernel
theorem dX6_takeAsk_39 : decode cX6_takeAsk 39 = .ok (.dup2, 1) := by decide +kernel
theorem dX6_takeAsk_40 : decode cX6_takeAsk 40 = .ok (.iaload, 1) := by decide +kernel
theorem dX6_takeAsk_41 : decode cX6_takeAsk 41 = .ok (.iconst 1, 1) := by decide +kernel
theorem dX6_takeAsk_42 : decode cX6_takeAsk 42 = .ok (.iadd, 1) := by decide +kernel
theorem dX6_takeAsk_43 : decode cX6_takeAsk 43 = .ok (.iastore, 1) := by decide +kernel
theorem dX6_takeAsk_44 : decode cX6_takeAsk 44 = .ok (.aload_n 0, 1) := by decide +kernel
theorem dX6_takeAsk_45 : decode cX6_takeAsk 45 = .ok (.getfield 19, 3) := by decide +kernel
theorem dX6_takeAsk_48 : decode cX6_takeAsk 48 = .ok (.iload_n 1, 1) := by decide +kernel
theorem dX6_takeAsk_49 : decode cX6_takeAsk 49 = .ok (.lload 4, 2) := by decide +kernel
theorem dX6_takeAsk_51 : decode cX6_takeAsk 51 = .ok (.aload_n 0, 1) := by decide +kernel
theorem dX6_takeAsk_52 : decode cX6_takeAsk 52 = .ok (.lload_n 2, 1) := by decide +kernel
theorem dX6_takeAsk_53 : decode cX6_takeAsk 53 = .ok (.invokevirtual 22, 3) := by decide +kernel
theorem dX6_takeAsk_56 : decode cX6_takeAsk 56 = .ok (.i2l, 1) := by decide +kernel
theorem dX6_takeAsk_57 : decode cX6_takeAsk 57 = .ok (.ladd, 1) := by decide +kernel
theorem dX6_takeAsk_58 : decode cX6_takeAsk 58 = .ok (.lastore, 1) := by decide +kernel
theorem dX6_takeAsk_59 : decode cX6_takeAsk 59 = .ok (.iconst 1, 1) := by decide +kernel
theorem dX6_takeAsk_60 : decode cX6_takeAsk 60 = .ok (.ireturn, 1) := by decide +kernel
