theorem dX7_init_0 : decode cX7_init 0 = .ok (.aload_n 0, 1) := by decide +kernel
theorem dX7_init_1 : decode cX7_init 1 = .ok (.invokespecial 1, 3) := by decide +kernel
theorem dX7_init_4 : decode cX7_init 4 = .ok (.aload_n 0, 1) := by decide +kernel
theorem dX7_init_5 : decode cX7_init 5 = .ok (.getstatic 7, 3) := by decide +kernel
theorem dX7_init_8 : decode cX7_init 8 = .ok (.invokevirtual 13, 3) := by decide +kernel
theorem dX7_init_11 : decode cX7_init 11 = .ok (.checkcast 14, 3) := by decide +kernel
theorem dX7_init_14 : decode cX7_init 14 = .ok (.putfield 18, 3) := by decide +kernel
theorem dX7_init_17 : decode cX7_init 17 = .ok (.aload_n 0, 1) := by decide +kernel
theorem dX7_init_18 : decode cX7_init 18 = .ok (.new 21, 3) := by decide +kernel
theorem dX7_init_21 : decode cX7_init 21 = .ok (.dup, 1) := by decide +kernel
theorem dX7_init_22 : decode cX7_init 22 = .ok (.invokespecial 23, 3) := by decide +kernel
theorem dX7_init_25 : decode cX7_init 25 = .ok (.putfield 24, 3) := by decide +kernel
theorem dX7_init_28 : decode cX7_init 28 = .ok (.aload_n 0, 1) := by decide +kernel
theorem dX7_init_29 : decode cX7_init 29 = .ok (.new 28, 3) := by decide +kernel
theorem dX7_init_32 : decode cX7_init 32 = .ok (.dup, 1) := by decide +kernel
theorem dX7_init_33 : decode cX7_init 33 = .ok (.invokespecial 30, 3) := by decide +kernel
theorem dX7_init_36 : decode cX7_init 36 = .ok (.putfield 31, 3) := by decide +kernel
theorem dX7_init_39 : decode cX7_init 39 = .ok (.aload_n 0, 1) := by decide +kernel
theorem dX7_init_40 : decode cX7_init 40 = .ok (.new 28, 3) := by decide +kernel
theorem dX7_init_43 : decode cX7_init 43 = .ok (.dup, 1) := by decide +kernel
theorem dX7_init_44 : decode cX7_init 44 = .ok (.invokespecial 30, 3) := by decide +kernel
theorem dX7_init_47 : decode cX7_init 47 = .ok (.putfield 35, 3) := by decide +kernel
theorem dX7_init_50 : decode cX7_init 50 = .ok (.aload_n 0, 1) := by decide +kernel
theorem dX7_init_51 : decode cX7_init 51 = .ok (.new 38, 3) := by decide +kernel
theorem dX7_init_54 : decode cX7_init 54 = .ok (.dup, 1) := by decide +kernel
theorem dX7_init_55 : decode cX7_init 55 = .ok (.invokespecial 40, 3) := by decide +kernel
theorem dX7_init_58 : decode cX7_init 58 = .ok (.putfield 41, 3) := by decide +kernel
theorem dX7_init_61 : decode cX7_init 61 = .ok (.aload_n 0, 1) := by decide +kernel
theorem dX7_init_62 : decode cX7_init 62 = .ok (.new 45, 3) := by decide +kernel
theorem dX7_init_65 : decode cX7_init 65 = .ok (.dup, 1) := by decide +kernel
theorem dX7_init_66 : decode cX7_init 66 = .ok (.invokespecial 47, 3) := by decide +kernel
theorem dX7_init_69 : decode cX7_init 69 = .ok (.putfield 48, 3) := by decide +kernel
theorem dX7_init_72 : decode cX7_init 72 = .ok (.aload_n 0, 1) := by decide +kernel
theorem dX7_init_73 : decode cX7_init 73 = .ok (.new 45, 3) := by decide +kernel
theorem dX7_init_76 : decode cX7_init 76 = .ok (.dup, 1) := by decide +kernel
theorem dX7_init_77 : decode cX7_init 77 = .ok (.invokespecial 47, 3) := by decide +kernel
theorem dX7_init_80 : decode cX7_init 80 = .ok (.putfield 52, 3) := by decide +kernel
theorem dX7_init_83 : decode cX7_init 83 = .ok (.aload_n 0, 1) := by decide +kernel
theorem dX7_init_84 : decode cX7_init 84 = .ok (.new 45, 3) := by decide +kernel
theorem dX7_init_87 : decode cX7_init 87 = .ok (.dup, 1) := by decide +kernel
theorem dX7_init_88 : decode cX7_init 88 = .ok (.invokespecial 47, 3) := by decide +kernel
theorem dX7_init_91 : decode cX7_init 91 = .ok (.putfield 55, 3) := by decide +kernel
theorem dX7_init_94 : decode cX7_init 94 = .ok (.aload_n 0, 1) := by decide +kernel
theorem dX7_init_95 : decode cX7_init 95 = .ok (.new 58, 3) := by decide +kernel
theorem dX7_init_98 : decode cX7_init 98 = .ok (.dup, 1) := by decide +kernel
theorem dX7_init_99 : decode cX7_init 99 = .ok (.invokespecial 60, 3) := by decide +kernel
theorem dX7_init_102 : decode cX7_init 102 = .ok (.putfield 61, 3) := by decide +kernel
theorem dX7_init_105 : decode cX7_init 105 = .ok (.aload_n 0, 1) := by decide +kernel
theorem dX7_init_106 : decode cX7_init 106 = .ok (.new 58, 3) := by decide +kernel
theorem dX7_init_109 : decode cX7_init 109 = .ok (.dup, 1) := by decide +kernel
theorem dX7_init_110 : decode cX7_init 110 = .ok (.invokespecial 60, 3) := by decide +kernel
theorem dX7_init_113 : decode cX7_init 113 = .ok (.putfield 65, 3) := by decide +kernel
theorem dX7_init_116 : decode cX7_init 116 = .ok (.aload_n 0, 1) := by decide +kernel
theorem dX7_init_117 : decode cX7_init 117 = .ok (.new 68, 3) := by decide +kernel
theorem dX7_init_120 : decode cX7_init 120 = .ok (.dup, 1) := by decide +kernel
theorem dX7_init_121 : decode cX7_init 121 = .ok (.invokespecial 70, 3) := by decide +kernel
theorem dX7_init_124 : decode cX7_init 124 = .ok (.putfield 71, 3) := by decide +kernel
theorem dX7_init_127 : decode cX7_init 127 = .ok (.aload_n 0, 1) := by decide +kernel
theorem dX7_init_128 : decode cX7_init 128 = .ok (.new 75, 3) := by decide +kernel
theorem dX7_init_131 : decode cX7_init 131 = .ok (.dup, 1) := by decide +kernel
theorem dX7_init_132 : decode cX7_init 132 = .ok (.invokespecial 77, 3) := by decide +kernel
theorem dX7_init_135 : decode cX7_init 135 = .ok (.putfield 78, 3) := by decide +kernel
theorem dX7_init_138 : decode cX7_init 138 = .ok (.aload_n 0, 1) := by decide +kernel
theorem dX7_init_139 : decode cX7_init 139 = .ok (.iconst 0, 1) := by decide +kernel
theorem dX7_init_140 : decode cX7_init 140 = .ok (.putfield 82, 3) := by decide +kernel
theorem dX7_init_143 : decode cX7_init 143 = .ok (.aload_n 0, 1) := by decide +kernel
theorem dX7_init_144 : decode cX7_init 144 = .ok (.iconst 0, 1) := by decide +kernel
theorem dX7_init_145 : decode cX7_init 145 = .ok (.putfield 86, 3) := by decide +kernel
theorem dX7_init_148 : decode cX7_init 148 = .ok (.aload_n 0, 1) := by decide +kernel
theorem dX7_init_149 : decode cX7_init 149 = .ok (.iconst 0, 1) := by decide +kernel
theorem dX7_init_150 : decode cX7_init 150 = .ok (.putfield 89, 3) := by decide +kernel
theorem dX7_init_153 : decode cX7_init 153 = .ok (.aload_n 0, 1) := by decide +kernel
theorem dX7_init_154 : decode cX7_init 154 = .ok (.iconst 0, 1) := by decide +kernel
theorem dX7_init_155 : decode cX7_init 155 = .ok (.putfield 92, 3) := by decide +kernel
theorem dX7_init_158 : decode cX7_init 158 = .ok (.aload_n 0, 1) := by decide +kernel
theorem dX7_init_159 : decode cX7_init 159 = .ok (.iconst 1, 1) := by decide +kernel
theorem dX7_init_160 : decode cX7_init 160 = .ok (.bipush 16, 2) := by decide +kernel
theorem dX7_init_162 : decode cX7_init 162 = .ok (.iload_n 1, 1) := by decide +kernel
theorem dX7_init_163 : decode cX7_init 163 = .ok (.invokestatic 95, 3) := by decide +kernel
theorem dX7_init_166 : decode cX7_init 166 = .ok (.invokestatic 101, 3) := by decide +kernel
theorem dX7_init_169 : decode cX7_init 169 = .ok (.putfield 104, 3) := by decide +kernel
theorem dX7_init_172 : decode cX7_init 172 = .ok (.aload_n 0, 1) := by decide +kernel
theorem dX7_init_173 : decode cX7_init 173 = .ok (.iload_n 2, 1) := by decide +kernel
theorem dX7_init_174 : decode cX7_init 174 = .ok (.iconst 1, 1) := by decide +kernel
theorem dX7_init_175 : decode cX7_init 175 = .ok (.iand, 1) := by decide +kernel
theorem dX7_init_176 : decode cX7_init 176 = .ok (.ifCond .eq 7, 3) := by decide +kernel
theorem dX7_init_179 : decode cX7_init 179 = .ok (.iconst 1, 1) := by decide +kernel
theorem dX7_init_180 : decode cX7_init 180 = .ok (.goto 4, 3) := by decide +kernel
theorem dX7_init_183 : decode cX7_init 183 = .ok (.iconst 0, 1) := by decide +kernel
theorem dX7_init_184 : decode cX7_init 184 = .ok (.putfield 107, 3) := by decide +kernel
theorem dX7_init_187 : decode cX7_init 187 = .ok (.return_, 1) := by decide +kernel
theorem dX7_set_0 : decode cX7_set 0 = .ok (.iload_n 1, 1) := by decide +kernel
theorem dX7_set_1 : decode cX7_set 1 = .ok (.ifCond .lt 12, 3) := by decide +kernel
theorem dX7_set_4 : decode cX7_set 4 = .ok (.iload_n 1, 1) := by decide +kernel
theorem dX7_set_5 : decode cX7_set 5 = .ok (.aload_n 0, 1) := by decide +kernel
theorem dX7_set_6 : decode cX7_set 6 = .ok (.getfield 18, 3) := by decide +kernel
theorem dX7_set_9 : decode cX7_set 9 = .ok (.arraylength, 1) := by decide +kernel
theorem dX7_set_10 : decode cX7_set 10 = .ok (.if_icmp .lt 5, 3) := by decide +kernel
theorem dX7_set_13 : decode cX7_set 13 = .ok (.iconst (-1), 1) := by decide +kernel
theorem dX7_set_14 : decode cX7_set 14 = .ok (.ireturn, 1) := by decide +kernel
theorem dX7_set_15 : decode cX7_set 15 = .ok (.iload_n 2, 1) := by decide +kernel
theorem dX7_set_16 : decode cX7_set 16 = .ok (.getstatic 111, 3) := by decide +kernel
theorem dX7_set_19 : decode cX7_set 19 = .ok (.iload_n 1, 1) := by decide +kernel
theorem dX7_set_20 : decode cX7_set 20 = .ok (.iaload, 1) := by decide +kernel
theorem dX7_set_21 : decode cX7_set 21 = .ok (.if_icmp .lt 12, 3) := by decide +kernel
theorem dX7_set_24 : decode cX7_set 24 = .ok (.iload_n 2, 1) := by decide +kernel
theorem dX7_set_25 : decode cX7_set 25 = .ok (.getstatic 114, 3) := by decide +kernel
theorem dX7_set_28 : decode cX7_set 28 = .ok (.iload_n 1, 1) := by decide +kernel
theorem dX7_set_29 : decode cX7_set 29 = .ok (.iaload, 1) := by decide +kernel
theorem dX7_set_30 : decode cX7_set 30 = .ok (.if_icmp .le 5, 3) := by decide +kernel
theorem dX7_set_33 : decode cX7_set 33 = .ok (.iconst (-1), 1) := by decide +kernel
theorem dX7_set_34 : decode cX7_set 34 = .ok (.ireturn, 1) := by decide +kernel
theorem dX7_set_35 : decode cX7_set 35 = .ok (.aload_n 0, 1) := by decide +kernel
theorem dX7_set_36 : decode cX7_set 36 = .ok (.getfield 18, 3) := by decide +kernel
theorem dX7_set_39 : decode cX7_set 39 = .ok (.iload_n 1, 1) := by decide +kernel
theorem dX7_set_40 : decode cX7_set 40 = .ok (.iaload, 1) := by decide +kernel
theorem dX7_set_41 : decode cX7_set 41 = .ok (.istore_n 3, 1) := by decide +kernel
theorem dX7_set_42 : decode cX7_set 42 = .ok (.aload_n 0, 1) := by decide +kernel
theorem dX7_set_43 : decode cX7_set 43 = .ok (.getfield 18, 3) := by decide +kernel
theorem dX7_set_46 : decode cX7_set 46 = .ok (.iload_n 1, 1) := by decide +kernel
theorem dX7_set_47 : decode cX7_set 47 = .ok (.iload_n 2, 1) := by decide +kernel
theorem dX7_set_48 : decode cX7_set 48 = .ok (.iastore, 1) := by decide +kernel
theorem dX7_set_49 : decode cX7_set 49 = .ok (.aload_n 0, 1) := by decide +kernel
theorem dX7_set_50 : decode cX7_set 50 = .ok (.invokevirtual 117, 3) := by decide +kernel
theorem dX7_set_53 : decode cX7_set 53 = .ok (.iload_n 3, 1) := by decide +kernel
theorem dX7_set_54 : decode cX7_set 54 = .ok (.ireturn, 1) := by decide +kernel
theorem dX7_row_0 : decode cX7_row 0 = .ok (.aload_n 0, 1) := by decide +kernel
theorem dX7_row_1 : decode cX7_row 1 = .ok (.getfield 31, 3) := by decide +kernel
theorem dX7_row_4 : decode cX7_row 4 = .ok (.getfield 120, 3) := by decide +kernel
theorem dX7_row_7 : decode cX7_row 7 = .ok (.istore 5, 2) := by decide +kernel
theorem dX7_row_9 : decode cX7_row 9 = .ok (.iload 5, 2) := by decide +kernel
theorem dX7_row_11 : decode cX7_row 11 = .ok (.sipush 300, 3) := by decide +kernel
theorem dX7_row_14 : decode cX7_row 14 = .ok (.if_icmp .lt 6, 3) := by decide +kernel
theorem dX7_row_17 : decode cX7_row 17 = .ok (.bipush (-4), 2) := by decide +kernel
theorem dX7_row_19 : decode cX7_row 19 = .ok (.ireturn, 1) := by decide +kernel
theorem dX7_row_20 : decode cX7_row 20 = .ok (.aload_n 0, 1) := by decide +kernel
theorem dX7_row_21 : decode cX7_row 21 = .ok (.getfield 24, 3) := by decide +kernel
theorem dX7_row_24 : decode cX7_row 24 = .ok (.iload 5, 2) := by decide +kernel
theorem dX7_row_26 : decode cX7_row 26 = .ok (.lload_n 1, 1) := by decide +kernel
theorem dX7_row_27 : decode cX7_row 27 = .ok (.lload_n 3, 1) := by decide +kernel
theorem dX7_row_28 : decode cX7_row 28 = .ok (.invokevirtual 122, 3) := by decide +kernel
theorem dX7_row_31 : decode cX7_row 31 = .ok (.aload_n 0, 1) := by decide +kernel
theorem dX7_row_32 : decode cX7_row 32 = .ok (.getfield 31, 3) := by decide +kernel
theorem dX7_row_35 : decode cX7_row 35 = .ok (.invokevirtual 126, 3) := by decide +kernel
theorem dX7_row_38 : decode cX7_row 38 = .ok (.aload_n 0, 1) := by decide +kernel
theorem dX7_row_39 : decode cX7_row 39 = .ok (.invokevirtual 117, 3) := by decide +kernel
theorem dX7_row_42 : decode cX7_row 42 = .ok (.iload 5, 2) := by decide +kernel
theorem dX7_row_44 : decode cX7_row 44 = .ok (.ireturn, 1) := by decide +kernel
theorem dX7_mark_0 : decode cX7_mark 0 = .ok (.aload_n 0, 1) := by decide +kernel
theorem dX7_mark_1 : decode cX7_mark 1 = .ok (.getfield 31, 3) := by decide +kernel
theorem dX7_mark_4 : decode cX7_mark 4 = .ok (.getfield 120, 3) := by decide +kernel
theorem dX7_mark_7 : decode cX7_mark 7 = .ok (.istore_n 1, 1) := by decide +kernel
theorem dX7_mark_8 : decode cX7_mark 8 = .ok (.iload_n 1, 1) := by decide +kernel
theorem dX7_mark_9 : decode cX7_mark 9 = .ok (.sipush 300, 3) := by decide +kernel
theorem dX7_mark_12 : decode cX7_mark 12 = .ok (.if_icmp .lt 6, 3) := by decide +kernel
theorem dX7_mark_15 : decode cX7_mark 15 = .ok (.bipush (-4), 2) := by decide +kernel
theorem dX7_mark_17 : decode cX7_mark 17 = .ok (.ireturn, 1) := by decide +kernel
theorem dX7_mark_18 : decode cX7_mark 18 = .ok (.aload_n 0, 1) := by decide +kernel
theorem dX7_mark_19 : decode cX7_mark 19 = .ok (.getfield 24, 3) := by decide +kernel
theorem dX7_mark_22 : decode cX7_mark 22 = .ok (.iload_n 1, 1) := by decide +kernel
theorem dX7_mark_23 : decode cX7_mark 23 = .ok (.invokevirtual 129, 3) := by decide +kernel
theorem dX7_mark_26 : decode cX7_mark 26 = .ok (.aload_n 0, 1) := by decide +kernel
theorem dX7_mark_27 : decode cX7_mark 27 = .ok (.getfield 31, 3) := by decide +kernel
theorem dX7_mark_30 : decode cX7_mark 30 = .ok (.invokevirtual 133, 3) := by decide +kernel
theorem dX7_mark_33 : decode cX7_mark 33 = .ok (.aload_n 0, 1) := by decide +kernel
theorem dX7_mark_34 : decode cX7_mark 34 = .ok (.invokevirtual 117, 3) := by decide +kernel
theorem dX7_mark_37 : decode cX7_mark 37 = .ok (.iload_n 1, 1) := by decide +kernel
theorem dX7_mark_38 : decode cX7_mark 38 = .ok (.ireturn, 1) := by decide +kernel
theorem dX7_tick_0 : decode cX7_tick 0 = .ok (.iload_n 1, 1) := by decide +kernel
theorem dX7_tick_1 : decode cX7_tick 1 = .ok (.ifCond .lt 21, 3) := by decide +kernel
theorem dX7_tick_4 : decode cX7_tick 4 = .ok (.iload_n 1, 1) := by decide +kernel
theorem dX7_tick_5 : decode cX7_tick 5 = .ok (.sipush 1000, 3) := by decide +kernel
theorem dX7_tick_8 : decode cX7_tick 8 = .ok (.if_icmp .gt 14, 3) := by decide +kernel
theorem dX7_tick_11 : decode cX7_tick 11 = .ok (.aload_n 0, 1) := by decide +kernel
theorem dX7_tick_12 : decode cX7_tick 12 = .ok (.getfield 82, 3) := by decide +kernel
theorem dX7_tick_15 : decode cX7_tick 15 = .ok (.iload_n 1, 1) := by decide +kernel
theorem dX7_tick_16 : decode cX7_tick 16 = .ok (.iadd, 1) := by decide +kernel
theorem dX7_tick_17 : decode cX7_tick 17 = .ok (.ldc 136, 2) := by decide +kernel
theorem dX7_tick_19 : decode cX7_tick 19 = .ok (.if_icmp .le 5, 3) := by decide +kernel
theorem dX7_tick_22 : decode cX7_tick 22 = .ok (.iconst (-1), 1) := by decide +kernel
theorem dX7_tick_23 : decode cX7_tick 23 = .ok (.ireturn, 1) := by decide +kernel
theorem dX7_tick_24 : decode cX7_tick 24 = .ok (.iconst 0, 1) := by decide +kernel
theorem dX7_tick_25 : decode cX7_tick 25 = .ok (.istore_n 2, 1) := by decide +kernel
theorem dX7_tick_26 : decode cX7_tick 26 = .ok (.iload_n 2, 1) := by decide +kernel
theorem dX7_tick_27 : decode cX7_tick 27 = .ok (.iload_n 1, 1) := by decide +kernel
theorem dX7_tick_28 : decode cX7_tick 28 = .ok (.if_icmp .ge 13, 3) := by decide +kernel
theorem dX7_tick_31 : decode cX7_tick 31 = .ok (.aload_n 0, 1) := by decide +kernel
theorem dX7_tick_32 : decode cX7_tick 32 = .ok (.invokevirtual 137, 3) := by decide +kernel
theorem dX7_tick_35 : decode cX7_tick 35 = .ok (.iinc 2 1, 3) := by decide +kernel
theorem dX7_tick_38 : decode cX7_tick 38 = .ok (.goto (-12), 3) := by decide +kernel
theorem dX7_tick_41 : decode cX7_tick 41 = .ok (.aload_n 0, 1) := by decide +kernel
theorem dX7_tick_42 : decode cX7_tick 42 = .ok (.getfield 82, 3) := by decide +kernel
theorem dX7_tick_45 : decode cX7_tick 45 = .ok (.ireturn, 1) := by decide +kernel
theorem dX7_serve_0 : decode cX7_serve 0 = .ok (.aload_n 0, 1) := by decide +kernel
theorem dX7_serve_1 : decode cX7_serve 1 = .ok (.getfield 61, 3) := by decide +kernel
theorem dX7_serve_4 : decode cX7_serve 4 = .ok (.iload_n 1, 1) := by decide +kernel
theorem dX7_serve_5 : decode cX7_serve 5 = .ok (.invokevirtual 140, 3) := by decide +kernel
theorem dX7_serve_8 : decode cX7_serve 8 = .ok (.ifCond .ne 5, 3) := by decide +kernel
theorem dX7_serve_11 : decode cX7_serve 11 = .ok (.iconst (-1), 1) := by decide +kernel
theorem dX7_serve_12 : decode cX7_serve 12 = .ok (.ireturn, 1) := by decide +kernel
theorem dX7_serve_13 : decode cX7_serve 13 = .ok (.aload_n 0, 1) := by decide +kernel
theorem dX7_serve_14 : decode cX7_serve 14 = .ok (.getfield 61, 3) := by decide +kernel
theorem dX7_serve_17 : decode cX7_serve 17 = .ok (.iload_n 1, 1) := by decide +kernel
theorem dX7_serve_18 : decode cX7_serve 18 = .ok (.invokevirtual 144, 3) := by decide +kernel
theorem dX7_serve_21 : decode cX7_serve 21 = .ok (.istore_n 2, 1) := by decide +kernel
theorem dX7_serve_22 : decode cX7_serve 22 = .ok (.aload_n 0, 1) := by decide +kernel
theorem dX7_serve_23 : decode cX7_serve 23 = .ok (.getfield 61, 3) := by decide +kernel
theorem dX7_serve_26 : decode cX7_serve 26 = .ok (.iload_n 1, 1) := by decide +kernel
theorem dX7_serve_27 : decode cX7_serve 27 = .ok (.invokevirtual 148, 3) := by decide +kernel
theorem dX7_serve_30 : decode cX7_serve 30 = .ok (.aload_n 0, 1) := by decide +kernel
theorem dX7_serve_31 : decode cX7_serve 31 = .ok (.getfield 18, 3) := by decide +kernel
theorem dX7_serve_34 : decode cX7_serve 34 = .ok (.bipush 7, 2) := by decide +kernel
theorem dX7_serve_36 : decode cX7_serve 36 = .ok (.iaload, 1) := by decide +kernel
theorem dX7_serve_37 : decode cX7_serve 37 = .ok (.iconst 1, 1) := by decide +kernel
theorem dX7_serve_38 : decode cX7_serve 38 = .ok (.if_icmp .ne 7, 3) := by decide +kernel
theorem dX7_serve_41 : decode cX7_serve 41 = .ok (.iconst 1, 1) := by decide +kernel
theorem dX7_serve_42 : decode cX7_serve 42 = .ok (.goto 4, 3) := by decide +kernel
theorem dX7_serve_45 : decode cX7_serve 45 = .ok (.iconst 0, 1) := by decide +kernel
theorem dX7_serve_46 : decode cX7_serve 46 = .ok (.istore_n 3, 1) := by decide +kernel
theorem dX7_serve_47 : decode cX7_serve 47 = .ok (.aload_n 0, 1) := by decide +kernel
theorem dX7_serve_48 : decode cX7_serve 48 = .ok (.getfield 71, 3) := by decide +kernel
theorem dX7_serve_51 : decode cX7_serve 51 = .ok (.iload_n 2, 1) := by decide +kernel
theorem dX7_serve_52 : decode cX7_serve 52 = .ok (.aload_n 0, 1) := by decide +kernel
theorem dX7_serve_53 : decode cX7_serve 53 = .ok (.getfield 24, 3) := by decide +kernel
theorem dX7_serve_56 : decode cX7_serve 56 = .ok (.iload_n 2, 1) := by decide +kernel
theorem dX7_serve_57 : decode cX7_serve 57 = .ok (.invokevirtual 151, 3) := by decide +kernel
theorem dX7_serve_60 : decode cX7_serve 60 = .ok (.aload_n 0, 1) := by decide +kernel
theorem dX7_serve_61 : decode cX7_serve 61 = .ok (.getfield 24, 3) := by decide +kernel
theorem dX7_serve_64 : decode cX7_serve 64 = .ok (.iload_n 2, 1) := by decide +kernel
theorem dX7_serve_65 : decode cX7_serve 65 = .ok (.invokevirtual 155, 3) := by decide +kernel
theorem dX7_serve_68 : decode cX7_serve 68 = .ok (.iload_n 3, 1) := by decide +kernel
theorem dX7_serve_69 : decode cX7_serve 69 = .ok (.invokevirtual 158, 3) := by decide +kernel
theorem dX7_serve_72 : decode cX7_serve 72 = .ok (.istore 4, 2) := by decide +kernel
theorem dX7_serve_74 : decode cX7_serve 74 = .ok (.aload_n 0, 1) := by decide +kernel
theorem dX7_serve_75 : decode cX7_serve 75 = .ok (.getfield 65, 3) := by decide +kernel
theorem dX7_serve_78 : decode cX7_serve 78 = .ok (.iload_n 2, 1) := by decide +kernel
theorem dX7_serve_79 : decode cX7_serve 79 = .ok (.iconst 0, 1) := by decide +kernel
theorem dX7_serve_80 : decode cX7_serve 80 = .ok (.aload_n 0, 1) := by decide +kernel
theorem dX7_serve_81 : decode cX7_serve 81 = .ok (.getfield 71, 3) := by decide +kernel
theorem dX7_serve_84 : decode cX7_serve 84 = .ok (.iload_n 2, 1) := by decide +kernel
theorem dX7_serve_85 : decode cX7_serve 85 = .ok (.invokevirtual 162, 3) := by decide +kernel
theorem dX7_serve_88 : decode cX7_serve 88 = .ok (.invokevirtual 165, 3) := by decide +kernel
theorem dX7_serve_91 : decode cX7_serve 91 = .ok (.aload_n 0, 1) := by decide +kernel
theorem dX7_serve_92 : decode cX7_serve 92 = .ok (.invokevirtual 117, 3) := by decide +kernel
theorem dX7_serve_95 : decode cX7_serve 95 = .ok (.iload 4, 2) := by decide +kernel
theorem dX7_serve_97 : decode cX7_serve 97 = .ok (.ifCond .eq 7, 3) := by decide +kernel
theorem dX7_serve_100 : decode cX7_serve 100 = .ok (.iconst 1, 1) := by decide +kernel
theorem dX7_serve_101 : decode cX7_serve 101 = .ok (.goto 4, 3) := by decide +kernel
theorem dX7_serve_104 : decode cX7_serve 104 = .ok (.iconst 0, 1) := by decide +kernel
theorem dX7_serve_105 : decode cX7_serve 105 = .ok (.ireturn, 1) := by decide +kernel
theorem dX7_refuse_0 : decode cX7_refuse 0 = .ok (.aload_n 0, 1) := by decide +kernel
theorem dX7_refuse_1 : decode cX7_refuse 1 = .ok (.getfield 61, 3) := by decide +kernel
theorem dX7_refuse_4 : decode cX7_refuse 4 = .ok (.iload_n 1, 1) := by decide +kernel
theorem dX7_refuse_5 : decode cX7_refuse 5 = .ok (.invokevirtual 140, 3) := by decide +kernel
theorem dX7_refuse_8 : decode cX7_refuse 8 = .ok (.ifCond .eq 11, 3) := by decide +kernel
theorem dX7_refuse_11 : decode cX7_refuse 11 = .ok (.aload_n 0, 1) := by decide +kernel
theorem dX7_refuse_12 : decode cX7_refuse 12 = .ok (.iload_n 2, 1) := by decide +kernel
theorem dX7_refuse_13 : decode cX7_refuse 13 = .ok (.invokevirtual 169, 3) := by decide +kernel
theorem dX7_refuse_16 : decode cX7_refuse 16 = .ok (.ifCond .ne 5, 3) := by decide +kernel
theorem dX7_refuse_19 : decode cX7_refuse 19 = .ok (.iconst (-1), 1) := by decide +kernel
theorem dX7_refuse_20 : decode cX7_refuse 20 = .ok (.ireturn, 1) := by decide +kernel
theorem dX7_refuse_21 : decode cX7_refuse 21 = .ok (.aload_n 0, 1) := by decide +kernel
theorem dX7_refuse_22 : decode cX7_refuse 22 = .ok (.getfield 61, 3) := by decide +kernel
theorem dX7_refuse_25 : decode cX7_refuse 25 = .ok (.iload_n 1, 1) := by decide +kernel
theorem dX7_refuse_26 : decode cX7_refuse 26 = .ok (.invokevirtual 144, 3) := by decide +kernel
theorem dX7_refuse_29 : decode cX7_refuse 29 = .ok (.istore_n 3, 1) := by decide +kernel
theorem dX7_refuse_30 : decode cX7_refuse 30 = .ok (.aload_n 0, 1) := by decide +kernel
theorem dX7_refuse_31 : decode cX7_refuse 31 = .ok (.getfield 61, 3) := by decide +kernel
theorem dX7_refuse_34 : decode cX7_refuse 34 = .ok (.iload_n 1, 1) := by decide +kernel
theorem dX7_refuse_35 : decode cX7_refuse 35 = .ok (.invokevirtual 148, 3) := by decide +kernel
theorem dX7_refuse_38 : decode cX7_refuse 38 = .ok (.aload_n 0, 1) := by decide +kernel
theorem dX7_refuse_39 : decode cX7_refuse 39 = .ok (.getfield 65, 3) := by decide +kernel
theorem dX7_refuse_42 : decode cX7_refuse 42 = .ok (.iload_n 3, 1) := by decide +kernel
theorem dX7_refuse_43 : decode cX7_refuse 43 = .ok (.iload_n 2, 1) := by decide +kernel
theorem dX7_refuse_44 : decode cX7_refuse 44 = .ok (.lconst 0, 1) := by decide +kernel
theorem dX7_refuse_45 : decode cX7_refuse 45 = .ok (.invokevirtual 165, 3) := by decide +kernel
theorem dX7_refuse_48 : decode cX7_refuse 48 = .ok (.aload_n 0, 1) := by decide +kernel
theorem dX7_refuse_49 : decode cX7_refuse 49 = .ok (.invokevirtual 117, 3) := by decide +kernel
theorem dX7_refuse_52 : decode cX7_refuse 52 = .ok (.iconst 0, 1) := by decide +kernel
theorem dX7_refuse_53 : decode cX7_refuse 53 = .ok (.ireturn, 1) := by decide +kernel
theorem dX7_arrive_0 : decode cX7_arrive 0 = .ok (.aload_n 0, 1) := by decide +kernel
theorem dX7_arrive_1 : decode cX7_arrive 1 = .ok (.getfield 65, 3) := by decide +kernel
theorem dX7_arrive_4 : decode cX7_arrive 4 = .ok (.iload_n 1, 1) := by decide +kernel
theorem dX7_arrive_5 : decode cX7_arrive 5 = .ok (.invokevirtual 140, 3) := by decide +kernel
theorem dX7_arrive_8 : decode cX7_arrive 8 = .ok (.ifCond .ne 5, 3) := by decide +kernel
theorem dX7_arrive_11 : decode cX7_arrive 11 = .ok (.iconst (-1), 1) := by decide +kernel
theorem dX7_arrive_12 : decode cX7_arrive 12 = .ok (.ireturn, 1) := by decide +kernel
theorem dX7_arrive_13 : decode cX7_arrive 13 = .ok (.aload_n 0, 1) := by decide +kernel
theorem dX7_arrive_14 : decode cX7_arrive 14 = .ok (.getfield 65, 3) := by decide +kernel
theorem dX7_arrive_17 : decode cX7_arrive 17 = .ok (.iload_n 1, 1) := by decide +kernel
theorem dX7_arrive_18 : decode cX7_arrive 18 = .ok (.invokevirtual 144, 3) := by decide +kernel
theorem dX7_arrive_21 : decode cX7_arrive 21 = .ok (.istore_n 2, 1) := by decide +kernel
theorem dX7_arrive_22 : decode cX7_arrive 22 = .ok (.aload_n 0, 1) := by decide +kernel
theorem dX7_arrive_23 : decode cX7_arrive 23 = .ok (.getfield 65, 3) := by decide +kernel
theorem dX7_arrive_26 : decode cX7_arrive 26 = .ok (.iload_n 1, 1) := by decide +kernel
theorem dX7_arrive_27 : decode cX7_arrive 27 = .ok (.invokevirtual 172, 3) := by decide +kernel
theorem dX7_arrive_30 : decode cX7_arrive 30 = .ok (.istore_n 3, 1) := by decide +kernel
theorem dX7_arrive_31 : decode cX7_arrive 31 = .ok (.aload_n 0, 1) := by decide +kernel
theorem dX7_arrive_32 : decode cX7_arrive 32 = .ok (.getfield 65, 3) := by decide +kernel
theorem dX7_arrive_35 : decode cX7_arrive 35 = .ok (.iload_n 1, 1) := by decide +kernel
theorem dX7_arrive_36 : decode cX7_arrive 36 = .ok (.invokevirtual 175, 3) := by decide +kernel
theorem dX7_arrive_39 : decode cX7_arrive 39 = .ok (.lstore 4, 2) := by decide +kernel
theorem dX7_arrive_41 : decode cX7_arrive 41 = .ok (.aload_n 0, 1) := by decide +kernel
theorem dX7_arrive_42 : decode cX7_arrive 42 = .ok (.getfield 65, 3) := by decide +kernel
theorem dX7_arrive_45 : decode cX7_arrive 45 = .ok (.iload_n 1, 1) := by decide +kernel
theorem dX7_arrive_46 : decode cX7_arrive 46 = .ok (.invokevirtual 148, 3) := by decide +kernel
theorem dX7_arrive_49 : decode cX7_arrive 49 = .ok (.aload_n 0, 1) := by decide +kernel
theorem dX7_arrive_50 : decode cX7_arrive 50 = .ok (.getfield 31, 3) := by decide +kernel
theorem dX7_arrive_53 : decode cX7_arrive 53 = .ok (.iload_n 2, 1) := by decide +kernel
theorem dX7_arrive_54 : decode cX7_arrive 54 = .ok (.invokevirtual 178, 3) := by decide +kernel
theorem dX7_arrive_57 : decode cX7_arrive 57 = .ok (.iconst 1, 1) := by decide +kernel
theorem dX7_arrive_58 : decode cX7_arrive 58 = .ok (.if_icmp .ne 18, 3) := by decide +kernel
theorem dX7_arrive_61 : decode cX7_arrive 61 = .ok (.aload_n 0, 1) := by decide +kernel
theorem dX7_arrive_62 : decode cX7_arrive 62 = .ok (.iload_n 2, 1) := by decide +kernel
theorem dX7_arrive_63 : decode cX7_arrive 63 = .ok (.iload_n 3, 1) := by decide +kernel
theorem dX7_arrive_64 : decode cX7_arrive 64 = .ok (.lload 4, 2) := by decide +kernel
theorem dX7_arrive_66 : decode cX7_arrive 66 = .ok (.invokevirtual 181, 3) := by decide +kernel
theorem dX7_arrive_69 : decode cX7_arrive 69 = .ok (.ifCond .eq 7, 3) := by decide +kernel
theorem dX7_arrive_72 : decode cX7_arrive 72 = .ok (.iconst 1, 1) := by decide +kernel
theorem dX7_arrive_73 : decode cX7_arrive 73 = .ok (.goto 4, 3) := by decide +kernel
theorem dX7_arrive_76 : decode cX7_arrive 76 = .ok (.iconst 0, 1) := by decide +kernel
theorem dX7_arrive_77 : decode cX7_arrive 77 = .ok (.istore 6, 2) := by decide +kernel
theorem dX7_arrive_79 : decode cX7_arrive 79 = .ok (.aload_n 0, 1) := by decide +kernel
theorem dX7_arrive_80 : decode cX7_arrive 80 = .ok (.invokevirtual 117, 3) := by decide +kernel
theorem dX7_arrive_83 : decode cX7_arrive 83 = .ok (.iload 6, 2) := by decide +kernel
theorem dX7_arrive_85 : decode cX7_arrive 85 = .ok (.ifCond .eq 7, 3) := by decide +kernel
theorem dX7_arrive_88 : decode cX7_arrive 88 = .ok (.iconst 1, 1) := by decide +kernel
theorem dX7_arrive_89 : decode cX7_arrive 89 = .ok (.goto 4, 3) := by decide +kernel
theorem dX7_arrive_92 : decode cX7_arrive 92 = .ok (.iconst 0, 1) := by decide +kernel
theorem dX7_arrive_93 : decode cX7_arrive 93 = .ok (.ireturn, 1) := by decide +kernel
theorem dX7_lose_0 : decode cX7_lose 0 = .ok (.aload_n 0, 1) := by decide +kernel
theorem dX7_lose_1 : decode cX7_lose 1 = .ok (.iload_n 1, 1) := by decide +kernel
theorem dX7_lose_2 : decode cX7_lose 2 = .ok (.invokevirtual 185, 3) := by decide +kernel
theorem dX7_lose_5 : decode cX7_lose 5 = .ok (.astore_n 3, 1) := by decide +kernel
theorem dX7_lose_6 : decode cX7_lose 6 = .ok (.aload_n 3, 1) := by decide +kernel
theorem dX7_lose_7 : decode cX7_lose 7 = .ok (.ifnull 11, 3) := by decide +kernel
theorem dX7_lose_10 : decode cX7_lose 10 = .ok (.aload_n 3, 1) := by decide +kernel
theorem dX7_lose_11 : decode cX7_lose 11 = .ok (.iload_n 2, 1) := by decide +kernel
theorem dX7_lose_12 : decode cX7_lose 12 = .ok (.invokevirtual 140, 3) := by decide +kernel
theorem dX7_lose_15 : decode cX7_lose 15 = .ok (.ifCond .ne 5, 3) := by decide +kernel
theorem dX7_lose_18 : decode cX7_lose 18 = .ok (.iconst (-1), 1) := by decide +kernel
theorem dX7_lose_19 : decode cX7_lose 19 = .ok (.ireturn, 1) := by decide +kernel
theorem dX7_lose_20 : decode cX7_lose 20 = .ok (.aload_n 3, 1) := by decide +kernel
theorem dX7_lose_21 : decode cX7_lose 21 = .ok (.iload_n 2, 1) := by decide +kernel
theorem dX7_lose_22 : decode cX7_lose 22 = .ok (.invokevirtual 148, 3) := by decide +kernel
theorem dX7_lose_25 : decode cX7_lose 25 = .ok (.aload_n 0, 1) := by decide +kernel
theorem dX7_lose_26 : decode cX7_lose 26 = .ok (.invokevirtual 117, 3) := by decide +kernel
theorem dX7_lose_29 : decode cX7_lose 29 = .ok (.aload_n 3, 1) := by decide +kernel
theorem dX7_lose_30 : decode cX7_lose 30 = .ok (.getfield 189, 3) := by decide +kernel
theorem dX7_lose_33 : decode cX7_lose 33 = .ok (.ireturn, 1) := by decide +kernel
theorem dX7_twice_0 : decode cX7_twice 0 = .ok (.aload_n 0, 1) := by decide +kernel
theorem dX7_twice_1 : decode cX7_twice 1 = .ok (.iload_n 1, 1) := by decide +kernel
theorem dX7_twice_2 : decode cX7_twice 2 = .ok (.invokevirtual 185, 3) := by decide +kernel
theorem dX7_twice_5 : decode cX7_twice 5 = .ok (.astore_n 3, 1) := by decide +kernel
theorem dX7_twice_6 : decode cX7_twice 6 = .ok (.aload_n 3, 1) := by decide +kernel
theorem dX7_twice_7 : decode cX7_twice 7 = .ok (.ifnull 11, 3) := by decide +kernel
theorem dX7_twice_10 : decode cX7_twice 10 = .ok (.aload_n 3, 1) := by decide +kernel
theorem dX7_twice_11 : decode cX7_twice 11 = .ok (.iload_n 2, 1) := by decide +kernel
theorem dX7_twice_12 : decode cX7_twice 12 = .ok (.invokevirtual 140, 3) := by decide +kernel
theorem dX7_twice_15 : decode cX7_twice 15 = .ok (.ifCond .ne 5, 3) := by decide +kernel
theorem dX7_twice_18 : decode cX7_twice 18 = .ok (.iconst (-1), 1) := by decide +kernel
theorem dX7_twice_19 : decode cX7_twice 19 = .ok (.ireturn, 1) := by decide +kernel
theorem dX7_twice_20 : decode cX7_twice 20 = .ok (.aload_n 3, 1) := by decide +kernel
theorem dX7_twice_21 : decode cX7_twice 21 = .ok (.getfield 189, 3) := by decide +kernel
theorem dX7_twice_24 : decode cX7_twice 24 = .ok (.bipush 100, 2) := by decide +kernel
theorem dX7_twice_26 : decode cX7_twice 26 = .ok (.if_icmp .lt 6, 3) := by decide +kernel
theorem dX7_twice_29 : decode cX7_twice 29 = .ok (.bipush (-4), 2) := by decide +kernel
theorem dX7_twice_31 : decode cX7_twice 31 = .ok (.ireturn, 1) := by decide +kernel
theorem dX7_twice_32 : decode cX7_twice 32 = .ok (.aload_n 3, 1) := by decide +kernel
theorem dX7_twice_33 : decode cX7_twice 33 = .ok (.aload_n 3, 1) := by decide +kernel
theorem dX7_twice_34 : decode cX7_twice 34 = .ok (.iload_n 2, 1) := by decide +kernel
theorem dX7_twice_35 : decode cX7_twice 35 = .ok (.invokevirtual 144, 3) := by decide +kernel
theorem dX7_twice_38 : decode cX7_twice 38 = .ok (.aload_n 3, 1) := by decide +kernel
theorem dX7_twice_39 : decode cX7_twice 39 = .ok (.iload_n 2, 1) := by decide +kernel
theorem dX7_twice_40 : decode cX7_twice 40 = .ok (.invokevirtual 172, 3) := by decide +kernel
theorem dX7_twice_43 : decode cX7_twice 43 = .ok (.aload_n 3, 1) := by decide +kernel
theorem dX7_twice_44 : decode cX7_twice 44 = .ok (.iload_n 2, 1) := by decide +kernel
theorem dX7_twice_45 : decode cX7_twice 45 = .ok (.invokevirtual 175, 3) := by decide +kernel
theorem dX7_twice_48 : decode cX7_twice 48 = .ok (.invokevirtual 165, 3) := by decide +kernel
theorem dX7_twice_51 : decode cX7_twice 51 = .ok (.aload_n 0, 1) := by decide +kernel
theorem dX7_twice_52 : decode cX7_twice 52 = .ok (.invokevirtual 117, 3) := by decide +kernel
theorem dX7_twice_55 : decode cX7_twice 55 = .ok (.aload_n 3, 1) := by decide +kernel
theorem dX7_twice_56 : decode cX7_twice 56 = .ok (.getfield 189, 3) := by decide +kernel
theorem dX7_twice_59 : decode cX7_twice 59 = .ok (.ireturn, 1) := by decide +kernel
theorem dX7_under_0 : decode cX7_under 0 = .ok (.aload_n 0, 1) := by decide +kernel
theorem dX7_under_1 : decode cX7_under 1 = .ok (.iload_n 1, 1) := by decide +kernel
theorem dX7_under_2 : decode cX7_under 2 = .ok (.invokevirtual 185, 3) := by decide +kernel
theorem dX7_under_5 : decode cX7_under 5 = .ok (.astore_n 3, 1) := by decide +kernel
theorem dX7_under_6 : decode cX7_under 6 = .ok (.aload_n 3, 1) := by decide +kernel
theorem dX7_under_7 : decode cX7_under 7 = .ok (.ifnonnull 7, 3) := by decide +kernel
theorem dX7_under_10 : decode cX7_under 10 = .ok (.iconst (-1), 1) := by decide +kernel
theorem dX7_under_11 : decode cX7_under 11 = .ok (.goto 8, 3) := by decide +kernel
theorem dX7_under_14 : decode cX7_under 14 = .ok (.aload_n 3, 1) := by decide +kernel
theorem dX7_under_15 : decode cX7_under 15 = .ok (.iload_n 2, 1) := by decide +kernel
theorem dX7_under_16 : decode cX7_under 16 = .ok (.invokevirtual 144, 3) := by decide +kernel
theorem dX7_under_19 : decode cX7_under 19 = .ok (.ireturn, 1) := by decide +kernel
theorem dX7_out_0 : decode cX7_out 0 = .ok (.iload_n 1, 1) := by decide +kernel
theorem dX7_out_1 : decode cX7_out 1 = .ok (.ifCond .lt 14, 3) := by decide +kernel
theorem dX7_out_4 : decode cX7_out 4 = .ok (.iload_n 1, 1) := by decide +kernel
theorem dX7_out_5 : decode cX7_out 5 = .ok (.aload_n 0, 1) := by decide +kernel
theorem dX7_out_6 : decode cX7_out 6 = .ok (.getfield 31, 3) := by decide +kernel
theorem dX7_out_9 : decode cX7_out 9 = .ok (.getfield 192, 3) := by decide +kernel
theorem dX7_out_12 : decode cX7_out 12 = .ok (.if_icmp .lt 5, 3) := by decide +kernel
theorem dX7_out_15 : decode cX7_out 15 = .ok (.iconst (-1), 1) := by decide +kernel
theorem dX7_out_16 : decode cX7_out 16 = .ok (.ireturn, 1) := by decide +kernel
theorem dX7_out_17 : decode cX7_out 17 = .ok (.iload_n 2, 1) := by decide +kernel
theorem dX7_out_18 : decode cX7_out 18 = .ok (.tableswitch 60 0 2 #[26, 35, 51], 26) := by decide +kernel
theorem dX7_out_44 : decode cX7_out 44 = .ok (.aload_n 0, 1) := by decide +kernel
theorem dX7_out_45 : decode cX7_out 45 = .ok (.getfield 41, 3) := by decide +kernel
theorem dX7_out_48 : decode cX7_out 48 = .ok (.iload_n 1, 1) := by decide +kernel
theorem dX7_out_49 : decode cX7_out 49 = .ok (.invokevirtual 195, 3) := by decide +kernel
theorem dX7_out_52 : decode cX7_out 52 = .ok (.ireturn, 1) := by decide +kernel
theorem dX7_out_53 : decode cX7_out 53 = .ok (.aload_n 0, 1) := by decide +kernel
theorem dX7_out_54 : decode cX7_out 54 = .ok (.getfield 31, 3) := by decide +kernel
theorem dX7_out_57 : decode cX7_out 57 = .ok (.aload_n 0, 1) := by decide +kernel
theorem dX7_out_58 : decode cX7_out 58 = .ok (.getfield 41, 3) := by decide +kernel
theorem dX7_out_61 : decode cX7_out 61 = .ok (.iload_n 1, 1) := by decide +kernel
theorem dX7_out_62 : decode cX7_out 62 = .ok (.invokevirtual 195, 3) := by decide +kernel
theorem dX7_out_65 : decode cX7_out 65 = .ok (.invokevirtual 198, 3) := by decide +kernel
theorem dX7_out_68 : decode cX7_out 68 = .ok (.ireturn, 1) := by decide +kernel
theorem dX7_out_69 : decode cX7_out 69 = .ok (.aload_n 0, 1) := by decide +kernel
theorem dX7_out_70 : decode cX7_out 70 = .ok (.getfield 41, 3) := by decide +kernel
theorem dX7_out_73 : decode cX7_out 73 = .ok (.iload_n 1, 1) := by decide +kernel
theorem dX7_out_74 : decode cX7_out 74 = .ok (.invokevirtual 201, 3) := by decide +kernel
theorem dX7_out_77 : decode cX7_out 77 = .ok (.ireturn, 1) := by decide +kernel
theorem dX7_out_78 : decode cX7_out 78 = .ok (.iconst (-1), 1) := by decide +kernel
theorem dX7_out_79 : decode cX7_out 79 = .ok (.ireturn, 1) := by decide +kernel
theorem dX7_value_0 : decode cX7_value 0 = .ok (.aload_n 0, 1) := by decide +kernel
theorem dX7_value_1 : decode cX7_value 1 = .ok (.getfield 31, 3) := by decide +kernel
theorem dX7_value_4 : decode cX7_value 4 = .ok (.iload_n 1, 1) := by decide +kernel
theorem dX7_value_5 : decode cX7_value 5 = .ok (.invokevirtual 204, 3) := by decide +kernel
theorem dX7_value_8 : decode cX7_value 8 = .ok (.lreturn, 1) := by decide +kernel
theorem dX7_item_0 : decode cX7_item 0 = .ok (.aload_n 0, 1) := by decide +kernel
theorem dX7_item_1 : decode cX7_item 1 = .ok (.getfield 31, 3) := by decide +kernel
theorem dX7_item_4 : decode cX7_item 4 = .ok (.iload_n 1, 1) := by decide +kernel
theorem dX7_item_5 : decode cX7_item 5 = .ok (.invokevirtual 205, 3) := by decide +kernel
theorem dX7_item_8 : decode cX7_item 8 = .ok (.ifCond .ne 5, 3) := by decide +kernel
theorem dX7_item_11 : decode cX7_item 11 = .ok (.iconst (-1), 1) := by decide +kernel
theorem dX7_item_12 : decode cX7_item 12 = .ok (.ireturn, 1) := by decide +kernel
theorem dX7_item_13 : decode cX7_item 13 = .ok (.iload_n 2, 1) := by decide +kernel
theorem dX7_item_14 : decode cX7_item 14 = .ok (.tableswitch 96 0 4 #[34, 43, 52, 61, 78], 34) := by decide +kernel
theorem dX7_item_48 : decode cX7_item 48 = .ok (.aload_n 0, 1) := by decide +kernel
theorem dX7_item_49 : decode cX7_item 49 = .ok (.getfield 31, 3) := by decide +kernel
theorem dX7_item_52 : decode cX7_item 52 = .ok (.iload_n 1, 1) := by decide +kernel
theorem dX7_item_53 : decode cX7_item 53 = .ok (.invokevirtual 178, 3) := by decide +kernel
theorem dX7_item_56 : decode cX7_item 56 = .ok (.ireturn, 1) := by decide +kernel
theorem dX7_item_57 : decode cX7_item 57 = .ok (.aload_n 0, 1) := by decide +kernel
theorem dX7_item_58 : decode cX7_item 58 = .ok (.getfield 31, 3) := by decide +kernel
theorem dX7_item_61 : decode cX7_item 61 = .ok (.iload_n 1, 1) := by decide +kernel
theorem dX7_item_62 : decode cX7_item 62 = .ok (.invokevirtual 198, 3) := by decide +kernel
theorem dX7_item_65 : decode cX7_item 65 = .ok (.ireturn, 1) := by decide +kernel
theorem dX7_item_66 : decode cX7_item 66 = .ok (.aload_n 0, 1) := by decide +kernel
theorem dX7_item_67 : decode cX7_item 67 = .ok (.getfield 31, 3) := by decide +kernel
theorem dX7_item_70 : decode cX7_item 70 = .ok (.iload_n 1, 1) := by decide +kernel
theorem dX7_item_71 : decode cX7_item 71 = .ok (.invokevirtual 208, 3) := by decide +kernel
theorem dX7_item_74 : decode cX7_item 74 = .ok (.ireturn, 1) := by decide +kernel
theorem dX7_item_75 : decode cX7_item 75 = .ok (.aload_n 0, 1) := by decide +kernel
theorem dX7_item_76 : decode cX7_item 76 = .ok (.getfield 24, 3) := by decide +kernel
theorem dX7_item_79 : decode cX7_item 79 = .ok (.iload_n 1, 1) := by decide +kernel
theorem dX7_item_80 : decode cX7_item 80 = .ok (.invokevirtual 211, 3) := by decide +kernel
theorem dX7_item_83 : decode cX7_item 83 = .ok (.ifCond .eq 7, 3) := by decide +kernel
theorem dX7_item_86 : decode cX7_item 86 = .ok (.iconst 1, 1) := by decide +kernel
theorem dX7_item_87 : decode cX7_item 87 = .ok (.goto 4, 3) := by decide +kernel
theorem dX7_item_90 : decode cX7_item 90 = .ok (.iconst 0, 1) := by decide +kernel
theorem dX7_item_91 : decode cX7_item 91 = .ok (.ireturn, 1) := by decide +kernel
theorem dX7_item_92 : decode cX7_item 92 = .ok (.aload_n 0, 1) := by decide +kernel
theorem dX7_item_93 : decode cX7_item 93 = .ok (.getfield 52, 3) := by decide +kernel
theorem dX7_item_96 : decode cX7_item 96 = .ok (.iload_n 1, 1) := by decide +kernel
theorem dX7_item_97 : decode cX7_item 97 = .ok (.invokevirtual 214, 3) := by decide +kernel
theorem dX7_item_100 : decode cX7_item 100 = .ok (.iconst (-1), 1) := by decide +kernel
theorem dX7_item_101 : decode cX7_item 101 = .ok (.if_icmp .eq 7, 3) := by decide +kernel
theorem dX7_item_104 : decode cX7_item 104 = .ok (.iconst 1, 1) := by decide +kernel
theorem dX7_item_105 : decode cX7_item 105 = .ok (.goto 4, 3) := by decide +kernel
theorem dX7_item_108 : decode cX7_item 108 = .ok (.iconst 0, 1) := by decide +kernel
theorem dX7_item_109 : decode cX7_item 109 = .ok (.ireturn, 1) := by decide +kernel
theorem dX7_item_110 : decode cX7_item 110 = .ok (.iconst (-1), 1) := by decide +kernel
theorem dX7_item_111 : decode cX7_item 111 = .ok (.ireturn, 1) := by decide +kernel
theorem dX7_count_0 : decode cX7_count 0 = .ok (.aload_n 0, 1) := by decide +kernel
theorem dX7_count_1 : decode cX7_count 1 = .ok (.getfield 71, 3) := by decide +kernel
theorem dX7_count_4 : decode cX7_count 4 = .ok (.lload_n 1, 1) := by decide +kernel
theorem dX7_count_5 : decode cX7_count 5 = .ok (.invokevirtual 217, 3) := by decide +kernel
theorem dX7_count_8 : decode cX7_count 8 = .ok (.ireturn, 1) := by decide +kernel
theorem dX7_kept_0 : decode cX7_kept 0 = .ok (.aload_n 0, 1) := by decide +kernel
theorem dX7_kept_1 : decode cX7_kept 1 = .ok (.getfield 78, 3) := by decide +kernel
theorem dX7_kept_4 : decode cX7_kept 4 = .ok (.lload_n 1, 1) := by decide +kernel
theorem dX7_kept_5 : decode cX7_kept 5 = .ok (.invokevirtual 221, 3) := by decide +kernel
theorem dX7_kept_8 : decode cX7_kept 8 = .ok (.ireturn, 1) := by decide +kernel
theorem dX7_save_0 : decode cX7_save 0 = .ok (.aload_n 0, 1) := by decide +kernel
theorem dX7_save_1 : decode cX7_save 1 = .ok (.getfield 35, 3) := by decide +kernel
theorem dX7_save_4 : decode cX7_save 4 = .ok (.aload_n 0, 1) := by decide +kernel
theorem dX7_save_5 : decode cX7_save 5 = .ok (.getfield 31, 3) := by decide +kernel
theorem dX7_save_8 : decode cX7_save 8 = .ok (.invokevirtual 224, 3) := by decide +kernel
theorem dX7_save_11 : decode cX7_save 11 = .ok (.aload_n 0, 1) := by decide +kernel
theorem dX7_save_12 : decode cX7_save 12 = .ok (.invokevirtual 117, 3) := by decide +kernel
theorem dX7_save_15 : decode cX7_save 15 = .ok (.aload_n 0, 1) := by decide +kernel
theorem dX7_save_16 : decode cX7_save 16 = .ok (.getfield 31, 3) := by decide +kernel
theorem dX7_save_19 : decode cX7_save 19 = .ok (.getfield 228, 3) := by decide +kernel
theorem dX7_save_22 : decode cX7_save 22 = .ok (.aload_n 0, 1) := by decide +kernel
theorem dX7_save_23 : decode cX7_save 23 = .ok (.getfield 48, 3) := by decide +kernel
theorem dX7_save_26 : decode cX7_save 26 = .ok (.getfield 231, 3) := by decide +kernel
theorem dX7_save_29 : decode cX7_save 29 = .ok (.iadd, 1) := by decide +kernel
theorem dX7_save_30 : decode cX7_save 30 = .ok (.aload_n 0, 1) := by decide +kernel
theorem dX7_save_31 : decode cX7_save 31 = .ok (.getfield 31, 3) := by decide +kernel
theorem dX7_save_34 : decode cX7_save 34 = .ok (.getfield 232, 3) := by decide +kernel
theorem dX7_save_37 : decode cX7_save 37 = .ok (.iadd, 1) := by decide +kernel
theorem dX7_save_38 : decode cX7_save 38 = .ok (.ireturn, 1) := by decide +kernel
theorem dX7_restart_0 : decode cX7_restart 0 = .ok (.aload_n 0, 1) := by decide +kernel
theorem dX7_restart_1 : decode cX7_restart 1 = .ok (.getfield 31, 3) := by decide +kernel
theorem dX7_restart_4 : decode cX7_restart 4 = .ok (.aload_n 0, 1) := by decide +kernel
theorem dX7_restart_5 : decode cX7_restart 5 = .ok (.getfield 35, 3) := by decide +kernel
theorem dX7_restart_8 : decode cX7_restart 8 = .ok (.invokevirtual 235, 3) := by decide +kernel
theorem dX7_restart_11 : decode cX7_restart 11 = .ok (.aload_n 0, 1) := by decide +kernel
theorem dX7_restart_12 : decode cX7_restart 12 = .ok (.getfield 78, 3) := by decide +kernel
theorem dX7_restart_15 : decode cX7_restart 15 = .ok (.invokevirtual 238, 3) := by decide +kernel
theorem dX7_restart_18 : decode cX7_restart 18 = .ok (.aload_n 0, 1) := by decide +kernel
theorem dX7_restart_19 : decode cX7_restart 19 = .ok (.invokevirtual 241, 3) := by decide +kernel
theorem dX7_restart_22 : decode cX7_restart 22 = .ok (.aload_n 0, 1) := by decide +kernel
theorem dX7_restart_23 : decode cX7_restart 23 = .ok (.dup, 1) := by decide +kernel
theorem dX7_restart_24 : decode cX7_restart 24 = .ok (.getfield 92, 3) := by decide +kernel
theorem dX7_restart_27 : decode cX7_restart 27 = .ok (.iconst 1, 1) := by decide +kernel
theorem dX7_restart_28 : decode cX7_restart 28 = .ok (.iadd, 1) := by decide +kernel
theorem dX7_restart_29 : decode cX7_restart 29 = .ok (.putfield 92, 3) := by decide +kernel
theorem dX7_restart_32 : decode cX7_restart 32 = .ok (.aload_n 0, 1) := by decide +kernel
theorem dX7_restart_33 : decode cX7_restart 33 = .ok (.invokevirtual 117, 3) := by decide +kernel
theorem dX7_restart_36 : decode cX7_restart 36 = .ok (.aload_n 0, 1) := by decide +kernel
theorem dX7_restart_37 : decode cX7_restart 37 = .ok (.getfield 48, 3) := by decide +kernel
theorem dX7_restart_40 : decode cX7_restart 40 = .ok (.getfield 231, 3) := by decide +kernel
theorem dX7_restart_43 : decode cX7_restart 43 = .ok (.ireturn, 1) := by decide +kernel
theorem dX7_told_0 : decode cX7_told 0 = .ok (.iload_n 1, 1) := by decide +kernel
theorem dX7_told_1 : decode cX7_told 1 = .ok (.tableswitch 159 0 12 #[67, 72, 80, 88, 96, 104, 112, 120, 128, 136, 144, 149, 154], 67) := by decide +kernel
theorem dX7_told_68 : decode cX7_told 68 = .ok (.aload_n 0, 1) := by decide +kernel
theorem dX7_told_69 : decode cX7_told 69 = .ok (.getfield 82, 3) := by decide +kernel
theorem dX7_told_72 : decode cX7_told 72 = .ok (.ireturn, 1) := by decide +kernel
theorem dX7_told_73 : decode cX7_told 73 = .ok (.aload_n 0, 1) := by decide +kernel
theorem dX7_told_74 : decode cX7_told 74 = .ok (.getfield 31, 3) := by decide +kernel
theorem dX7_told_77 : decode cX7_told 77 = .ok (.getfield 120, 3) := by decide +kernel
theorem dX7_told_80 : decode cX7_told 80 = .ok (.ireturn, 1) := by decide +kernel
theorem dX7_told_81 : decode cX7_told 81 = .ok (.aload_n 0, 1) := by decide +kernel
theorem dX7_told_82 : decode cX7_told 82 = .ok (.getfield 31, 3) := by decide +kernel
theorem dX7_told_85 : decode cX7_told 85 = .ok (.getfield 192, 3) := by decide +kernel
theorem dX7_told_88 : decode cX7_told 88 = .ok (.ireturn, 1) := by decide +kernel
theorem dX7_told_89 : decode cX7_told 89 = .ok (.aload_n 0, 1) := by decide +kernel
theorem dX7_told_90 : decode cX7_told 90 = .ok (.getfield 31, 3) := by decide +kernel
theorem dX7_told_93 : decode cX7_told 93 = .ok (.getfield 228, 3) := by decide +kernel
theorem dX7_told_96 : decode cX7_told 96 = .ok (.ireturn, 1) := by decide +kernel
theorem dX7_told_97 : decode cX7_told 97 = .ok (.aload_n 0, 1) := by decide +kernel
theorem dX7_told_98 : decode cX7_told 98 = .ok (.getfield 48, 3) := by decide +kernel
theorem dX7_told_101 : decode cX7_told 101 = .ok (.getfield 231, 3) := by decide +kernel
theorem dX7_told_104 : decode cX7_told 104 = .ok (.ireturn, 1) := by decide +kernel
theorem dX7_told_105 : decode cX7_told 105 = .ok (.aload_n 0, 1) := by decide +kernel
theorem dX7_told_106 : decode cX7_told 106 = .ok (.getfield 31, 3) := by decide +kernel
theorem dX7_told_109 : decode cX7_told 109 = .ok (.getfield 232, 3) := by decide +kernel
theorem dX7_told_112 : decode cX7_told 112 = .ok (.ireturn, 1) := by decide +kernel
theorem dX7_told_113 : decode cX7_told 113 = .ok (.aload_n 0, 1) := by decide +kernel
theorem dX7_told_114 : decode cX7_told 114 = .ok (.getfield 52, 3) := by decide +kernel
theorem dX7_told_117 : decode cX7_told 117 = .ok (.getfield 231, 3) := by decide +kernel
theorem dX7_told_120 : decode cX7_told 120 = .ok (.ireturn, 1) := by decide +kernel
theorem dX7_told_121 : decode cX7_told 121 = .ok (.aload_n 0, 1) := by decide +kernel
theorem dX7_told_122 : decode cX7_told 122 = .ok (.getfield 61, 3) := by decide +kernel
theorem dX7_told_125 : decode cX7_told 125 = .ok (.getfield 189, 3) := by decide +kernel
theorem dX7_told_128 : decode cX7_told 128 = .ok (.ireturn, 1) := by decide +kernel
theorem dX7_told_129 : decode cX7_told 129 = .ok (.aload_n 0, 1) := by decide +kernel
theorem dX7_told_130 : decode cX7_told 130 = .ok (.getfield 65, 3) := by decide +kernel
theorem dX7_told_133 : decode cX7_told 133 = .ok (.getfield 189, 3) := by decide +kernel
theorem dX7_told_136 : decode cX7_told 136 = .ok (.ireturn, 1) := by decide +kernel
theorem dX7_told_137 : decode cX7_told 137 = .ok (.aload_n 0, 1) := by decide +kernel
theorem dX7_told_138 : decode cX7_told 138 = .ok (.getfield 78, 3) := by decide +kernel
theorem dX7_told_141 : decode cX7_told 141 = .ok (.getfield 244, 3) := by decide +kernel
theorem dX7_told_144 : decode cX7_told 144 = .ok (.ireturn, 1) := by decide +kernel
theorem dX7_told_145 : decode cX7_told 145 = .ok (.aload_n 0, 1) := by decide +kernel
theorem dX7_told_146 : decode cX7_told 146 = .ok (.getfield 89, 3) := by decide +kernel
theorem dX7_told_149 : decode cX7_told 149 = .ok (.ireturn, 1) := by decide +kernel
theorem dX7_told_150 : decode cX7_told 150 = .ok (.aload_n 0, 1) := by decide +kernel
theorem dX7_told_151 : decode cX7_told 151 = .ok (.getfield 86, 3) := by decide +kernel
theorem dX7_told_154 : decode cX7_told 154 = .ok (.ireturn, 1) := by decide +kernel
theorem dX7_told_155 : decode cX7_told 155 = .ok (.aload_n 0, 1) := by decide +kernel
theorem dX7_told_156 : decode cX7_told 156 = .ok (.getfield 92, 3) := by decide +kernel
theorem dX7_told_159 : decode cX7_told 159 = .ok (.ireturn, 1) := by decide +kernel
theorem dX7_told_160 : decode cX7_told 160 = .ok (.iconst (-1), 1) := by decide +kernel
theorem dX7_told_161 : decode cX7_told 161 = .ok (.ireturn, 1) := by decide +kernel
theorem dX7_lineOf_0 : decode cX7_lineOf 0 = .ok (.iload_n 1, 1) := by decide +kernel
theorem dX7_lineOf_1 : decode cX7_lineOf 1 = .ok (.ifCond .ne 8, 3) := by decide +kernel
theorem dX7_lineOf_4 : decode cX7_lineOf 4 = .ok (.aload_n 0, 1) := by decide +kernel
theorem dX7_lineOf_5 : decode cX7_lineOf 5 = .ok (.getfield 61, 3) := by decide +kernel
theorem dX7_lineOf_8 : decode cX7_lineOf 8 = .ok (.areturn, 1) := by decide +kernel
theorem dX7_lineOf_9 : decode cX7_lineOf 9 = .ok (.iload_n 1, 1) := by decide +kernel
theorem dX7_lineOf_10 : decode cX7_lineOf 10 = .ok (.iconst 1, 1) := by decide +kernel
theorem dX7_lineOf_11 : decode cX7_lineOf 11 = .ok (.if_icmp .ne 10, 3) := by decide +kernel
theorem dX7_lineOf_14 : decode cX7_lineOf 14 = .ok (.aload_n 0, 1) := by decide +kernel
theorem dX7_lineOf_15 : decode cX7_lineOf 15 = .ok (.getfield 65, 3) := by decide +kernel
theorem dX7_lineOf_18 : decode cX7_lineOf 18 = .ok (.goto 4, 3) := by decide +kernel
theorem dX7_lineOf_21 : decode cX7_lineOf 21 = .ok (.aconst_null, 1) := by decide +kernel
theorem dX7_lineOf_22 : decode cX7_lineOf 22 = .ok (.areturn, 1) := by decide +kernel
theorem dX7_goOn_0 : decode cX7_goOn 0 = .ok (.aload_n 0, 1) := by decide +kernel
theorem dX7_goOn_1 : decode cX7_goOn 1 = .ok (.invokevirtual 245, 3) := by decide +kernel
theorem dX7_goOn_4 : decode cX7_goOn 4 = .ok (.aload_n 0, 1) := by decide +kernel
theorem dX7_goOn_5 : decode cX7_goOn 5 = .ok (.invokevirtual 248, 3) := by decide +kernel
theorem dX7_goOn_8 : decode cX7_goOn 8 = .ok (.aload_n 0, 1) := by decide +kernel
theorem dX7_goOn_9 : decode cX7_goOn 9 = .ok (.invokevirtual 251, 3) := by decide +kernel
theorem dX7_goOn_12 : decode cX7_goOn 12 = .ok (.return_, 1) := by decide +kernel
theorem dX7_startWaitingRows_0 : decode cX7_startWaitingRows 0 = .ok (.iconst 0, 1) := by decide +kernel
theorem dX7_startWaitingRows_1 : decode cX7_startWaitingRows 1 = .ok (.istore_n 1, 1) := by decide +kernel
theorem dX7_startWaitingRows_2 : decode cX7_startWaitingRows 2 = .ok (.iload_n 1, 1) := by decide +kernel
theorem dX7_startWaitingRows_3 : decode cX7_startWaitingRows 3 = .ok (.aload_n 0, 1) := by decide +kernel
theorem dX7_startWaitingRows_4 : decode cX7_startWaitingRows 4 = .ok (.getfield 31, 3) := by decide +kernel
theorem dX7_startWaitingRows_7 : decode cX7_startWaitingRows 7 = .ok (.getfield 120, 3) := by decide +kernel
theorem dX7_startWaitingRows_10 : decode cX7_startWaitingRows 10 = .ok (.if_icmp .ge 50, 3) := by decide +kernel
theorem dX7_startWaitingRows_13 : decode cX7_startWaitingRows 13 = .ok (.aload_n 0, 1) := by decide +kernel
theorem dX7_startWaitingRows_14 : decode cX7_startWaitingRows 14 = .ok (.getfield 31, 3) := by decide +kernel
theorem dX7_startWaitingRows_17 : decode cX7_startWaitingRows 17 = .ok (.getfield 228, 3) := by decide +kernel
theorem dX7_startWaitingRows_20 : decode cX7_startWaitingRows 20 = .ok (.ifCond .eq 17, 3) := by decide +kernel
theorem dX7_startWaitingRows_23 : decode cX7_startWaitingRows 23 = .ok (.aload_n 0, 1) := by decide +kernel
theorem dX7_startWaitingRows_24 : decode cX7_startWaitingRows 24 = .ok (.getfield 48, 3) := by decide +kernel
theorem dX7_startWaitingRows_27 : decode cX7_startWaitingRows 27 = .ok (.getfield 231, 3) := by decide +kernel
theorem dX7_startWaitingRows_30 : decode cX7_startWaitingRows 30 = .ok (.aload_n 0, 1) := by decide +kernel
theorem dX7_startWaitingRows_31 : decode cX7_startWaitingRows 31 = .ok (.getfield 104, 3) := by decide +kernel
theorem dX7_startWaitingRows_34 : decode cX7_startWaitingRows 34 = .ok (.if_icmp .lt 4, 3) := by decide +kernel
theorem dX7_startWaitingRows_37 : decode cX7_startWaitingRows 37 = .ok (.return_, 1) := by decide +kernel
theorem dX7_startWaitingRows_38 : decode cX7_startWaitingRows 38 = .ok (.aload_n 0, 1) := by decide +kernel
theorem dX7_startWaitingRows_39 : decode cX7_startWaitingRows 39 = .ok (.getfield 31, 3) := by decide +kernel
theorem dX7_startWaitingRows_42 : decode cX7_startWaitingRows 42 = .ok (.iload_n 1, 1) := by decide +kernel
theorem dX7_startWaitingRows_43 : decode cX7_startWaitingRows 43 = .ok (.invokevirtual 178, 3) := by decide +kernel
theorem dX7_startWaitingRows_46 : decode cX7_startWaitingRows 46 = .ok (.ifCond .ne 8, 3) := by decide +kernel
theorem dX7_startWaitingRows_49 : decode cX7_startWaitingRows 49 = .ok (.aload_n 0, 1) := by decide +kernel
theorem dX7_startWaitingRows_50 : decode cX7_startWaitingRows 50 = .ok (.iload_n 1, 1) := by decide +kernel
theorem dX7_startWaitingRows_51 : decode cX7_startWaitingRows 51 = .ok (.invokevirtual 254, 3) := by decide +kernel
theorem dX7_startWaitingRows_54 : decode cX7_startWaitingRows 54 = .ok (.iinc 1 1, 3) := by decide +kernel
theorem dX7_startWaitingRows_57 : decode cX7_startWaitingRows 57 = .ok (.goto (-55), 3) := by decide +kernel
theorem dX7_startWaitingRows_60 : decode cX7_startWaitingRows 60 = .ok (.return_, 1) := by decide +kernel
theorem dX7_startRow_0 : decode cX7_startRow 0 = .ok (.aload_n 0, 1) := by decide +kernel
theorem dX7_startRow_1 : decode cX7_startRow 1 = .ok (.getfield 24, 3) := by decide +kernel
theorem dX7_startRow_4 : decode cX7_startRow 4 = .ok (.iload_n 1, 1) := by decide +kernel
theorem dX7_startRow_5 : decode cX7_startRow 5 = .ok (.invokevirtual 151, 3) := by decide +kernel
theorem dX7_startRow_8 : decode cX7_startRow 8 = .ok (.lstore_n 2, 1) := by decide +kernel
theorem dX7_startRow_9 : decode cX7_startRow 9 = .ok (.aload_n 0, 1) := by decide +kernel
theorem dX7_startRow_10 : decode cX7_startRow 10 = .ok (.getfield 78, 3) := by decide +kernel
theorem dX7_startRow_13 : decode cX7_startRow 13 = .ok (.lload_n 2, 1) := by decide +kernel
theorem dX7_startRow_14 : decode cX7_startRow 14 = .ok (.invokevirtual 221, 3) := by decide +kernel
theorem dX7_startRow_17 : decode cX7_startRow 17 = .ok (.aload_n 0, 1) := by decide +kernel
theorem dX7_startRow_18 : decode cX7_startRow 18 = .ok (.getfield 82, 3) := by decide +kernel
theorem dX7_startRow_21 : decode cX7_startRow 21 = .ok (.if_icmp .lt 21, 3) := by decide +kernel
theorem dX7_startRow_24 : decode cX7_startRow 24 = .ok (.aload_n 0, 1) := by decide +kernel
theorem dX7_startRow_25 : decode cX7_startRow 25 = .ok (.getfield 31, 3) := by decide +kernel
theorem dX7_startRow_28 : decode cX7_startRow 28 = .ok (.iload_n 1, 1) := by decide +kernel
theorem dX7_startRow_29 : decode cX7_startRow 29 = .ok (.iconst 1, 1) := by decide +kernel
theorem dX7_startRow_30 : decode cX7_startRow 30 = .ok (.aload_n 0, 1) := by decide +kernel
theorem dX7_startRow_31 : decode cX7_startRow 31 = .ok (.getfield 78, 3) := by decide +kernel
theorem dX7_startRow_34 : decode cX7_startRow 34 = .ok (.lload_n 2, 1) := by decide +kernel
theorem dX7_startRow_35 : decode cX7_startRow 35 = .ok (.invokevirtual 257, 3) := by decide +kernel
theorem dX7_startRow_38 : decode cX7_startRow 38 = .ok (.invokevirtual 260, 3) := by decide +kernel
theorem dX7_startRow_41 : decode cX7_startRow 41 = .ok (.return_, 1) := by decide +kernel
theorem dX7_startRow_42 : decode cX7_startRow 42 = .ok (.aload_n 0, 1) := by decide +kernel
theorem dX7_startRow_43 : decode cX7_startRow 43 = .ok (.getfield 31, 3) := by decide +kernel
theorem dX7_startRow_46 : decode cX7_startRow 46 = .ok (.iload_n 1, 1) := by decide +kernel
theorem dX7_startRow_47 : decode cX7_startRow 47 = .ok (.invokevirtual 263, 3) := by decide +kernel
theorem dX7_startRow_50 : decode cX7_startRow 50 = .ok (.aload_n 0, 1) := by decide +kernel
theorem dX7_startRow_51 : decode cX7_startRow 51 = .ok (.getfield 48, 3) := by decide +kernel
theorem dX7_startRow_54 : decode cX7_startRow 54 = .ok (.iload_n 1, 1) := by decide +kernel
theorem dX7_startRow_55 : decode cX7_startRow 55 = .ok (.invokevirtual 266, 3) := by decide +kernel
theorem dX7_startRow_58 : decode cX7_startRow 58 = .ok (.aload_n 0, 1) := by decide +kernel
theorem dX7_startRow_59 : decode cX7_startRow 59 = .ok (.getfield 52, 3) := by decide +kernel
theorem dX7_startRow_62 : decode cX7_startRow 62 = .ok (.iload_n 1, 1) := by decide +kernel
theorem dX7_startRow_63 : decode cX7_startRow 63 = .ok (.invokevirtual 266, 3) := by decide +kernel
theorem dX7_startRow_66 : decode cX7_startRow 66 = .ok (.return_, 1) := by decide +kernel
theorem dX7_sendQueuedAsks_0 : decode cX7_sendQueuedAsks 0 = .ok (.aload_n 0, 1) := by decide +kernel
theorem dX7_sendQueuedAsks_1 : decode cX7_sendQueuedAsks 1 = .ok (.getfield 86, 3) := by decide +kernel
theorem dX7_sendQueuedAsks_4 : decode cX7_sendQueuedAsks 4 = .ok (.aload_n 0, 1) := by decide +kernel
theorem dX7_sendQueuedAsks_5 : decode cX7_sendQueuedAsks 5 = .ok (.getfield 18, 3) := by decide +kernel
theorem dX7_sendQueuedAsks_8 : decode cX7_sendQueuedAsks 8 = .ok (.iconst 2, 1) := by decide +kernel
theorem dX7_sendQueuedAsks_9 : decode cX7_sendQueuedAsks 9 = .ok (.iaload, 1) := by decide +kernel
theorem dX7_sendQueuedAsks_10 : decode cX7_sendQueuedAsks 10 = .ok (.if_icmp .ge 82, 3) := by decide +kernel
theorem dX7_sendQueuedAsks_13 : decode cX7_sendQueuedAsks 13 = .ok (.aload_n 0, 1) := by decide +kernel
theorem dX7_sendQueuedAsks_14 : decode cX7_sendQueuedAsks 14 = .ok (.getfield 52, 3) := by decide +kernel
theorem dX7_sendQueuedAsks_17 : decode cX7_sendQueuedAsks 17 = .ok (.getfield 231, 3) := by decide +kernel
theorem dX7_sendQueuedAsks_20 : decode cX7_sendQueuedAsks 20 = .ok (.ifCond .le 72, 3) := by decide +kernel
theorem dX7_sendQueuedAsks_23 : decode cX7_sendQueuedAsks 23 = .ok (.aload_n 0, 1) := by decide +kernel
theorem dX7_sendQueuedAsks_24 : decode cX7_sendQueuedAsks 24 = .ok (.getfield 52, 3) := by decide +kernel
theorem dX7_sendQueuedAsks_27 : decode cX7_sendQueuedAsks 27 = .ok (.iconst 0, 1) := by decide +kernel
theorem dX7_sendQueuedAsks_28 : decode cX7_sendQueuedAsks 28 = .ok (.invokevirtual 269, 3) := by decide +kernel
theorem dX7_sendQueuedAsks_31 : decode cX7_sendQueuedAsks 31 = .ok (.istore_n 1, 1) := by decide +kernel
theorem dX7_sendQueuedAsks_32 : decode cX7_sendQueuedAsks 32 = .ok (.aload_n 0, 1) := by decide +kernel
theorem dX7_sendQueuedAsks_33 : decode cX7_sendQueuedAsks 33 = .ok (.getfield 52, 3) := by decide +kernel
theorem dX7_sendQueuedAsks_36 : decode cX7_sendQueuedAsks 36 = .ok (.iconst 0, 1) := by decide +kernel
theorem dX7_sendQueuedAsks_37 : decode cX7_sendQueuedAsks 37 = .ok (.invokevirtual 272, 3) := by decide +kernel
theorem dX7_sendQueuedAsks_40 : decode cX7_sendQueuedAsks 40 = .ok (.aload_n 0, 1) := by decide +kernel
theorem dX7_sendQueuedAsks_41 : decode cX7_sendQueuedAsks 41 = .ok (.getfield 24, 3) := by decide +kernel
theorem dX7_sendQueuedAsks_44 : decode cX7_sendQueuedAsks 44 = .ok (.iload_n 1, 1) := by decide +kernel
theorem dX7_sendQueuedAsks_45 : decode cX7_sendQueuedAsks 45 = .ok (.aload_n 0, 1) := by decide +kernel
theorem dX7_sendQueuedAsks_46 : decode cX7_sendQueuedAsks 46 = .ok (.getfield 82, 3) := by decide +kernel
theorem dX7_sendQueuedAsks_49 : decode cX7_sendQueuedAsks 49 = .ok (.aload_n 0, 1) := by decide +kernel
theorem dX7_sendQueuedAsks_50 : decode cX7_sendQueuedAsks 50 = .ok (.getfield 18, 3) := by decide +kernel
theorem dX7_sendQueuedAsks_53 : decode cX7_sendQueuedAsks 53 = .ok (.iconst 0, 1) := by decide +kernel
theorem dX7_sendQueuedAsks_54 : decode cX7_sendQueuedAsks 54 = .ok (.iaload, 1) := by decide +kernel
theorem dX7_sendQueuedAsks_55 : decode cX7_sendQueuedAsks 55 = .ok (.iadd, 1) := by decide +kernel
theorem dX7_sendQueuedAsks_56 : decode cX7_sendQueuedAsks 56 = .ok (.invokevirtual 273, 3) := by decide +kernel
theorem dX7_sendQueuedAsks_59 : decode cX7_sendQueuedAsks 59 = .ok (.aload_n 0, 1) := by decide +kernel
theorem dX7_sendQueuedAsks_60 : decode cX7_sendQueuedAsks 60 = .ok (.getfield 61, 3) := by decide +kernel
theorem dX7_sendQueuedAsks_63 : decode cX7_sendQueuedAsks 63 = .ok (.iload_n 1, 1) := by decide +kernel
theorem dX7_sendQueuedAsks_64 : decode cX7_sendQueuedAsks 64 = .ok (.iconst 0, 1) := by decide +kernel
theorem dX7_sendQueuedAsks_65 : decode cX7_sendQueuedAsks 65 = .ok (.lconst 0, 1) := by decide +kernel
theorem dX7_sendQueuedAsks_66 : decode cX7_sendQueuedAsks 66 = .ok (.invokevirtual 165, 3) := by decide +kernel
theorem dX7_sendQueuedAsks_69 : decode cX7_sendQueuedAsks 69 = .ok (.aload_n 0, 1) := by decide +kernel
theorem dX7_sendQueuedAsks_70 : decode cX7_sendQueuedAsks 70 = .ok (.dup, 1) := by decide +kernel
theorem dX7_sendQueuedAsks_71 : decode cX7_sendQueuedAsks 71 = .ok (.getfield 86, 3) := by decide +kernel
theorem dX7_sendQueuedAsks_74 : decode cX7_sendQueuedAsks 74 = .ok (.iconst 1, 1) := by decide +kernel
theorem dX7_sendQueuedAsks_75 : decode cX7_sendQueuedAsks 75 = .ok (.iadd, 1) := by decide +kernel
theorem dX7_sendQueuedAsks_76 : decode cX7_sendQueuedAsks 76 = .ok (.putfield 86, 3) := by decide +kernel
theorem dX7_sendQueuedAsks_79 : decode cX7_sendQueuedAsks 79 = .ok (.aload_n 0, 1) := by decide +kernel
theorem dX7_sendQueuedAsks_80 : decode cX7_sendQueuedAsks 80 = .ok (.dup, 1) := by decide +kernel
theorem dX7_sendQueuedAsks_81 : decode cX7_sendQueuedAsks 81 = .ok (.getfield 89, 3) := by decide +kernel
theorem dX7_sendQueuedAsks_84 : decode cX7_sendQueuedAsks 84 = .ok (.iconst 1, 1) := by decide +kernel
theorem dX7_sendQueuedAsks_85 : decode cX7_sendQueuedAsks 85 = .ok (.iadd, 1) := by decide +kernel
theorem dX7_sendQueuedAsks_86 : decode cX7_sendQueuedAsks 86 = .ok (.putfield 89, 3) := by decide +kernel
theorem dX7_sendQueuedAsks_89 : decode cX7_sendQueuedAsks 89 = .ok (.goto (-89), 3) := by decide +kernel
theorem dX7_sendQueuedAsks_92 : decode cX7_sendQueuedAsks 92 = .ok (.return_, 1) := by decide +kernel
theorem dX7_letItemsOut_0 : decode cX7_letItemsOut 0 = .ok (.iconst 1, 1) := by decide +kernel
theorem dX7_letItemsOut_1 : decode cX7_letItemsOut 1 = .ok (.istore_n 1, 1) := by decide +kernel
theorem dX7_letItemsOut_2 : decode cX7_letItemsOut 2 = .ok (.iconst 0, 1) := by decide +kernel
theorem dX7_letItemsOut_3 : decode cX7_letItemsOut 3 = .ok (.istore_n 2, 1) := by decide +kernel
theorem dX7_letItemsOut_4 : decode cX7_letItemsOut 4 = .ok (.iload_n 2, 1) := by decide +kernel
theorem dX7_letItemsOut_5 : decode cX7_letItemsOut 5 = .ok (.aload_n 0, 1) := by decide +kernel
theorem dX7_letItemsOut_6 : decode cX7_letItemsOut 6 = .ok (.getfield 31, 3) := by decide +kernel
theorem dX7_letItemsOut_9 : decode cX7_letItemsOut 9 = .ok (.getfield 120, 3) := by decide +kernel
theorem dX7_letItemsOut_12 : decode cX7_letItemsOut 12 = .ok (.if_icmp .ge 101, 3) := by decide +kernel
theorem dX7_letItemsOut_15 : decode cX7_letItemsOut 15 = .ok (.aload_n 0, 1) := by decide +kernel
theorem dX7_letItemsOut_16 : decode cX7_letItemsOut 16 = .ok (.getfield 31, 3) := by decide +kernel
theorem dX7_letItemsOut_19 : decode cX7_letItemsOut 19 = .ok (.getfield 232, 3) := by decide +kernel
theorem dX7_letItemsOut_22 : decode cX7_letItemsOut 22 = .ok (.ifCond .le 91, 3) := by decide +kernel
theorem dX7_letItemsOut_25 : decode cX7_letItemsOut 25 = .ok (.aload_n 0, 1) := by decide +kernel
theorem dX7_letItemsOut_26 : decode cX7_letItemsOut 26 = .ok (.getfield 31, 3) := by decide +kernel
theorem dX7_letItemsOut_29 : decode cX7_letItemsOut 29 = .ok (.iload_n 2, 1) := by decide +kernel
theorem dX7_letItemsOut_30 : decode cX7_letItemsOut 30 = .ok (.invokevirtual 178, 3) := by decide +kernel
theorem dX7_letItemsOut_33 : decode cX7_letItemsOut 33 = .ok (.istore_n 3, 1) := by decide +kernel
theorem dX7_letItemsOut_34 : decode cX7_letItemsOut 34 = .ok (.iload_n 3, 1) := by decide +kernel
theorem dX7_letItemsOut_35 : decode cX7_letItemsOut 35 = .ok (.iconst 3, 1) := by decide +kernel
theorem dX7_letItemsOut_36 : decode cX7_letItemsOut 36 = .ok (.if_icmp .eq 71, 3) := by decide +kernel
theorem dX7_letItemsOut_39 : decode cX7_letItemsOut 39 = .ok (.iload_n 3, 1) := by decide +kernel
theorem dX7_letItemsOut_40 : decode cX7_letItemsOut 40 = .ok (.iconst 4, 1) := by decide +kernel
theorem dX7_letItemsOut_41 : decode cX7_letItemsOut 41 = .ok (.if_icmp .ne 6, 3) := by decide +kernel
theorem dX7_letItemsOut_44 : decode cX7_letItemsOut 44 = .ok (.goto 63, 3) := by decide +kernel
theorem dX7_letItemsOut_47 : decode cX7_letItemsOut 47 = .ok (.iload_n 1, 1) := by decide +kernel
theorem dX7_letItemsOut_48 : decode cX7_letItemsOut 48 = .ok (.ifCond .ne 22, 3) := by decide +kernel
theorem dX7_letItemsOut_51 : decode cX7_letItemsOut 51 = .ok (.aload_n 0, 1) := by decide +kernel
theorem dX7_letItemsOut_52 : decode cX7_letItemsOut 52 = .ok (.getfield 107, 3) := by decide +kernel
theorem dX7_letItemsOut_55 : decode cX7_letItemsOut 55 = .ok (.ifCond .ne 14, 3) := by decide +kernel
theorem dX7_letItemsOut_58 : decode cX7_letItemsOut 58 = .ok (.aload_n 0, 1) := by decide +kernel
theorem dX7_letItemsOut_59 : decode cX7_letItemsOut 59 = .ok (.getfield 24, 3) := by decide +kernel
theorem dX7_letItemsOut_62 : decode cX7_letItemsOut 62 = .ok (.iload_n 2, 1) := by decide +kernel
theorem dX7_letItemsOut_63 : decode cX7_letItemsOut 63 = .ok (.invokevirtual 211, 3) := by decide +kernel
theorem dX7_letItemsOut_66 : decode cX7_letItemsOut 66 = .ok (.ifCond .eq 4, 3) := by decide +kernel
theorem dX7_letItemsOut_69 : decode cX7_letItemsOut 69 = .ok (.return_, 1) := by decide +kernel
theorem dX7_letItemsOut_70 : decode cX7_letItemsOut 70 = .ok (.iload_n 3, 1) := by decide +kernel
theorem dX7_letItemsOut_71 : decode cX7_letItemsOut 71 = .ok (.iconst 2, 1) := by decide +kernel
theorem dX7_letItemsOut_72 : decode cX7_letItemsOut 72 = .ok (.if_icmp .ne 33, 3) := by decide +kernel
theorem dX7_letItemsOut_75 : decode cX7_letItemsOut 75 = .ok (.aload_n 0, 1) := by decide +kernel
theorem dX7_letItemsOut_76 : decode cX7_letItemsOut 76 = .ok (.getfield 41, 3) := by decide +kernel
theorem dX7_letItemsOut_79 : decode cX7_letItemsOut 79 = .ok (.aload_n 0, 1) := by decide +kernel
theorem dX7_letItemsOut_80 : decode cX7_letItemsOut 80 = .ok (.getfield 31, 3) := by decide +kernel
theorem dX7_letItemsOut_83 : decode cX7_letItemsOut 83 = .ok (.getfield 192, 3) := by decide +kernel
theorem dX7_letItemsOut_86 : decode cX7_letItemsOut 86 = .ok (.iload_n 2, 1) := by decide +kernel
theorem dX7_letItemsOut_87 : decode cX7_letItemsOut 87 = .ok (.aload_n 0, 1) := by decide +kernel
theorem dX7_letItemsOut_88 : decode cX7_letItemsOut 88 = .ok (.getfield 82, 3) := by decide +kernel
theorem dX7_letItemsOut_91 : decode cX7_letItemsOut 91 = .ok (.invokevirtual 277, 3) := by decide +kernel
theorem dX7_letItemsOut_94 : decode cX7_letItemsOut 94 = .ok (.aload_n 0, 1) := by decide +kernel
theorem dX7_letItemsOut_95 : decode cX7_letItemsOut 95 = .ok (.getfield 31, 3) := by decide +kernel
theorem dX7_letItemsOut_98 : decode cX7_letItemsOut 98 = .ok (.iload_n 2, 1) := by decide +kernel
theorem dX7_letItemsOut_99 : decode cX7_letItemsOut 99 = .ok (.invokevirtual 281, 3) := by decide +kernel
theorem dX7_letItemsOut_102 : decode cX7_letItemsOut 102 = .ok (.goto 5, 3) := by decide +kernel
theorem dX7_letItemsOut_105 : decode cX7_letItemsOut 105 = .ok (.iconst 0, 1) := by decide +kernel
theorem dX7_letItemsOut_106 : decode cX7_letItemsOut 106 = .ok (.istore_n 1, 1) := by decide +kernel
theorem dX7_letItemsOut_107 : decode cX7_letItemsOut 107 = .ok (.iinc 2 1, 3) := by decide +kernel
theorem dX7_letItemsOut_110 : decode cX7_letItemsOut 110 = .ok (.goto (-106), 3) := by decide +kernel
theorem dX7_letItemsOut_113 : decode cX7_letItemsOut 113 = .ok (.return_, 1) := by decide +kernel
theorem dX7_passTick_0 : decode cX7_passTick 0 = .ok (.aload_n 0, 1) := by decide +kernel
theorem dX7_passTick_1 : decode cX7_passTick 1 = .ok (.dup, 1) := by decide +kernel
theorem dX7_passTick_2 : decode cX7_passTick 2 = .ok (.getfield 82, 3) := by decide +kernel
theorem dX7_passTick_5 : decode cX7_passTick 5 = .ok (.iconst 1, 1) := by decide +kernel
theorem dX7_passTick_6 : decode cX7_passTick 6 = .ok (.iadd, 1) := by decide +kernel
theorem dX7_passTick_7 : decode cX7_passTick 7 = .ok (.putfield 82, 3) := by decide +kernel
theorem dX7_passTick_10 : decode cX7_passTick 10 = .ok (.aload_n 0, 1) := by decide +kernel
theorem dX7_passTick_11 : decode cX7_passTick 11 = .ok (.iconst 0, 1) := by decide +kernel
theorem dX7_passTick_12 : decode cX7_passTick 12 = .ok (.putfield 86, 3) := by decide +kernel
theorem dX7_passTick_15 : decode cX7_passTick 15 = .ok (.aload_n 0, 1) := by decide +kernel
theorem dX7_passTick_16 : decode cX7_passTick 16 = .ok (.invokevirtual 284, 3) := by decide +kernel
theorem dX7_passTick_19 : decode cX7_passTick 19 = .ok (.iconst 0, 1) := by decide +kernel
theorem dX7_passTick_20 : decode cX7_passTick 20 = .ok (.istore_n 1, 1) := by decide +kernel
theorem dX7_passTick_21 : decode cX7_passTick 21 = .ok (.iload_n 1, 1) := by decide +kernel
theorem dX7_passTick_22 : decode cX7_passTick 22 = .ok (.aload_n 0, 1) := by decide +kernel
theorem dX7_passTick_23 : decode cX7_passTick 23 = .ok (.getfield 55, 3) := by decide +kernel
theorem dX7_passTick_26 : decode cX7_passTick 26 = .ok (.getfield 231, 3) := by decide +kernel
theorem dX7_passTick_29 : decode cX7_passTick 29 = .ok (.if_icmp .ge 24, 3) := by decide +kernel
theorem dX7_passTick_32 : decode cX7_passTick 32 = .ok (.aload_n 0, 1) := by decide +kernel
theorem dX7_passTick_33 : decode cX7_passTick 33 = .ok (.aload_n 0, 1) := by decide +kernel
theorem dX7_passTick_34 : decode cX7_passTick 34 = .ok (.getfield 55, 3) := by decide +kernel
theorem dX7_passTick_37 : decode cX7_passTick 37 = .ok (.iload_n 1, 1) := by decide +kernel
theorem dX7_passTick_38 : decode cX7_passTick 38 = .ok (.invokevirtual 269, 3) := by decide +kernel
theorem dX7_passTick_41 : decode cX7_passTick 41 = .ok (.iconst 3, 1) := by decide +kernel
theorem dX7_passTick_42 : decode cX7_passTick 42 = .ok (.lconst 0, 1) := by decide +kernel
theorem dX7_passTick_43 : decode cX7_passTick 43 = .ok (.invokevirtual 287, 3) := by decide +kernel
theorem dX7_passTick_46 : decode cX7_passTick 46 = .ok (.pop, 1) := by decide +kernel
theorem dX7_passTick_47 : decode cX7_passTick 47 = .ok (.iinc 1 1, 3) := by decide +kernel
theorem dX7_passTick_50 : decode cX7_passTick 50 = .ok (.goto (-29), 3) := by decide +kernel
theorem dX7_passTick_53 : decode cX7_passTick 53 = .ok (.aload_n 0, 1) := by decide +kernel
theorem dX7_passTick_54 : decode cX7_passTick 54 = .ok (.getfield 55, 3) := by decide +kernel
theorem dX7_passTick_57 : decode cX7_passTick 57 = .ok (.getfield 231, 3) := by decide +kernel
theorem dX7_passTick_60 : decode cX7_passTick 60 = .ok (.ifCond .gt 13, 3) := by decide +kernel
theorem dX7_passTick_63 : decode cX7_passTick 63 = .ok (.aload_n 0, 1) := by decide +kernel
theorem dX7_passTick_64 : decode cX7_passTick 64 = .ok (.getfield 52, 3) := by decide +kernel
theorem dX7_passTick_67 : decode cX7_passTick 67 = .ok (.getfield 231, 3) := by decide +kernel
theorem dX7_passTick_70 : decode cX7_passTick 70 = .ok (.ifCond .le 7, 3) := by decide +kernel
theorem dX7_passTick_73 : decode cX7_passTick 73 = .ok (.aload_n 0, 1) := by decide +kernel
theorem dX7_passTick_74 : decode cX7_passTick 74 = .ok (.invokevirtual 117, 3) := by decide +kernel
theorem dX7_passTick_77 : decode cX7_passTick 77 = .ok (.return_, 1) := by decide +kernel
theorem dX7_findOverdue_0 : decode cX7_findOverdue 0 = .ok (.aload_n 0, 1) := by decide +kernel
theorem dX7_findOverdue_1 : decode cX7_findOverdue 1 = .ok (.getfield 55, 3) := by decide +kernel
theorem dX7_findOverdue_4 : decode cX7_findOverdue 4 = .ok (.invokevirtual 290, 3) := by decide +kernel
theorem dX7_findOverdue_7 : decode cX7_findOverdue 7 = .ok (.iconst 0, 1) := by decide +kernel
theorem dX7_findOverdue_8 : decode cX7_findOverdue 8 = .ok (.istore_n 1, 1) := by decide +kernel
theorem dX7_findOverdue_9 : decode cX7_findOverdue 9 = .ok (.iload_n 1, 1) := by decide +kernel
theorem dX7_findOverdue_10 : decode cX7_findOverdue 10 = .ok (.aload_n 0, 1) := by decide +kernel
theorem dX7_findOverdue_11 : decode cX7_findOverdue 11 = .ok (.getfield 48, 3) := by decide +kernel
theorem dX7_findOverdue_14 : decode cX7_findOverdue 14 = .ok (.getfield 231, 3) := by decide +kernel
theorem dX7_findOverdue_17 : decode cX7_findOverdue 17 = .ok (.if_icmp .ge 53, 3) := by decide +kernel
theorem dX7_findOverdue_20 : decode cX7_findOverdue 20 = .ok (.aload_n 0, 1) := by decide +kernel
theorem dX7_findOverdue_21 : decode cX7_findOverdue 21 = .ok (.getfield 48, 3) := by decide +kernel
theorem dX7_findOverdue_24 : decode cX7_findOverdue 24 = .ok (.iload_n 1, 1) := by decide +kernel
theorem dX7_findOverdue_25 : decode cX7_findOverdue 25 = .ok (.invokevirtual 269, 3) := by decide +kernel
theorem dX7_findOverdue_28 : decode cX7_findOverdue 28 = .ok (.istore_n 2, 1) := by decide +kernel
theorem dX7_findOverdue_29 : decode cX7_findOverdue 29 = .ok (.aload_n 0, 1) := by decide +kernel
theorem dX7_findOverdue_30 : decode cX7_findOverdue 30 = .ok (.getfield 24, 3) := by decide +kernel
theorem dX7_findOverdue_33 : decode cX7_findOverdue 33 = .ok (.iload_n 2, 1) := by decide +kernel
theorem dX7_findOverdue_34 : decode cX7_findOverdue 34 = .ok (.invokevirtual 293, 3) := by decide +kernel
theorem dX7_findOverdue_37 : decode cX7_findOverdue 37 = .ok (.aload_n 0, 1) := by decide +kernel
theorem dX7_findOverdue_38 : decode cX7_findOverdue 38 = .ok (.getfield 82, 3) := by decide +kernel
theorem dX7_findOverdue_41 : decode cX7_findOverdue 41 = .ok (.if_icmp .gt 23, 3) := by decide +kernel
theorem dX7_findOverdue_44 : decode cX7_findOverdue 44 = .ok (.aload_n 0, 1) := by decide +kernel
theorem dX7_findOverdue_45 : decode cX7_findOverdue 45 = .ok (.getfield 52, 3) := by decide +kernel
theorem dX7_findOverdue_48 : decode cX7_findOverdue 48 = .ok (.iload_n 2, 1) := by decide +kernel
theorem dX7_findOverdue_49 : decode cX7_findOverdue 49 = .ok (.invokevirtual 214, 3) := by decide +kernel
theorem dX7_findOverdue_52 : decode cX7_findOverdue 52 = .ok (.iconst (-1), 1) := by decide +kernel
theorem dX7_findOverdue_53 : decode cX7_findOverdue 53 = .ok (.if_icmp .ne 11, 3) := by decide +kernel
theorem dX7_findOverdue_56 : decode cX7_findOverdue 56 = .ok (.aload_n 0, 1) := by decide +kernel
theorem dX7_findOverdue_57 : decode cX7_findOverdue 57 = .ok (.getfield 55, 3) := by decide +kernel
theorem dX7_findOverdue_60 : decode cX7_findOverdue 60 = .ok (.iload_n 2, 1) := by decide +kernel
theorem dX7_findOverdue_61 : decode cX7_findOverdue 61 = .ok (.invokevirtual 266, 3) := by decide +kernel
theorem dX7_findOverdue_64 : decode cX7_findOverdue 64 = .ok (.iinc 1 1, 3) := by decide +kernel
theorem dX7_findOverdue_67 : decode cX7_findOverdue 67 = .ok (.goto (-58), 3) := by decide +kernel
theorem dX7_findOverdue_70 : decode cX7_findOverdue 70 = .ok (.return_, 1) := by decide +kernel
theorem dX7_tryAgain_0 : decode cX7_tryAgain 0 = .ok (.aload_n 0, 1) := by decide +kernel
theorem dX7_tryAgain_1 : decode cX7_tryAgain 1 = .ok (.getfield 31, 3) := by decide +kernel
theorem dX7_tryAgain_4 : decode cX7_tryAgain 4 = .ok (.iload_n 1, 1) := by decide +kernel
theorem dX7_tryAgain_5 : decode cX7_tryAgain 5 = .ok (.invokevirtual 208, 3) := by decide +kernel
theorem dX7_tryAgain_8 : decode cX7_tryAgain 8 = .ok (.aload_n 0, 1) := by decide +kernel
theorem dX7_tryAgain_9 : decode cX7_tryAgain 9 = .ok (.getfield 18, 3) := by decide +kernel
theorem dX7_tryAgain_12 : decode cX7_tryAgain 12 = .ok (.iconst 1, 1) := by decide +kernel
theorem dX7_tryAgain_13 : decode cX7_tryAgain 13 = .ok (.iaload, 1) := by decide +kernel
theorem dX7_tryAgain_14 : decode cX7_tryAgain 14 = .ok (.if_icmp .lt 12, 3) := by decide +kernel
theorem dX7_tryAgain_17 : decode cX7_tryAgain 17 = .ok (.aload_n 0, 1) := by decide +kernel
theorem dX7_tryAgain_18 : decode cX7_tryAgain 18 = .ok (.iload_n 1, 1) := by decide +kernel
theorem dX7_tryAgain_19 : decode cX7_tryAgain 19 = .ok (.iload_n 2, 1) := by decide +kernel
theorem dX7_tryAgain_20 : decode cX7_tryAgain 20 = .ok (.lload_n 3, 1) := by decide +kernel
theorem dX7_tryAgain_21 : decode cX7_tryAgain 21 = .ok (.invokevirtual 296, 3) := by decide +kernel
theorem dX7_tryAgain_24 : decode cX7_tryAgain 24 = .ok (.iconst 1, 1) := by decide +kernel
theorem dX7_tryAgain_25 : decode cX7_tryAgain 25 = .ok (.ireturn, 1) := by decide +kernel
theorem dX7_tryAgain_26 : decode cX7_tryAgain 26 = .ok (.aload_n 0, 1) := by decide +kernel
theorem dX7_tryAgain_27 : decode cX7_tryAgain 27 = .ok (.getfield 31, 3) := by decide +kernel
theorem dX7_tryAgain_30 : decode cX7_tryAgain 30 = .ok (.iload_n 1, 1) := by decide +kernel
theorem dX7_tryAgain_31 : decode cX7_tryAgain 31 = .ok (.invokevirtual 299, 3) := by decide +kernel
theorem dX7_tryAgain_34 : decode cX7_tryAgain 34 = .ok (.aload_n 0, 1) := by decide +kernel
theorem dX7_tryAgain_35 : decode cX7_tryAgain 35 = .ok (.getfield 52, 3) := by decide +kernel
theorem dX7_tryAgain_38 : decode cX7_tryAgain 38 = .ok (.iload_n 1, 1) := by decide +kernel
theorem dX7_tryAgain_39 : decode cX7_tryAgain 39 = .ok (.invokevirtual 266, 3) := by decide +kernel
theorem dX7_tryAgain_42 : decode cX7_tryAgain 42 = .ok (.iconst 0, 1) := by decide +kernel
theorem dX7_tryAgain_43 : decode cX7_tryAgain 43 = .ok (.ireturn, 1) := by decide +kernel
theorem dX7_takeAnswer_0 : decode cX7_takeAnswer 0 = .ok (.iload_n 2, 1) := by decide +kernel
theorem dX7_takeAnswer_1 : decode cX7_takeAnswer 1 = .ok (.ifCond .eq 10, 3) := by decide +kernel
theorem dX7_takeAnswer_4 : decode cX7_takeAnswer 4 = .ok (.aload_n 0, 1) := by decide +kernel
theorem dX7_takeAnswer_5 : decode cX7_takeAnswer 5 = .ok (.iload_n 1, 1) := by decide +kernel
theorem dX7_takeAnswer_6 : decode cX7_takeAnswer 6 = .ok (.iload_n 2, 1) := by decide +kernel
theorem dX7_takeAnswer_7 : decode cX7_takeAnswer 7 = .ok (.invokevirtual 302, 3) := by decide +kernel
theorem dX7_takeAnswer_10 : decode cX7_takeAnswer 10 = .ok (.ireturn, 1) := by decide +kernel
theorem dX7_takeAnswer_11 : decode cX7_takeAnswer 11 = .ok (.aload_n 0, 1) := by decide +kernel
theorem dX7_takeAnswer_12 : decode cX7_takeAnswer 12 = .ok (.iload_n 1, 1) := by decide +kernel
theorem dX7_takeAnswer_13 : decode cX7_takeAnswer 13 = .ok (.iconst 0, 1) := by decide +kernel
theorem dX7_takeAnswer_14 : decode cX7_takeAnswer 14 = .ok (.lload_n 3, 1) := by decide +kernel
theorem dX7_takeAnswer_15 : decode cX7_takeAnswer 15 = .ok (.invokevirtual 296, 3) := by decide +kernel
theorem dX7_takeAnswer_18 : decode cX7_takeAnswer 18 = .ok (.aload_n 0, 1) := by decide +kernel
theorem dX7_takeAnswer_19 : decode cX7_takeAnswer 19 = .ok (.getfield 18, 3) := by decide +kernel
theorem dX7_takeAnswer_22 : decode cX7_takeAnswer 22 = .ok (.iconst 3, 1) := by decide +kernel
theorem dX7_takeAnswer_23 : decode cX7_takeAnswer 23 = .ok (.iaload, 1) := by decide +kernel
theorem dX7_takeAnswer_24 : decode cX7_takeAnswer 24 = .ok (.ifCond .le 30, 3) := by decide +kernel
theorem dX7_takeAnswer_27 : decode cX7_takeAnswer 27 = .ok (.aload_n 0, 1) := by decide +kernel
theorem dX7_takeAnswer_28 : decode cX7_takeAnswer 28 = .ok (.getfield 78, 3) := by decide +kernel
theorem dX7_takeAnswer_31 : decode cX7_takeAnswer 31 = .ok (.aload_n 0, 1) := by decide +kernel
theorem dX7_takeAnswer_32 : decode cX7_takeAnswer 32 = .ok (.getfield 24, 3) := by decide +kernel
theorem dX7_takeAnswer_35 : decode cX7_takeAnswer 35 = .ok (.iload_n 1, 1) := by decide +kernel
theorem dX7_takeAnswer_36 : decode cX7_takeAnswer 36 = .ok (.invokevirtual 151, 3) := by decide +kernel
theorem dX7_takeAnswer_39 : decode cX7_takeAnswer 39 = .ok (.lload_n 3, 1) := by decide +kernel
theorem dX7_takeAnswer_40 : decode cX7_takeAnswer 40 = .ok (.aload_n 0, 1) := by decide +kernel
theorem dX7_takeAnswer_41 : decode cX7_takeAnswer 41 = .ok (.getfield 82, 3) := by decide +kernel
theorem dX7_takeAnswer_44 : decode cX7_takeAnswer 44 = .ok (.aload_n 0, 1) := by decide +kernel
theorem dX7_takeAnswer_45 : decode cX7_takeAnswer 45 = .ok (.getfield 18, 3) := by decide +kernel
theorem dX7_takeAnswer_48 : decode cX7_takeAnswer 48 = .ok (.iconst 3, 1) := by decide +kernel
theorem dX7_takeAnswer_49 : decode cX7_takeAnswer 49 = .ok (.iaload, 1) := by decide +kernel
theorem dX7_takeAnswer_50 : decode cX7_takeAnswer 50 = .ok (.iadd, 1) := by decide +kernel
theorem dX7_takeAnswer_51 : decode cX7_takeAnswer 51 = .ok (.invokevirtual 306, 3) := by decide +kernel
theorem dX7_takeAnswer_54 : decode cX7_takeAnswer 54 = .ok (.iconst 1, 1) := by decide +kernel
theorem dX7_takeAnswer_55 : decode cX7_takeAnswer 55 = .ok (.ireturn, 1) := by decide +kernel
theorem dX7_takeCause_0 : decode cX7_takeCause 0 = .ok (.aload_n 0, 1) := by decide +kernel
theorem dX7_takeCause_1 : decode cX7_takeCause 1 = .ok (.iload_n 2, 1) := by decide +kernel
theorem dX7_takeCause_2 : decode cX7_takeCause 2 = .ok (.invokevirtual 310, 3) := by decide +kernel
theorem dX7_takeCause_5 : decode cX7_takeCause 5 = .ok (.istore_n 3, 1) := by decide +kernel
theorem dX7_takeCause_6 : decode cX7_takeCause 6 = .ok (.iload_n 3, 1) := by decide +kernel
theorem dX7_takeCause_7 : decode cX7_takeCause 7 = .ok (.iconst 1, 1) := by decide +kernel
theorem dX7_takeCause_8 : decode cX7_takeCause 8 = .ok (.if_icmp .ne 32, 3) := by decide +kernel
theorem dX7_takeCause_11 : decode cX7_takeCause 11 = .ok (.aload_n 0, 1) := by decide +kernel
theorem dX7_takeCause_12 : decode cX7_takeCause 12 = .ok (.getfield 52, 3) := by decide +kernel
theorem dX7_takeCause_15 : decode cX7_takeCause 15 = .ok (.iload_n 1, 1) := by decide +kernel
theorem dX7_takeCause_16 : decode cX7_takeCause 16 = .ok (.invokevirtual 214, 3) := by decide +kernel
theorem dX7_takeCause_19 : decode cX7_takeCause 19 = .ok (.iconst (-1), 1) := by decide +kernel
theorem dX7_takeCause_20 : decode cX7_takeCause 20 = .ok (.if_icmp .ne 18, 3) := by decide +kernel
theorem dX7_takeCause_23 : decode cX7_takeCause 23 = .ok (.aload_n 0, 1) := by decide +kernel
theorem dX7_takeCause_24 : decode cX7_takeCause 24 = .ok (.iload_n 1, 1) := by decide +kernel
theorem dX7_takeCause_25 : decode cX7_takeCause 25 = .ok (.iconst 2, 1) := by decide +kernel
theorem dX7_takeCause_26 : decode cX7_takeCause 26 = .ok (.iload_n 2, 1) := by decide +kernel
theorem dX7_takeCause_27 : decode cX7_takeCause 27 = .ok (.i2l, 1) := by decide +kernel
theorem dX7_takeCause_28 : decode cX7_takeCause 28 = .ok (.invokevirtual 287, 3) := by decide +kernel
theorem dX7_takeCause_31 : decode cX7_takeCause 31 = .ok (.ifCond .eq 7, 3) := by decide +kernel
theorem dX7_takeCause_34 : decode cX7_takeCause 34 = .ok (.iconst 1, 1) := by decide +kernel
theorem dX7_takeCause_35 : decode cX7_takeCause 35 = .ok (.goto 4, 3) := by decide +kernel
theorem dX7_takeCause_38 : decode cX7_takeCause 38 = .ok (.iconst 0, 1) := by decide +kernel
theorem dX7_takeCause_39 : decode cX7_takeCause 39 = .ok (.ireturn, 1) := by decide +kernel
theorem dX7_takeCause_40 : decode cX7_takeCause 40 = .ok (.iload_n 3, 1) := by decide +kernel
theorem dX7_takeCause_41 : decode cX7_takeCause 41 = .ok (.ifCond .ne 14, 3) := by decide +kernel
theorem dX7_takeCause_44 : decode cX7_takeCause 44 = .ok (.aload_n 0, 1) := by decide +kernel
theorem dX7_takeCause_45 : decode cX7_takeCause 45 = .ok (.iload_n 1, 1) := by decide +kernel
theorem dX7_takeCause_46 : decode cX7_takeCause 46 = .ok (.iconst 2, 1) := by decide +kernel
theorem dX7_takeCause_47 : decode cX7_takeCause 47 = .ok (.iload_n 2, 1) := by decide +kernel
theorem dX7_takeCause_48 : decode cX7_takeCause 48 = .ok (.i2l, 1) := by decide +kernel
theorem dX7_takeCause_49 : decode cX7_takeCause 49 = .ok (.invokevirtual 296, 3) := by decide +kernel
theorem dX7_takeCause_52 : decode cX7_takeCause 52 = .ok (.goto 10, 3) := by decide +kernel
theorem dX7_takeCause_55 : decode cX7_takeCause 55 = .ok (.aload_n 0, 1) := by decide +kernel
theorem dX7_takeCause_56 : decode cX7_takeCause 56 = .ok (.iload_n 1, 1) := by decide +kernel
theorem dX7_takeCause_57 : decode cX7_takeCause 57 = .ok (.iconst 4, 1) := by decide +kernel
theorem dX7_takeCause_58 : decode cX7_takeCause 58 = .ok (.lconst 0, 1) := by decide +kernel
theorem dX7_takeCause_59 : decode cX7_takeCause 59 = .ok (.invokevirtual 296, 3) := by decide +kernel
theorem dX7_takeCause_62 : decode cX7_takeCause 62 = .ok (.iconst 1, 1) := by decide +kernel
theorem dX7_takeCause_63 : decode cX7_takeCause 63 = .ok (.ireturn, 1) := by decide +kernel
theorem dX7_ruleOf_0 : decode cX7_ruleOf 0 = .ok (.aload_n 0, 1) := by decide +kernel
theorem dX7_ruleOf_1 : decode cX7_ruleOf 1 = .ok (.iload_n 1, 1) := by decide +kernel
theorem dX7_ruleOf_2 : decode cX7_ruleOf 2 = .ok (.invokevirtual 169, 3) := by decide +kernel
theorem dX7_ruleOf_5 : decode cX7_ruleOf 5 = .ok (.ifCond .eq 14, 3) := by decide +kernel
theorem dX7_ruleOf_8 : decode cX7_ruleOf 8 = .ok (.aload_n 0, 1) := by decide +kernel
theorem dX7_ruleOf_9 : decode cX7_ruleOf 9 = .ok (.getfield 18, 3) := by decide +kernel
theorem dX7_ruleOf_12 : decode cX7_ruleOf 12 = .ok (.iconst 3, 1) := by decide +kernel
theorem dX7_ruleOf_13 : decode cX7_ruleOf 13 = .ok (.iload_n 1, 1) := by decide +kernel
theorem dX7_ruleOf_14 : decode cX7_ruleOf 14 = .ok (.iadd, 1) := by decide +kernel
theorem dX7_ruleOf_15 : decode cX7_ruleOf 15 = .ok (.iaload, 1) := by decide +kernel
theorem dX7_ruleOf_16 : decode cX7_ruleOf 16 = .ok (.goto 4, 3) := by decide +kernel
theorem dX7_ruleOf_19 : decode cX7_ruleOf 19 = .ok (.iconst 0, 1) := by decide +kernel
theorem dX7_ruleOf_20 : decode cX7_ruleOf 20 = .ok (.ireturn, 1) := by decide +kernel
theorem dX7_isCause_0 : decode cX7_isCause 0 = .ok (.iload_n 1, 1) := by decide +kernel
theorem dX7_isCause_1 : decode cX7_isCause 1 = .ok (.iconst 1, 1) := by decide +kernel
theorem dX7_isCause_2 : decode cX7_isCause 2 = .ok (.if_icmp .lt 12, 3) := by decide +kernel
theorem dX7_isCause_5 : decode cX7_isCause 5 = .ok (.iload_n 1, 1) := by decide +kernel
theorem dX7_isCause_6 : decode cX7_isCause 6 = .ok (.iconst 3, 1) := by decide +kernel
theorem dX7_isCause_7 : decode cX7_isCause 7 = .ok (.if_icmp .gt 7, 3) := by decide +kernel
theorem dX7_isCause_10 : decode cX7_isCause 10 = .ok (.iconst 1, 1) := by decide +kernel
theorem dX7_isCause_11 : decode cX7_isCause 11 = .ok (.goto 4, 3) := by decide +kernel
theorem dX7_isCause_14 : decode cX7_isCause 14 = .ok (.iconst 0, 1) := by decide +kernel
theorem dX7_isCause_15 : decode cX7_isCause 15 = .ok (.ireturn, 1) := by decide +kernel
theorem dX7_settle_0 : decode cX7_settle 0 = .ok (.aload_n 0, 1) := by decide +kernel
theorem dX7_settle_1 : decode cX7_settle 1 = .ok (.getfield 48, 3) := by decide +kernel
theorem dX7_settle_4 : decode cX7_settle 4 = .ok (.aload_n 0, 1) := by decide +kernel
theorem dX7_settle_5 : decode cX7_settle 5 = .ok (.getfield 48, 3) := by decide +kernel
theorem dX7_settle_8 : decode cX7_settle 8 = .ok (.iload_n 1, 1) := by decide +kernel
theorem dX7_settle_9 : decode cX7_settle 9 = .ok (.invokevirtual 214, 3) := by decide +kernel
theorem dX7_settle_12 : decode cX7_settle 12 = .ok (.invokevirtual 272, 3) := by decide +kernel
theorem dX7_settle_15 : decode cX7_settle 15 = .ok (.aload_n 0, 1) := by decide +kernel
theorem dX7_settle_16 : decode cX7_settle 16 = .ok (.getfield 52, 3) := by decide +kernel
theorem dX7_settle_19 : decode cX7_settle 19 = .ok (.aload_n 0, 1) := by decide +kernel
theorem dX7_settle_20 : decode cX7_settle 20 = .ok (.getfield 52, 3) := by decide +kernel
theorem dX7_settle_23 : decode cX7_settle 23 = .ok (.iload_n 1, 1) := by decide +kernel
theorem dX7_settle_24 : decode cX7_settle 24 = .ok (.invokevirtual 214, 3) := by decide +kernel
theorem dX7_settle_27 : decode cX7_settle 27 = .ok (.invokevirtual 272, 3) := by decide +kernel
theorem dX7_settle_30 : decode cX7_settle 30 = .ok (.aload_n 0, 1) := by decide +kernel
theorem dX7_settle_31 : decode cX7_settle 31 = .ok (.getfield 31, 3) := by decide +kernel
theorem dX7_settle_34 : decode cX7_settle 34 = .ok (.iload_n 1, 1) := by decide +kernel
theorem dX7_settle_35 : decode cX7_settle 35 = .ok (.iload_n 2, 1) := by decide +kernel
theorem dX7_settle_36 : decode cX7_settle 36 = .ok (.lload_n 3, 1) := by decide +kernel
theorem dX7_settle_37 : decode cX7_settle 37 = .ok (.invokevirtual 260, 3) := by decide +kernel
theorem dX7_settle_40 : decode cX7_settle 40 = .ok (.return_, 1) := by decide +kernel
theorem dX7_askAgainAllWorking_0 : decode cX7_askAgainAllWorking 0 = .ok (.aload_n 0, 1) := by decide +kernel
theorem dX7_askAgainAllWorking_1 : decode cX7_askAgainAllWorking 1 = .ok (.getfield 48, 3) := by decide +kernel
theorem dX7_askAgainAllWorking_4 : decode cX7_askAgainAllWorking 4 = .ok (.invokevirtual 290, 3) := by decide +kernel
theorem dX7_askAgainAllWorking_7 : decode cX7_askAgainAllWorking 7 = .ok (.aload_n 0, 1) := by decide +kernel
theorem dX7_askAgainAllWorking_8 : decode cX7_askAgainAllWorking 8 = .ok (.getfield 52, 3) := by decide +kernel
theorem dX7_askAgainAllWorking_11 : decode cX7_askAgainAllWorking 11 = .ok (.invokevirtual 290, 3) := by decide +kernel
theorem dX7_askAgainAllWorking_14 : decode cX7_askAgainAllWorking 14 = .ok (.iconst 0, 1) := by decide +kernel
theorem dX7_askAgainAllWorking_15 : decode cX7_askAgainAllWorking 15 = .ok (.istore_n 1, 1) := by decide +kernel
theorem dX7_askAgainAllWorking_16 : decode cX7_askAgainAllWorking 16 = .ok (.iload_n 1, 1) := by decide +kernel
theorem dX7_askAgainAllWorking_17 : decode cX7_askAgainAllWorking 17 = .ok (.aload_n 0, 1) := by decide +kernel
theorem dX7_askAgainAllWorking_18 : decode cX7_askAgainAllWorking 18 = .ok (.getfield 31, 3) := by decide +kernel
theorem dX7_askAgainAllWorking_21 : decode cX7_askAgainAllWorking 21 = .ok (.getfield 120, 3) := by decide +kernel
theorem dX7_askAgainAllWorking_24 : decode cX7_askAgainAllWorking 24 = .ok (.if_icmp .ge 45, 3) := by decide +kernel
theorem dX7_askAgainAllWorking_27 : decode cX7_askAgainAllWorking 27 = .ok (.aload_n 0, 1) := by decide +kernel
theorem dX7_askAgainAllWorking_28 : decode cX7_askAgainAllWorking 28 = .ok (.getfield 31, 3) := by decide +kernel
theorem dX7_askAgainAllWorking_31 : decode cX7_askAgainAllWorking 31 = .ok (.iload_n 1, 1) := by decide +kernel
theorem dX7_askAgainAllWorking_32 : decode cX7_askAgainAllWorking 32 = .ok (.invokevirtual 178, 3) := by decide +kernel
theorem dX7_askAgainAllWorking_35 : decode cX7_askAgainAllWorking 35 = .ok (.iconst 1, 1) := by decide +kernel
theorem dX7_askAgainAllWorking_36 : decode cX7_askAgainAllWorking 36 = .ok (.if_icmp .ne 27, 3) := by decide +kernel
theorem dX7_askAgainAllWorking_39 : decode cX7_askAgainAllWorking 39 = .ok (.aload_n 0, 1) := by decide +kernel
theorem dX7_askAgainAllWorking_40 : decode cX7_askAgainAllWorking 40 = .ok (.getfield 31, 3) := by decide +kernel
theorem dX7_askAgainAllWorking_43 : decode cX7_askAgainAllWorking 43 = .ok (.iload_n 1, 1) := by decide +kernel
theorem dX7_askAgainAllWorking_44 : decode cX7_askAgainAllWorking 44 = .ok (.invokevirtual 299, 3) := by decide +kernel
theorem dX7_askAgainAllWorking_47 : decode cX7_askAgainAllWorking 47 = .ok (.aload_n 0, 1) := by decide +kernel
theorem dX7_askAgainAllWorking_48 : decode cX7_askAgainAllWorking 48 = .ok (.getfield 48, 3) := by decide +kernel
theorem dX7_askAgainAllWorking_51 : decode cX7_askAgainAllWorking 51 = .ok (.iload_n 1, 1) := by decide +kernel
theorem dX7_askAgainAllWorking_52 : decode cX7_askAgainAllWorking 52 = .ok (.invokevirtual 266, 3) := by decide +kernel
theorem dX7_askAgainAllWorking_55 : decode cX7_askAgainAllWorking 55 = .ok (.aload_n 0, 1) := by decide +kernel
theorem dX7_askAgainAllWorking_56 : decode cX7_askAgainAllWorking 56 = .ok (.getfield 52, 3) := by decide +kernel
theorem dX7_askAgainAllWorking_59 : decode cX7_askAgainAllWorking 59 = .ok (.iload_n 1, 1) := by decide +kernel
theorem dX7_askAgainAllWorking_60 : decode cX7_askAgainAllWorking 60 = .ok (.invokevirtual 266, 3) := by decide +kernel
theorem dX7_askAgainAllWorking_63 : decode cX7_askAgainAllWorking 63 = .ok (.iinc 1 1, 3) := by decide +kernel
theorem dX7_askAgainAllWorking_66 : decode cX7_askAgainAllWorking 66 = .ok (.goto (-50), 3) := by decide +kernel
theorem dX7_askAgainAllWorking_69 : decode cX7_askAgainAllWorking 69 = .ok (.return_, 1) := by decide +kernel
