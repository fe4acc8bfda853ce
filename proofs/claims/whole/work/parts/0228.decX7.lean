theorem dX7_init_0 : decode cX7_init 0 = .ok (.aload_n 0, 1) := by decide +kernel
theorem dX7_init_1 : decode cX7_init 1 = .ok (.invokespecial 1, 3) := by decide +kernel
theorem dX7_init_4 : decode cX7_init 4 = .ok (.aload_n 0, 1) := by decide +kernel
theorem dX7_init_5 : decode cX7_init 5 = .ok (.bipush 40, 2) := by decide +kernel
theorem dX7_init_7 : decode cX7_init 7 = .ok (.newarray .int, 2) := by decide +kernel
theorem dX7_init_9 : decode cX7_init 9 = .ok (.putfield 7, 3) := by decide +kernel
theorem dX7_init_12 : decode cX7_init 12 = .ok (.aload_n 0, 1) := by decide +kernel
theorem dX7_init_13 : decode cX7_init 13 = .ok (.bipush 20, 2) := by decide +kernel
theorem dX7_init_15 : decode cX7_init 15 = .ok (.putfield 13, 3) := by decide +kernel
theorem dX7_init_18 : decode cX7_init 18 = .ok (.aload_n 0, 1) := by decide +kernel
theorem dX7_init_19 : decode cX7_init 19 = .ok (.bipush 40, 2) := by decide +kernel
theorem dX7_init_21 : decode cX7_init 21 = .ok (.newarray .int, 2) := by decide +kernel
theorem dX7_init_23 : decode cX7_init 23 = .ok (.putfield 17, 3) := by decide +kernel
theorem dX7_init_26 : decode cX7_init 26 = .ok (.aload_n 0, 1) := by decide +kernel
theorem dX7_init_27 : decode cX7_init 27 = .ok (.bipush 40, 2) := by decide +kernel
theorem dX7_init_29 : decode cX7_init 29 = .ok (.newarray .int, 2) := by decide +kernel
theorem dX7_init_31 : decode cX7_init 31 = .ok (.putfield 20, 3) := by decide +kernel
theorem dX7_init_34 : decode cX7_init 34 = .ok (.aload_n 0, 1) := by decide +kernel
theorem dX7_init_35 : decode cX7_init 35 = .ok (.bipush 40, 2) := by decide +kernel
theorem dX7_init_37 : decode cX7_init 37 = .ok (.newarray .int, 2) := by decide +kernel
theorem dX7_init_39 : decode cX7_init 39 = .ok (.putfield 23, 3) := by decide +kernel
theorem dX7_init_42 : decode cX7_init 42 = .ok (.aload_n 0, 1) := by decide +kernel
theorem dX7_init_43 : decode cX7_init 43 = .ok (.bipush 40, 2) := by decide +kernel
theorem dX7_init_45 : decode cX7_init 45 = .ok (.newarray .int, 2) := by decide +kernel
theorem dX7_init_47 : decode cX7_init 47 = .ok (.putfield 26, 3) := by decide +kernel
theorem dX7_init_50 : decode cX7_init 50 = .ok (.aload_n 0, 1) := by decide +kernel
theorem dX7_init_51 : decode cX7_init 51 = .ok (.bipush 40, 2) := by decide +kernel
theorem dX7_init_53 : decode cX7_init 53 = .ok (.newarray .int, 2) := by decide +kernel
theorem dX7_init_55 : decode cX7_init 55 = .ok (.putfield 29, 3) := by decide +kernel
theorem dX7_init_58 : decode cX7_init 58 = .ok (.aload_n 0, 1) := by decide +kernel
theorem dX7_init_59 : decode cX7_init 59 = .ok (.bipush 40, 2) := by decide +kernel
theorem dX7_init_61 : decode cX7_init 61 = .ok (.newarray .int, 2) := by decide +kernel
theorem dX7_init_63 : decode cX7_init 63 = .ok (.putfield 32, 3) := by decide +kernel
theorem dX7_init_66 : decode cX7_init 66 = .ok (.aload_n 0, 1) := by decide +kernel
theorem dX7_init_67 : decode cX7_init 67 = .ok (.bipush 40, 2) := by decide +kernel
theorem dX7_init_69 : decode cX7_init 69 = .ok (.newarray .int, 2) := by decide +kernel
theorem dX7_init_71 : decode cX7_init 71 = .ok (.putfield 35, 3) := by decide +kernel
theorem dX7_init_74 : decode cX7_init 74 = .ok (.aload_n 0, 1) := by decide +kernel
theorem dX7_init_75 : decode cX7_init 75 = .ok (.sipush 2560, 3) := by decide +kernel
theorem dX7_init_78 : decode cX7_init 78 = .ok (.newarray .int, 2) := by decide +kernel
theorem dX7_init_80 : decode cX7_init 80 = .ok (.putfield 38, 3) := by decide +kernel
theorem dX7_init_83 : decode cX7_init 83 = .ok (.aload_n 0, 1) := by decide +kernel
theorem dX7_init_84 : decode cX7_init 84 = .ok (.bipush 40, 2) := by decide +kernel
theorem dX7_init_86 : decode cX7_init 86 = .ok (.newarray .int, 2) := by decide +kernel
theorem dX7_init_88 : decode cX7_init 88 = .ok (.putfield 41, 3) := by decide +kernel
theorem dX7_init_91 : decode cX7_init 91 = .ok (.aload_n 0, 1) := by decide +kernel
theorem dX7_init_92 : decode cX7_init 92 = .ok (.bipush 40, 2) := by decide +kernel
theorem dX7_init_94 : decode cX7_init 94 = .ok (.newarray .int, 2) := by decide +kernel
theorem dX7_init_96 : decode cX7_init 96 = .ok (.putfield 44, 3) := by decide +kernel
theorem dX7_init_99 : decode cX7_init 99 = .ok (.aload_n 0, 1) := by decide +kernel
theorem dX7_init_100 : decode cX7_init 100 = .ok (.bipush 64, 2) := by decide +kernel
theorem dX7_init_102 : decode cX7_init 102 = .ok (.newarray .int, 2) := by decide +kernel
theorem dX7_init_104 : decode cX7_init 104 = .ok (.putfield 47, 3) := by decide +kernel
theorem dX7_init_107 : decode cX7_init 107 = .ok (.aload_n 0, 1) := by decide +kernel
theorem dX7_init_108 : decode cX7_init 108 = .ok (.bipush 40, 2) := by decide +kernel
theorem dX7_init_110 : decode cX7_init 110 = .ok (.newarray .int, 2) := by decide +kernel
theorem dX7_init_112 : decode cX7_init 112 = .ok (.putfield 50, 3) := by decide +kernel
theorem dX7_init_115 : decode cX7_init 115 = .ok (.aload_n 0, 1) := by decide +kernel
theorem dX7_init_116 : decode cX7_init 116 = .ok (.bipush 40, 2) := by decide +kernel
theorem dX7_init_118 : decode cX7_init 118 = .ok (.newarray .int, 2) := by decide +kernel
theorem dX7_init_120 : decode cX7_init 120 = .ok (.putfield 53, 3) := by decide +kernel
theorem dX7_init_123 : decode cX7_init 123 = .ok (.aload_n 0, 1) := by decide +kernel
theorem dX7_init_124 : decode cX7_init 124 = .ok (.bipush 40, 2) := by decide +kernel
theorem dX7_init_126 : decode cX7_init 126 = .ok (.newarray .int, 2) := by decide +kernel
theorem dX7_init_128 : decode cX7_init 128 = .ok (.putfield 56, 3) := by decide +kernel
theorem dX7_init_131 : decode cX7_init 131 = .ok (.aload_n 0, 1) := by decide +kernel
theorem dX7_init_132 : decode cX7_init 132 = .ok (.iconst 4, 1) := by decide +kernel
theorem dX7_init_133 : decode cX7_init 133 = .ok (.newarray .boolean, 2) := by decide +kernel
theorem dX7_init_135 : decode cX7_init 135 = .ok (.putfield 59, 3) := by decide +kernel
theorem dX7_init_138 : decode cX7_init 138 = .ok (.aload_n 0, 1) := by decide +kernel
theorem dX7_init_139 : decode cX7_init 139 = .ok (.iconst 4, 1) := by decide +kernel
theorem dX7_init_140 : decode cX7_init 140 = .ok (.newarray .int, 2) := by decide +kernel
theorem dX7_init_142 : decode cX7_init 142 = .ok (.putfield 63, 3) := by decide +kernel
theorem dX7_init_145 : decode cX7_init 145 = .ok (.aload_n 0, 1) := by decide +kernel
theorem dX7_init_146 : decode cX7_init 146 = .ok (.iconst 4, 1) := by decide +kernel
theorem dX7_init_147 : decode cX7_init 147 = .ok (.newarray .int, 2) := by decide +kernel
theorem dX7_init_149 : decode cX7_init 149 = .ok (.putfield 66, 3) := by decide +kernel
theorem dX7_init_152 : decode cX7_init 152 = .ok (.aload_n 0, 1) := by decide +kernel
theorem dX7_init_153 : decode cX7_init 153 = .ok (.sipush 240, 3) := by decide +kernel
theorem dX7_init_156 : decode cX7_init 156 = .ok (.newarray .int, 2) := by decide +kernel
theorem dX7_init_158 : decode cX7_init 158 = .ok (.putfield 69, 3) := by decide +kernel
theorem dX7_init_161 : decode cX7_init 161 = .ok (.aload_n 0, 1) := by decide +kernel
theorem dX7_init_162 : decode cX7_init 162 = .ok (.bipush 60, 2) := by decide +kernel
theorem dX7_init_164 : decode cX7_init 164 = .ok (.newarray .int, 2) := by decide +kernel
theorem dX7_init_166 : decode cX7_init 166 = .ok (.putfield 72, 3) := by decide +kernel
theorem dX7_init_169 : decode cX7_init 169 = .ok (.return_, 1) := by decide +kernel
theorem dX7_in_0 : decode cX7_in 0 = .ok (.iload_n 0, 1) := by decide +kernel
theorem dX7_in_1 : decode cX7_in 1 = .ok (.iload_n 1, 1) := by decide +kernel
theorem dX7_in_2 : decode cX7_in 2 = .ok (.if_icmp .lt 12, 3) := by decide +kernel
theorem dX7_in_5 : decode cX7_in 5 = .ok (.iload_n 0, 1) := by decide +kernel
theorem dX7_in_6 : decode cX7_in 6 = .ok (.iload_n 2, 1) := by decide +kernel
theorem dX7_in_7 : decode cX7_in 7 = .ok (.if_icmp .gt 7, 3) := by decide +kernel
theorem dX7_in_10 : decode cX7_in 10 = .ok (.iconst 1, 1) := by decide +kernel
theorem dX7_in_11 : decode cX7_in 11 = .ok (.goto 4, 3) := by decide +kernel
theorem dX7_in_14 : decode cX7_in 14 = .ok (.iconst 0, 1) := by decide +kernel
theorem dX7_in_15 : decode cX7_in 15 = .ok (.ireturn, 1) := by decide +kernel
theorem dX7_isIn_0 : decode cX7_isIn 0 = .ok (.iload_n 0, 1) := by decide +kernel
theorem dX7_isIn_1 : decode cX7_isIn 1 = .ok (.iload_n 1, 1) := by decide +kernel
theorem dX7_isIn_2 : decode cX7_isIn 2 = .ok (.ishr, 1) := by decide +kernel
theorem dX7_isIn_3 : decode cX7_isIn 3 = .ok (.iconst 1, 1) := by decide +kernel
theorem dX7_isIn_4 : decode cX7_isIn 4 = .ok (.iand, 1) := by decide +kernel
theorem dX7_isIn_5 : decode cX7_isIn 5 = .ok (.iconst 1, 1) := by decide +kernel
theorem dX7_isIn_6 : decode cX7_isIn 6 = .ok (.if_icmp .ne 7, 3) := by decide +kernel
theorem dX7_isIn_9 : decode cX7_isIn 9 = .ok (.iconst 1, 1) := by decide +kernel
theorem dX7_isIn_10 : decode cX7_isIn 10 = .ok (.goto 4, 3) := by decide +kernel
theorem dX7_isIn_13 : decode cX7_isIn 13 = .ok (.iconst 0, 1) := by decide +kernel
theorem dX7_isIn_14 : decode cX7_isIn 14 = .ok (.ireturn, 1) := by decide +kernel
theorem dX7_type_0 : decode cX7_type 0 = .ok (.iload_n 1, 1) := by decide +kernel
theorem dX7_type_1 : decode cX7_type 1 = .ok (.iconst 0, 1) := by decide +kernel
theorem dX7_type_2 : decode cX7_type 2 = .ok (.sipush 255, 3) := by decide +kernel
theorem dX7_type_5 : decode cX7_type 5 = .ok (.invokestatic 75, 3) := by decide +kernel
theorem dX7_type_8 : decode cX7_type 8 = .ok (.ifCond .ne 6, 3) := by decide +kernel
theorem dX7_type_11 : decode cX7_type 11 = .ok (.bipush (-2), 2) := by decide +kernel
theorem dX7_type_13 : decode cX7_type 13 = .ok (.ireturn, 1) := by decide +kernel
theorem dX7_type_14 : decode cX7_type 14 = .ok (.aload_n 0, 1) := by decide +kernel
theorem dX7_type_15 : decode cX7_type 15 = .ok (.getfield 79, 3) := by decide +kernel
theorem dX7_type_18 : decode cX7_type 18 = .ok (.bipush 40, 2) := by decide +kernel
theorem dX7_type_20 : decode cX7_type 20 = .ok (.if_icmp .ne 6, 3) := by decide +kernel
theorem dX7_type_23 : decode cX7_type 23 = .ok (.bipush (-4), 2) := by decide +kernel
theorem dX7_type_25 : decode cX7_type 25 = .ok (.ireturn, 1) := by decide +kernel
theorem dX7_type_26 : decode cX7_type 26 = .ok (.aload_n 0, 1) := by decide +kernel
theorem dX7_type_27 : decode cX7_type 27 = .ok (.getfield 7, 3) := by decide +kernel
theorem dX7_type_30 : decode cX7_type 30 = .ok (.aload_n 0, 1) := by decide +kernel
theorem dX7_type_31 : decode cX7_type 31 = .ok (.getfield 79, 3) := by decide +kernel
theorem dX7_type_34 : decode cX7_type 34 = .ok (.iload_n 1, 1) := by decide +kernel
theorem dX7_type_35 : decode cX7_type 35 = .ok (.iastore, 1) := by decide +kernel
theorem dX7_type_36 : decode cX7_type 36 = .ok (.aload_n 0, 1) := by decide +kernel
theorem dX7_type_37 : decode cX7_type 37 = .ok (.dup, 1) := by decide +kernel
theorem dX7_type_38 : decode cX7_type 38 = .ok (.getfield 79, 3) := by decide +kernel
theorem dX7_type_41 : decode cX7_type 41 = .ok (.iconst 1, 1) := by decide +kernel
theorem dX7_type_42 : decode cX7_type 42 = .ok (.iadd, 1) := by decide +kernel
theorem dX7_type_43 : decode cX7_type 43 = .ok (.putfield 79, 3) := by decide +kernel
theorem dX7_type_46 : decode cX7_type 46 = .ok (.aload_n 0, 1) := by decide +kernel
theorem dX7_type_47 : decode cX7_type 47 = .ok (.getfield 79, 3) := by decide +kernel
theorem dX7_type_50 : decode cX7_type 50 = .ok (.ireturn, 1) := by decide +kernel
theorem dX7_wipe_0 : decode cX7_wipe 0 = .ok (.aload_n 0, 1) := by decide +kernel
theorem dX7_wipe_1 : decode cX7_wipe 1 = .ok (.getfield 79, 3) := by decide +kernel
theorem dX7_wipe_4 : decode cX7_wipe 4 = .ok (.istore_n 1, 1) := by decide +kernel
theorem dX7_wipe_5 : decode cX7_wipe 5 = .ok (.aload_n 0, 1) := by decide +kernel
theorem dX7_wipe_6 : decode cX7_wipe 6 = .ok (.iconst 0, 1) := by decide +kernel
theorem dX7_wipe_7 : decode cX7_wipe 7 = .ok (.putfield 79, 3) := by decide +kernel
theorem dX7_wipe_10 : decode cX7_wipe 10 = .ok (.iload_n 1, 1) := by decide +kernel
theorem dX7_wipe_11 : decode cX7_wipe 11 = .ok (.ireturn, 1) := by decide +kernel
theorem dX7_undo_0 : decode cX7_undo 0 = .ok (.aload_n 0, 1) := by decide +kernel
theorem dX7_undo_1 : decode cX7_undo 1 = .ok (.getfield 79, 3) := by decide +kernel
theorem dX7_undo_4 : decode cX7_undo 4 = .ok (.ifCond .ne 6, 3) := by decide +kernel
theorem dX7_undo_7 : decode cX7_undo 7 = .ok (.bipush (-3), 2) := by decide +kernel
theorem dX7_undo_9 : decode cX7_undo 9 = .ok (.ireturn, 1) := by decide +kernel
theorem dX7_undo_10 : decode cX7_undo 10 = .ok (.aload_n 0, 1) := by decide +kernel
theorem dX7_undo_11 : decode cX7_undo 11 = .ok (.dup, 1) := by decide +kernel
theorem dX7_undo_12 : decode cX7_undo 12 = .ok (.getfield 79, 3) := by decide +kernel
theorem dX7_undo_15 : decode cX7_undo 15 = .ok (.iconst 1, 1) := by decide +kernel
theorem dX7_undo_16 : decode cX7_undo 16 = .ok (.isub, 1) := by decide +kernel
theorem dX7_undo_17 : decode cX7_undo 17 = .ok (.putfield 79, 3) := by decide +kernel
theorem dX7_undo_20 : decode cX7_undo 20 = .ok (.aload_n 0, 1) := by decide +kernel
theorem dX7_undo_21 : decode cX7_undo 21 = .ok (.getfield 79, 3) := by decide +kernel
theorem dX7_undo_24 : decode cX7_undo 24 = .ok (.ireturn, 1) := by decide +kernel
theorem dX7_width_0 : decode cX7_width 0 = .ok (.iload_n 1, 1) := by decide +kernel
theorem dX7_width_1 : decode cX7_width 1 = .ok (.iconst 1, 1) := by decide +kernel
theorem dX7_width_2 : decode cX7_width 2 = .ok (.bipush 99, 2) := by decide +kernel
theorem dX7_width_4 : decode cX7_width 4 = .ok (.invokestatic 75, 3) := by decide +kernel
theorem dX7_width_7 : decode cX7_width 7 = .ok (.ifCond .ne 6, 3) := by decide +kernel
theorem dX7_width_10 : decode cX7_width 10 = .ok (.bipush (-2), 2) := by decide +kernel
theorem dX7_width_12 : decode cX7_width 12 = .ok (.ireturn, 1) := by decide +kernel
theorem dX7_width_13 : decode cX7_width 13 = .ok (.aload_n 0, 1) := by decide +kernel
theorem dX7_width_14 : decode cX7_width 14 = .ok (.getfield 13, 3) := by decide +kernel
theorem dX7_width_17 : decode cX7_width 17 = .ok (.istore_n 2, 1) := by decide +kernel
theorem dX7_width_18 : decode cX7_width 18 = .ok (.aload_n 0, 1) := by decide +kernel
theorem dX7_width_19 : decode cX7_width 19 = .ok (.iload_n 1, 1) := by decide +kernel
theorem dX7_width_20 : decode cX7_width 20 = .ok (.putfield 13, 3) := by decide +kernel
theorem dX7_width_23 : decode cX7_width 23 = .ok (.iload_n 2, 1) := by decide +kernel
theorem dX7_width_24 : decode cX7_width 24 = .ok (.ireturn, 1) := by decide +kernel
theorem dX7_read_0 : decode cX7_read 0 = .ok (.iload_n 1, 1) := by decide +kernel
theorem dX7_read_1 : decode cX7_read 1 = .ok (.invokestatic 82, 3) := by decide +kernel
theorem dX7_read_4 : decode cX7_read 4 = .ok (.ifCond .ne 6, 3) := by decide +kernel
theorem dX7_read_7 : decode cX7_read 7 = .ok (.bipush (-2), 2) := by decide +kernel
theorem dX7_read_9 : decode cX7_read 9 = .ok (.ireturn, 1) := by decide +kernel
theorem dX7_read_10 : decode cX7_read 10 = .ok (.aload_n 0, 1) := by decide +kernel
theorem dX7_read_11 : decode cX7_read 11 = .ok (.getfield 59, 3) := by decide +kernel
theorem dX7_read_14 : decode cX7_read 14 = .ok (.iload_n 1, 1) := by decide +kernel
theorem dX7_read_15 : decode cX7_read 15 = .ok (.baload, 1) := by decide +kernel
theorem dX7_read_16 : decode cX7_read 16 = .ok (.ifCond .ne 9, 3) := by decide +kernel
theorem dX7_read_19 : decode cX7_read 19 = .ok (.aload_n 0, 1) := by decide +kernel
theorem dX7_read_20 : decode cX7_read 20 = .ok (.iconst 1, 1) := by decide +kernel
theorem dX7_read_21 : decode cX7_read 21 = .ok (.invokevirtual 86, 3) := by decide +kernel
theorem dX7_read_24 : decode cX7_read 24 = .ok (.ireturn, 1) := by decide +kernel
theorem dX7_read_25 : decode cX7_read 25 = .ok (.iconst 0, 1) := by decide +kernel
theorem dX7_read_26 : decode cX7_read 26 = .ok (.istore_n 2, 1) := by decide +kernel
theorem dX7_read_27 : decode cX7_read 27 = .ok (.iload_n 2, 1) := by decide +kernel
theorem dX7_read_28 : decode cX7_read 28 = .ok (.aload_n 0, 1) := by decide +kernel
theorem dX7_read_29 : decode cX7_read 29 = .ok (.getfield 66, 3) := by decide +kernel
theorem dX7_read_32 : decode cX7_read 32 = .ok (.iload_n 1, 1) := by decide +kernel
theorem dX7_read_33 : decode cX7_read 33 = .ok (.iaload, 1) := by decide +kernel
theorem dX7_read_34 : decode cX7_read 34 = .ok (.if_icmp .ge 27, 3) := by decide +kernel
theorem dX7_read_37 : decode cX7_read 37 = .ok (.aload_n 0, 1) := by decide +kernel
theorem dX7_read_38 : decode cX7_read 38 = .ok (.aload_n 0, 1) := by decide +kernel
theorem dX7_read_39 : decode cX7_read 39 = .ok (.getfield 69, 3) := by decide +kernel
theorem dX7_read_42 : decode cX7_read 42 = .ok (.bipush 60, 2) := by decide +kernel
theorem dX7_read_44 : decode cX7_read 44 = .ok (.iload_n 1, 1) := by decide +kernel
theorem dX7_read_45 : decode cX7_read 45 = .ok (.imul, 1) := by decide +kernel
theorem dX7_read_46 : decode cX7_read 46 = .ok (.iload_n 2, 1) := by decide +kernel
theorem dX7_read_47 : decode cX7_read 47 = .ok (.iadd, 1) := by decide +kernel
theorem dX7_read_48 : decode cX7_read 48 = .ok (.iaload, 1) := by decide +kernel
theorem dX7_read_49 : decode cX7_read 49 = .ok (.invokevirtual 90, 3) := by decide +kernel
theorem dX7_read_52 : decode cX7_read 52 = .ok (.ifCond .le 9, 3) := by decide +kernel
theorem dX7_read_55 : decode cX7_read 55 = .ok (.iinc 2 1, 3) := by decide +kernel
theorem dX7_read_58 : decode cX7_read 58 = .ok (.goto (-31), 3) := by decide +kernel
theorem dX7_read_61 : decode cX7_read 61 = .ok (.iload_n 2, 1) := by decide +kernel
theorem dX7_read_62 : decode cX7_read 62 = .ok (.ireturn, 1) := by decide +kernel
theorem dX7_kindOf_0 : decode cX7_kindOf 0 = .ok (.iload_n 0, 1) := by decide +kernel
theorem dX7_kindOf_1 : decode cX7_kindOf 1 = .ok (.bipush 97, 2) := by decide +kernel
theorem dX7_kindOf_3 : decode cX7_kindOf 3 = .ok (.bipush 105, 2) := by decide +kernel
theorem dX7_kindOf_5 : decode cX7_kindOf 5 = .ok (.invokestatic 75, 3) := by decide +kernel
theorem dX7_kindOf_8 : decode cX7_kindOf 8 = .ok (.ifCond .eq 7, 3) := by decide +kernel
theorem dX7_kindOf_11 : decode cX7_kindOf 11 = .ok (.iconst 0, 1) := by decide +kernel
theorem dX7_kindOf_12 : decode cX7_kindOf 12 = .ok (.goto 54, 3) := by decide +kernel
theorem dX7_kindOf_15 : decode cX7_kindOf 15 = .ok (.iload_n 0, 1) := by decide +kernel
theorem dX7_kindOf_16 : decode cX7_kindOf 16 = .ok (.bipush 72, 2) := by decide +kernel
theorem dX7_kindOf_18 : decode cX7_kindOf 18 = .ok (.if_icmp .ne 7, 3) := by decide +kernel
theorem dX7_kindOf_21 : decode cX7_kindOf 21 = .ok (.iconst 1, 1) := by decide +kernel
theorem dX7_kindOf_22 : decode cX7_kindOf 22 = .ok (.goto 44, 3) := by decide +kernel
theorem dX7_kindOf_25 : decode cX7_kindOf 25 = .ok (.iload_n 0, 1) := by decide +kernel
theorem dX7_kindOf_26 : decode cX7_kindOf 26 = .ok (.bipush 86, 2) := by decide +kernel
theorem dX7_kindOf_28 : decode cX7_kindOf 28 = .ok (.if_icmp .ne 7, 3) := by decide +kernel
theorem dX7_kindOf_31 : decode cX7_kindOf 31 = .ok (.iconst 2, 1) := by decide +kernel
theorem dX7_kindOf_32 : decode cX7_kindOf 32 = .ok (.goto 34, 3) := by decide +kernel
theorem dX7_kindOf_35 : decode cX7_kindOf 35 = .ok (.iload_n 0, 1) := by decide +kernel
theorem dX7_kindOf_36 : decode cX7_kindOf 36 = .ok (.bipush 67, 2) := by decide +kernel
theorem dX7_kindOf_38 : decode cX7_kindOf 38 = .ok (.if_icmp .ne 7, 3) := by decide +kernel
theorem dX7_kindOf_41 : decode cX7_kindOf 41 = .ok (.iconst 3, 1) := by decide +kernel
theorem dX7_kindOf_42 : decode cX7_kindOf 42 = .ok (.goto 24, 3) := by decide +kernel
theorem dX7_kindOf_45 : decode cX7_kindOf 45 = .ok (.iload_n 0, 1) := by decide +kernel
theorem dX7_kindOf_46 : decode cX7_kindOf 46 = .ok (.bipush 78, 2) := by decide +kernel
theorem dX7_kindOf_48 : decode cX7_kindOf 48 = .ok (.if_icmp .ne 7, 3) := by decide +kernel
theorem dX7_kindOf_51 : decode cX7_kindOf 51 = .ok (.iconst 4, 1) := by decide +kernel
theorem dX7_kindOf_52 : decode cX7_kindOf 52 = .ok (.goto 14, 3) := by decide +kernel
theorem dX7_kindOf_55 : decode cX7_kindOf 55 = .ok (.iload_n 0, 1) := by decide +kernel
theorem dX7_kindOf_56 : decode cX7_kindOf 56 = .ok (.bipush 70, 2) := by decide +kernel
theorem dX7_kindOf_58 : decode cX7_kindOf 58 = .ok (.if_icmp .ne 7, 3) := by decide +kernel
theorem dX7_kindOf_61 : decode cX7_kindOf 61 = .ok (.iconst 5, 1) := by decide +kernel
theorem dX7_kindOf_62 : decode cX7_kindOf 62 = .ok (.goto 4, 3) := by decide +kernel
theorem dX7_kindOf_65 : decode cX7_kindOf 65 = .ok (.iconst (-1), 1) := by decide +kernel
theorem dX7_kindOf_66 : decode cX7_kindOf 66 = .ok (.ireturn, 1) := by decide +kernel
theorem dX7_isTwofold_0 : decode cX7_isTwofold 0 = .ok (.iload_n 0, 1) := by decide +kernel
theorem dX7_isTwofold_1 : decode cX7_isTwofold 1 = .ok (.iconst 1, 1) := by decide +kernel
theorem dX7_isTwofold_2 : decode cX7_isTwofold 2 = .ok (.iconst 3, 1) := by decide +kernel
theorem dX7_isTwofold_3 : decode cX7_isTwofold 3 = .ok (.invokestatic 75, 3) := by decide +kernel
theorem dX7_isTwofold_6 : decode cX7_isTwofold 6 = .ok (.ireturn, 1) := by decide +kernel
theorem dX7_readsText_0 : decode cX7_readsText 0 = .ok (.aload_n 0, 1) := by decide +kernel
theorem dX7_readsText_1 : decode cX7_readsText 1 = .ok (.iconst 0, 1) := by decide +kernel
theorem dX7_readsText_2 : decode cX7_readsText 2 = .ok (.putfield 93, 3) := by decide +kernel
theorem dX7_readsText_5 : decode cX7_readsText 5 = .ok (.aload_n 0, 1) := by decide +kernel
theorem dX7_readsText_6 : decode cX7_readsText 6 = .ok (.iconst 0, 1) := by decide +kernel
theorem dX7_readsText_7 : decode cX7_readsText 7 = .ok (.putfield 96, 3) := by decide +kernel
theorem dX7_readsText_10 : decode cX7_readsText 10 = .ok (.aload_n 0, 1) := by decide +kernel
theorem dX7_readsText_11 : decode cX7_readsText 11 = .ok (.getfield 79, 3) := by decide +kernel
theorem dX7_readsText_14 : decode cX7_readsText 14 = .ok (.ifCond .le 7, 3) := by decide +kernel
theorem dX7_readsText_17 : decode cX7_readsText 17 = .ok (.iconst 1, 1) := by decide +kernel
theorem dX7_readsText_18 : decode cX7_readsText 18 = .ok (.goto 4, 3) := by decide +kernel
theorem dX7_readsText_21 : decode cX7_readsText 21 = .ok (.iconst 0, 1) := by decide +kernel
theorem dX7_readsText_22 : decode cX7_readsText 22 = .ok (.istore_n 1, 1) := by decide +kernel
theorem dX7_readsText_23 : decode cX7_readsText 23 = .ok (.iconst 0, 1) := by decide +kernel
theorem dX7_readsText_24 : decode cX7_readsText 24 = .ok (.istore_n 2, 1) := by decide +kernel
theorem dX7_readsText_25 : decode cX7_readsText 25 = .ok (.iload_n 2, 1) := by decide +kernel
theorem dX7_readsText_26 : decode cX7_readsText 26 = .ok (.aload_n 0, 1) := by decide +kernel
theorem dX7_readsText_27 : decode cX7_readsText 27 = .ok (.getfield 79, 3) := by decide +kernel
theorem dX7_readsText_30 : decode cX7_readsText 30 = .ok (.if_icmp .ge 211, 3) := by decide +kernel
theorem dX7_readsText_33 : decode cX7_readsText 33 = .ok (.aload_n 0, 1) := by decide +kernel
theorem dX7_readsText_34 : decode cX7_readsText 34 = .ok (.getfield 7, 3) := by decide +kernel
theorem dX7_readsText_37 : decode cX7_readsText 37 = .ok (.iload_n 2, 1) := by decide +kernel
theorem dX7_readsText_38 : decode cX7_readsText 38 = .ok (.iaload, 1) := by decide +kernel
theorem dX7_readsText_39 : decode cX7_readsText 39 = .ok (.invokestatic 99, 3) := by decide +kernel
theorem dX7_readsText_42 : decode cX7_readsText 42 = .ok (.istore_n 3, 1) := by decide +kernel
theorem dX7_readsText_43 : decode cX7_readsText 43 = .ok (.iload_n 1, 1) := by decide +kernel
theorem dX7_readsText_44 : decode cX7_readsText 44 = .ok (.ifCond .eq 22, 3) := by decide +kernel
theorem dX7_readsText_47 : decode cX7_readsText 47 = .ok (.iload_n 3, 1) := by decide +kernel
theorem dX7_readsText_48 : decode cX7_readsText 48 = .ok (.iconst (-1), 1) := by decide +kernel
theorem dX7_readsText_49 : decode cX7_readsText 49 = .ok (.if_icmp .eq 17, 3) := by decide +kernel
theorem dX7_readsText_52 : decode cX7_readsText 52 = .ok (.iload_n 3, 1) := by decide +kernel
theorem dX7_readsText_53 : decode cX7_readsText 53 = .ok (.iconst 3, 1) := by decide +kernel
theorem dX7_readsText_54 : decode cX7_readsText 54 = .ok (.if_icmp .ne 14, 3) := by decide +kernel
theorem dX7_readsText_57 : decode cX7_readsText 57 = .ok (.aload_n 0, 1) := by decide +kernel
theorem dX7_readsText_58 : decode cX7_readsText 58 = .ok (.getfield 96, 3) := by decide +kernel
theorem dX7_readsText_61 : decode cX7_readsText 61 = .ok (.bipush 6, 2) := by decide +kernel
theorem dX7_readsText_63 : decode cX7_readsText 63 = .ok (.if_icmp .ne 5, 3) := by decide +kernel
theorem dX7_readsText_66 : decode cX7_readsText 66 = .ok (.iload_n 2, 1) := by decide +kernel
theorem dX7_readsText_67 : decode cX7_readsText 67 = .ok (.ireturn, 1) := by decide +kernel
theorem dX7_readsText_68 : decode cX7_readsText 68 = .ok (.aload_n 0, 1) := by decide +kernel
theorem dX7_readsText_69 : decode cX7_readsText 69 = .ok (.getfield 17, 3) := by decide +kernel
theorem dX7_readsText_72 : decode cX7_readsText 72 = .ok (.aload_n 0, 1) := by decide +kernel
theorem dX7_readsText_73 : decode cX7_readsText 73 = .ok (.getfield 93, 3) := by decide +kernel
theorem dX7_readsText_76 : decode cX7_readsText 76 = .ok (.iload_n 3, 1) := by decide +kernel
theorem dX7_readsText_77 : decode cX7_readsText 77 = .ok (.iastore, 1) := by decide +kernel
theorem dX7_readsText_78 : decode cX7_readsText 78 = .ok (.aload_n 0, 1) := by decide +kernel
theorem dX7_readsText_79 : decode cX7_readsText 79 = .ok (.getfield 23, 3) := by decide +kernel
theorem dX7_readsText_82 : decode cX7_readsText 82 = .ok (.aload_n 0, 1) := by decide +kernel
theorem dX7_readsText_83 : decode cX7_readsText 83 = .ok (.getfield 93, 3) := by decide +kernel
theorem dX7_readsText_86 : decode cX7_readsText 86 = .ok (.iload_n 2, 1) := by decide +kernel
theorem dX7_readsText_87 : decode cX7_readsText 87 = .ok (.iastore, 1) := by decide +kernel
theorem dX7_readsText_88 : decode cX7_readsText 88 = .ok (.aload_n 0, 1) := by decide +kernel
theorem dX7_readsText_89 : decode cX7_readsText 89 = .ok (.getfield 20, 3) := by decide +kernel
theorem dX7_readsText_92 : decode cX7_readsText 92 = .ok (.aload_n 0, 1) := by decide +kernel
theorem dX7_readsText_93 : decode cX7_readsText 93 = .ok (.getfield 93, 3) := by decide +kernel
theorem dX7_readsText_96 : decode cX7_readsText 96 = .ok (.iload_n 3, 1) := by decide +kernel
theorem dX7_readsText_97 : decode cX7_readsText 97 = .ok (.ifCond .ne 17, 3) := by decide +kernel
theorem dX7_readsText_100 : decode cX7_readsText 100 = .ok (.aload_n 0, 1) := by decide +kernel
theorem dX7_readsText_101 : decode cX7_readsText 101 = .ok (.getfield 7, 3) := by decide +kernel
theorem dX7_readsText_104 : decode cX7_readsText 104 = .ok (.iload_n 2, 1) := by decide +kernel
theorem dX7_readsText_105 : decode cX7_readsText 105 = .ok (.iaload, 1) := by decide +kernel
theorem dX7_readsText_106 : decode cX7_readsText 106 = .ok (.bipush 97, 2) := by decide +kernel
theorem dX7_readsText_108 : decode cX7_readsText 108 = .ok (.isub, 1) := by decide +kernel
theorem dX7_readsText_109 : decode cX7_readsText 109 = .ok (.iconst 1, 1) := by decide +kernel
theorem dX7_readsText_110 : decode cX7_readsText 110 = .ok (.iadd, 1) := by decide +kernel
theorem dX7_readsText_111 : decode cX7_readsText 111 = .ok (.goto 16, 3) := by decide +kernel
theorem dX7_readsText_114 : decode cX7_readsText 114 = .ok (.iload_n 3, 1) := by decide +kernel
theorem dX7_readsText_115 : decode cX7_readsText 115 = .ok (.iconst 3, 1) := by decide +kernel
theorem dX7_readsText_116 : decode cX7_readsText 116 = .ok (.if_icmp .ne 10, 3) := by decide +kernel
theorem dX7_readsText_119 : decode cX7_readsText 119 = .ok (.aload_n 0, 1) := by decide +kernel
theorem dX7_readsText_120 : decode cX7_readsText 120 = .ok (.getfield 96, 3) := by decide +kernel
theorem dX7_readsText_123 : decode cX7_readsText 123 = .ok (.goto 4, 3) := by decide +kernel
theorem dX7_readsText_126 : decode cX7_readsText 126 = .ok (.iconst 0, 1) := by decide +kernel
theorem dX7_readsText_127 : decode cX7_readsText 127 = .ok (.iastore, 1) := by decide +kernel
theorem dX7_readsText_128 : decode cX7_readsText 128 = .ok (.aload_n 0, 1) := by decide +kernel
theorem dX7_readsText_129 : decode cX7_readsText 129 = .ok (.dup, 1) := by decide +kernel
theorem dX7_readsText_130 : decode cX7_readsText 130 = .ok (.getfield 96, 3) := by decide +kernel
theorem dX7_readsText_133 : decode cX7_readsText 133 = .ok (.iload_n 3, 1) := by decide +kernel
theorem dX7_readsText_134 : decode cX7_readsText 134 = .ok (.iconst 3, 1) := by decide +kernel
theorem dX7_readsText_135 : decode cX7_readsText 135 = .ok (.if_icmp .ne 7, 3) := by decide +kernel
theorem dX7_readsText_138 : decode cX7_readsText 138 = .ok (.iconst 1, 1) := by decide +kernel
theorem dX7_readsText_139 : decode cX7_readsText 139 = .ok (.goto 4, 3) := by decide +kernel
theorem dX7_readsText_142 : decode cX7_readsText 142 = .ok (.iconst 0, 1) := by decide +kernel
theorem dX7_readsText_143 : decode cX7_readsText 143 = .ok (.iadd, 1) := by decide +kernel
theorem dX7_readsText_144 : decode cX7_readsText 144 = .ok (.putfield 96, 3) := by decide +kernel
theorem dX7_readsText_147 : decode cX7_readsText 147 = .ok (.iload_n 1, 1) := by decide +kernel
theorem dX7_readsText_148 : decode cX7_readsText 148 = .ok (.iload_n 3, 1) := by decide +kernel
theorem dX7_readsText_149 : decode cX7_readsText 149 = .ok (.ifCond .ne 7, 3) := by decide +kernel
theorem dX7_readsText_152 : decode cX7_readsText 152 = .ok (.iconst (-1), 1) := by decide +kernel
theorem dX7_readsText_153 : decode cX7_readsText 153 = .ok (.goto 15, 3) := by decide +kernel
theorem dX7_readsText_156 : decode cX7_readsText 156 = .ok (.iload_n 3, 1) := by decide +kernel
theorem dX7_readsText_157 : decode cX7_readsText 157 = .ok (.invokestatic 102, 3) := by decide +kernel
theorem dX7_readsText_160 : decode cX7_readsText 160 = .ok (.ifCond .eq 7, 3) := by decide +kernel
theorem dX7_readsText_163 : decode cX7_readsText 163 = .ok (.iconst 1, 1) := by decide +kernel
theorem dX7_readsText_164 : decode cX7_readsText 164 = .ok (.goto 4, 3) := by decide +kernel
theorem dX7_readsText_167 : decode cX7_readsText 167 = .ok (.iconst 0, 1) := by decide +kernel
theorem dX7_readsText_168 : decode cX7_readsText 168 = .ok (.iadd, 1) := by decide +kernel
theorem dX7_readsText_169 : decode cX7_readsText 169 = .ok (.istore_n 1, 1) := by decide +kernel
theorem dX7_readsText_170 : decode cX7_readsText 170 = .ok (.iinc 2 1, 3) := by decide +kernel
theorem dX7_readsText_173 : decode cX7_readsText 173 = .ok (.iload_n 3, 1) := by decide +kernel
theorem dX7_readsText_174 : decode cX7_readsText 174 = .ok (.iconst 4, 1) := by decide +kernel
theorem dX7_readsText_175 : decode cX7_readsText 175 = .ok (.if_icmp .ne 53, 3) := by decide +kernel
theorem dX7_readsText_178 : decode cX7_readsText 178 = .ok (.iload_n 2, 1) := by decide +kernel
theorem dX7_readsText_179 : decode cX7_readsText 179 = .ok (.aload_n 0, 1) := by decide +kernel
theorem dX7_readsText_180 : decode cX7_readsText 180 = .ok (.getfield 79, 3) := by decide +kernel
theorem dX7_readsText_183 : decode cX7_readsText 183 = .ok (.if_icmp .ge 15, 3) := by decide +kernel
theorem dX7_readsText_186 : decode cX7_readsText 186 = .ok (.aload_n 0, 1) := by decide +kernel
theorem dX7_readsText_187 : decode cX7_readsText 187 = .ok (.getfield 7, 3) := by decide +kernel
theorem dX7_readsText_190 : decode cX7_readsText 190 = .ok (.iload_n 2, 1) := by decide +kernel
theorem dX7_readsText_191 : decode cX7_readsText 191 = .ok (.iaload, 1) := by decide +kernel
theorem dX7_readsText_192 : decode cX7_readsText 192 = .ok (.bipush 48, 2) := by decide +kernel
theorem dX7_readsText_194 : decode cX7_readsText 194 = .ok (.isub, 1) := by decide +kernel
theorem dX7_readsText_195 : decode cX7_readsText 195 = .ok (.goto 4, 3) := by decide +kernel
theorem dX7_readsText_198 : decode cX7_readsText 198 = .ok (.iconst (-1), 1) := by decide +kernel
theorem dX7_readsText_199 : decode cX7_readsText 199 = .ok (.istore 4, 2) := by decide +kernel
theorem dX7_readsText_201 : decode cX7_readsText 201 = .ok (.iload 4, 2) := by decide +kernel
theorem dX7_readsText_203 : decode cX7_readsText 203 = .ok (.iconst 1, 1) := by decide +kernel
theorem dX7_readsText_204 : decode cX7_readsText 204 = .ok (.bipush 9, 2) := by decide +kernel
theorem dX7_readsText_206 : decode cX7_readsText 206 = .ok (.invokestatic 75, 3) := by decide +kernel
theorem dX7_readsText_209 : decode cX7_readsText 209 = .ok (.ifCond .ne 5, 3) := by decide +kernel
theorem dX7_readsText_212 : decode cX7_readsText 212 = .ok (.iload_n 2, 1) := by decide +kernel
theorem dX7_readsText_213 : decode cX7_readsText 213 = .ok (.ireturn, 1) := by decide +kernel
theorem dX7_readsText_214 : decode cX7_readsText 214 = .ok (.aload_n 0, 1) := by decide +kernel
theorem dX7_readsText_215 : decode cX7_readsText 215 = .ok (.getfield 20, 3) := by decide +kernel
theorem dX7_readsText_218 : decode cX7_readsText 218 = .ok (.aload_n 0, 1) := by decide +kernel
theorem dX7_readsText_219 : decode cX7_readsText 219 = .ok (.getfield 93, 3) := by decide +kernel
theorem dX7_readsText_222 : decode cX7_readsText 222 = .ok (.iload 4, 2) := by decide +kernel
theorem dX7_readsText_224 : decode cX7_readsText 224 = .ok (.iastore, 1) := by decide +kernel
theorem dX7_readsText_225 : decode cX7_readsText 225 = .ok (.iinc 2 1, 3) := by decide +kernel
theorem dX7_readsText_228 : decode cX7_readsText 228 = .ok (.aload_n 0, 1) := by decide +kernel
theorem dX7_readsText_229 : decode cX7_readsText 229 = .ok (.dup, 1) := by decide +kernel
theorem dX7_readsText_230 : decode cX7_readsText 230 = .ok (.getfield 93, 3) := by decide +kernel
theorem dX7_readsText_233 : decode cX7_readsText 233 = .ok (.iconst 1, 1) := by decide +kernel
theorem dX7_readsText_234 : decode cX7_readsText 234 = .ok (.iadd, 1) := by decide +kernel
theorem dX7_readsText_235 : decode cX7_readsText 235 = .ok (.putfield 93, 3) := by decide +kernel
theorem dX7_readsText_238 : decode cX7_readsText 238 = .ok (.goto (-213), 3) := by decide +kernel
theorem dX7_readsText_241 : decode cX7_readsText 241 = .ok (.iload_n 1, 1) := by decide +kernel
theorem dX7_readsText_242 : decode cX7_readsText 242 = .ok (.ifCond .le 10, 3) := by decide +kernel
theorem dX7_readsText_245 : decode cX7_readsText 245 = .ok (.aload_n 0, 1) := by decide +kernel
theorem dX7_readsText_246 : decode cX7_readsText 246 = .ok (.getfield 79, 3) := by decide +kernel
theorem dX7_readsText_249 : decode cX7_readsText 249 = .ok (.goto 4, 3) := by decide +kernel
theorem dX7_readsText_252 : decode cX7_readsText 252 = .ok (.iconst (-1), 1) := by decide +kernel
theorem dX7_readsText_253 : decode cX7_readsText 253 = .ok (.ireturn, 1) := by decide +kernel
theorem dX7_reads_0 : decode cX7_reads 0 = .ok (.aload_n 0, 1) := by decide +kernel
theorem dX7_reads_1 : decode cX7_reads 1 = .ok (.aload_n 0, 1) := by decide +kernel
theorem dX7_reads_2 : decode cX7_reads 2 = .ok (.invokevirtual 105, 3) := by decide +kernel
theorem dX7_reads_5 : decode cX7_reads 5 = .ok (.putfield 109, 3) := by decide +kernel
theorem dX7_reads_8 : decode cX7_reads 8 = .ok (.aload_n 0, 1) := by decide +kernel
theorem dX7_reads_9 : decode cX7_reads 9 = .ok (.aload_n 0, 1) := by decide +kernel
theorem dX7_reads_10 : decode cX7_reads 10 = .ok (.getfield 109, 3) := by decide +kernel
theorem dX7_reads_13 : decode cX7_reads 13 = .ok (.iconst (-1), 1) := by decide +kernel
theorem dX7_reads_14 : decode cX7_reads 14 = .ok (.if_icmp .ne 10, 3) := by decide +kernel
theorem dX7_reads_17 : decode cX7_reads 17 = .ok (.aload_n 0, 1) := by decide +kernel
theorem dX7_reads_18 : decode cX7_reads 18 = .ok (.getfield 93, 3) := by decide +kernel
theorem dX7_reads_21 : decode cX7_reads 21 = .ok (.goto 4, 3) := by decide +kernel
theorem dX7_reads_24 : decode cX7_reads 24 = .ok (.iconst 0, 1) := by decide +kernel
theorem dX7_reads_25 : decode cX7_reads 25 = .ok (.putfield 93, 3) := by decide +kernel
theorem dX7_reads_28 : decode cX7_reads 28 = .ok (.aload_n 0, 1) := by decide +kernel
theorem dX7_reads_29 : decode cX7_reads 29 = .ok (.aload_n 0, 1) := by decide +kernel
theorem dX7_reads_30 : decode cX7_reads 30 = .ok (.getfield 109, 3) := by decide +kernel
theorem dX7_reads_33 : decode cX7_reads 33 = .ok (.iconst (-1), 1) := by decide +kernel
theorem dX7_reads_34 : decode cX7_reads 34 = .ok (.if_icmp .ne 10, 3) := by decide +kernel
theorem dX7_reads_37 : decode cX7_reads 37 = .ok (.aload_n 0, 1) := by decide +kernel
theorem dX7_reads_38 : decode cX7_reads 38 = .ok (.getfield 96, 3) := by decide +kernel
theorem dX7_reads_41 : decode cX7_reads 41 = .ok (.goto 4, 3) := by decide +kernel
theorem dX7_reads_44 : decode cX7_reads 44 = .ok (.iconst 0, 1) := by decide +kernel
theorem dX7_reads_45 : decode cX7_reads 45 = .ok (.putfield 96, 3) := by decide +kernel
theorem dX7_reads_48 : decode cX7_reads 48 = .ok (.aload_n 0, 1) := by decide +kernel
theorem dX7_reads_49 : decode cX7_reads 49 = .ok (.getfield 93, 3) := by decide +kernel
theorem dX7_reads_52 : decode cX7_reads 52 = .ok (.iconst 1, 1) := by decide +kernel
theorem dX7_reads_53 : decode cX7_reads 53 = .ok (.isub, 1) := by decide +kernel
theorem dX7_reads_54 : decode cX7_reads 54 = .ok (.istore_n 1, 1) := by decide +kernel
theorem dX7_reads_55 : decode cX7_reads 55 = .ok (.iload_n 1, 1) := by decide +kernel
theorem dX7_reads_56 : decode cX7_reads 56 = .ok (.ifCond .lt 146, 3) := by decide +kernel
theorem dX7_reads_59 : decode cX7_reads 59 = .ok (.aload_n 0, 1) := by decide +kernel
theorem dX7_reads_60 : decode cX7_reads 60 = .ok (.getfield 17, 3) := by decide +kernel
theorem dX7_reads_63 : decode cX7_reads 63 = .ok (.iload_n 1, 1) := by decide +kernel
theorem dX7_reads_64 : decode cX7_reads 64 = .ok (.iaload, 1) := by decide +kernel
theorem dX7_reads_65 : decode cX7_reads 65 = .ok (.istore_n 2, 1) := by decide +kernel
theorem dX7_reads_66 : decode cX7_reads 66 = .ok (.aload_n 0, 1) := by decide +kernel
theorem dX7_reads_67 : decode cX7_reads 67 = .ok (.getfield 26, 3) := by decide +kernel
theorem dX7_reads_70 : decode cX7_reads 70 = .ok (.iload_n 1, 1) := by decide +kernel
theorem dX7_reads_71 : decode cX7_reads 71 = .ok (.iload_n 2, 1) := by decide +kernel
theorem dX7_reads_72 : decode cX7_reads 72 = .ok (.iconst 4, 1) := by decide +kernel
theorem dX7_reads_73 : decode cX7_reads 73 = .ok (.if_icmp .ne 7, 3) := by decide +kernel
theorem dX7_reads_76 : decode cX7_reads 76 = .ok (.iconst 2, 1) := by decide +kernel
theorem dX7_reads_77 : decode cX7_reads 77 = .ok (.goto 4, 3) := by decide +kernel
theorem dX7_reads_80 : decode cX7_reads 80 = .ok (.iconst 1, 1) := by decide +kernel
theorem dX7_reads_81 : decode cX7_reads 81 = .ok (.iastore, 1) := by decide +kernel
theorem dX7_reads_82 : decode cX7_reads 82 = .ok (.aload_n 0, 1) := by decide +kernel
theorem dX7_reads_83 : decode cX7_reads 83 = .ok (.getfield 29, 3) := by decide +kernel
theorem dX7_reads_86 : decode cX7_reads 86 = .ok (.iload_n 1, 1) := by decide +kernel
theorem dX7_reads_87 : decode cX7_reads 87 = .ok (.iconst 1, 1) := by decide +kernel
theorem dX7_reads_88 : decode cX7_reads 88 = .ok (.iastore, 1) := by decide +kernel
theorem dX7_reads_89 : decode cX7_reads 89 = .ok (.iload_n 2, 1) := by decide +kernel
theorem dX7_reads_90 : decode cX7_reads 90 = .ok (.ifCond .eq 46, 3) := by decide +kernel
theorem dX7_reads_93 : decode cX7_reads 93 = .ok (.aload_n 0, 1) := by decide +kernel
theorem dX7_reads_94 : decode cX7_reads 94 = .ok (.getfield 35, 3) := by decide +kernel
theorem dX7_reads_97 : decode cX7_reads 97 = .ok (.iload_n 1, 1) := by decide +kernel
theorem dX7_reads_98 : decode cX7_reads 98 = .ok (.iconst 1, 1) := by decide +kernel
theorem dX7_reads_99 : decode cX7_reads 99 = .ok (.iadd, 1) := by decide +kernel
theorem dX7_reads_100 : decode cX7_reads 100 = .ok (.iload_n 1, 1) := by decide +kernel
theorem dX7_reads_101 : decode cX7_reads 101 = .ok (.iastore, 1) := by decide +kernel
theorem dX7_reads_102 : decode cX7_reads 102 = .ok (.aload_n 0, 1) := by decide +kernel
theorem dX7_reads_103 : decode cX7_reads 103 = .ok (.getfield 26, 3) := by decide +kernel
theorem dX7_reads_106 : decode cX7_reads 106 = .ok (.iload_n 1, 1) := by decide +kernel
theorem dX7_reads_107 : decode cX7_reads 107 = .ok (.dup2, 1) := by decide +kernel
theorem dX7_reads_108 : decode cX7_reads 108 = .ok (.iaload, 1) := by decide +kernel
theorem dX7_reads_109 : decode cX7_reads 109 = .ok (.aload_n 0, 1) := by decide +kernel
theorem dX7_reads_110 : decode cX7_reads 110 = .ok (.getfield 26, 3) := by decide +kernel
theorem dX7_reads_113 : decode cX7_reads 113 = .ok (.iload_n 1, 1) := by decide +kernel
theorem dX7_reads_114 : decode cX7_reads 114 = .ok (.iconst 1, 1) := by decide +kernel
theorem dX7_reads_115 : decode cX7_reads 115 = .ok (.iadd, 1) := by decide +kernel
theorem dX7_reads_116 : decode cX7_reads 116 = .ok (.iaload, 1) := by decide +kernel
theorem dX7_reads_117 : decode cX7_reads 117 = .ok (.iadd, 1) := by decide +kernel
theorem dX7_reads_118 : decode cX7_reads 118 = .ok (.iastore, 1) := by decide +kernel
theorem dX7_reads_119 : decode cX7_reads 119 = .ok (.aload_n 0, 1) := by decide +kernel
theorem dX7_reads_120 : decode cX7_reads 120 = .ok (.getfield 29, 3) := by decide +kernel
theorem dX7_reads_123 : decode cX7_reads 123 = .ok (.iload_n 1, 1) := by decide +kernel
theorem dX7_reads_124 : decode cX7_reads 124 = .ok (.dup2, 1) := by decide +kernel
theorem dX7_reads_125 : decode cX7_reads 125 = .ok (.iaload, 1) := by decide +kernel
theorem dX7_reads_126 : decode cX7_reads 126 = .ok (.aload_n 0, 1) := by decide +kernel
theorem dX7_reads_127 : decode cX7_reads 127 = .ok (.getfield 29, 3) := by decide +kernel
theorem dX7_reads_130 : decode cX7_reads 130 = .ok (.iload_n 1, 1) := by decide +kernel
theorem dX7_reads_131 : decode cX7_reads 131 = .ok (.iconst 1, 1) := by decide +kernel
theorem dX7_reads_132 : decode cX7_reads 132 = .ok (.iadd, 1) := by decide +kernel
theorem dX7_reads_133 : decode cX7_reads 133 = .ok (.iaload, 1) := by decide +kernel
theorem dX7_reads_134 : decode cX7_reads 134 = .ok (.iadd, 1) := by decide +kernel
theorem dX7_reads_135 : decode cX7_reads 135 = .ok (.iastore, 1) := by decide +kernel
theorem dX7_reads_136 : decode cX7_reads 136 = .ok (.iload_n 2, 1) := by decide +kernel
theorem dX7_reads_137 : decode cX7_reads 137 = .ok (.invokestatic 102, 3) := by decide +kernel
theorem dX7_reads_140 : decode cX7_reads 140 = .ok (.ifCond .eq 56, 3) := by decide +kernel
theorem dX7_reads_143 : decode cX7_reads 143 = .ok (.iload_n 1, 1) := by decide +kernel
theorem dX7_reads_144 : decode cX7_reads 144 = .ok (.aload_n 0, 1) := by decide +kernel
theorem dX7_reads_145 : decode cX7_reads 145 = .ok (.getfield 29, 3) := by decide +kernel
theorem dX7_reads_148 : decode cX7_reads 148 = .ok (.iload_n 1, 1) := by decide +kernel
theorem dX7_reads_149 : decode cX7_reads 149 = .ok (.iaload, 1) := by decide +kernel
theorem dX7_reads_150 : decode cX7_reads 150 = .ok (.iadd, 1) := by decide +kernel
theorem dX7_reads_151 : decode cX7_reads 151 = .ok (.istore_n 3, 1) := by decide +kernel
theorem dX7_reads_152 : decode cX7_reads 152 = .ok (.aload_n 0, 1) := by decide +kernel
theorem dX7_reads_153 : decode cX7_reads 153 = .ok (.getfield 32, 3) := by decide +kernel
theorem dX7_reads_156 : decode cX7_reads 156 = .ok (.iload_n 1, 1) := by decide +kernel
theorem dX7_reads_157 : decode cX7_reads 157 = .ok (.iload_n 3, 1) := by decide +kernel
theorem dX7_reads_158 : decode cX7_reads 158 = .ok (.iastore, 1) := by decide +kernel
theorem dX7_reads_159 : decode cX7_reads 159 = .ok (.aload_n 0, 1) := by decide +kernel
theorem dX7_reads_160 : decode cX7_reads 160 = .ok (.getfield 35, 3) := by decide +kernel
theorem dX7_reads_163 : decode cX7_reads 163 = .ok (.iload_n 3, 1) := by decide +kernel
theorem dX7_reads_164 : decode cX7_reads 164 = .ok (.iload_n 1, 1) := by decide +kernel
theorem dX7_reads_165 : decode cX7_reads 165 = .ok (.iastore, 1) := by decide +kernel
theorem dX7_reads_166 : decode cX7_reads 166 = .ok (.aload_n 0, 1) := by decide +kernel
theorem dX7_reads_167 : decode cX7_reads 167 = .ok (.getfield 26, 3) := by decide +kernel
theorem dX7_reads_170 : decode cX7_reads 170 = .ok (.iload_n 1, 1) := by decide +kernel
theorem dX7_reads_171 : decode cX7_reads 171 = .ok (.dup2, 1) := by decide +kernel
theorem dX7_reads_172 : decode cX7_reads 172 = .ok (.iaload, 1) := by decide +kernel
theorem dX7_reads_173 : decode cX7_reads 173 = .ok (.aload_n 0, 1) := by decide +kernel
theorem dX7_reads_174 : decode cX7_reads 174 = .ok (.getfield 26, 3) := by decide +kernel
theorem dX7_reads_177 : decode cX7_reads 177 = .ok (.iload_n 3, 1) := by decide +kernel
theorem dX7_reads_178 : decode cX7_reads 178 = .ok (.iaload, 1) := by decide +kernel
theorem dX7_reads_179 : decode cX7_reads 179 = .ok (.iadd, 1) := by decide +kernel
theorem dX7_reads_180 : decode cX7_reads 180 = .ok (.iastore, 1) := by decide +kernel
theorem dX7_reads_181 : decode cX7_reads 181 = .ok (.aload_n 0, 1) := by decide +kernel
theorem dX7_reads_182 : decode cX7_reads 182 = .ok (.getfield 29, 3) := by decide +kernel
theorem dX7_reads_185 : decode cX7_reads 185 = .ok (.iload_n 1, 1) := by decide +kernel
theorem dX7_reads_186 : decode cX7_reads 186 = .ok (.dup2, 1) := by decide +kernel
theorem dX7_reads_187 : decode cX7_reads 187 = .ok (.iaload, 1) := by decide +kernel
theorem dX7_reads_188 : decode cX7_reads 188 = .ok (.aload_n 0, 1) := by decide +kernel
theorem dX7_reads_189 : decode cX7_reads 189 = .ok (.getfield 29, 3) := by decide +kernel
theorem dX7_reads_192 : decode cX7_reads 192 = .ok (.iload_n 3, 1) := by decide +kernel
theorem dX7_reads_193 : decode cX7_reads 193 = .ok (.iaload, 1) := by decide +kernel
theorem dX7_reads_194 : decode cX7_reads 194 = .ok (.iadd, 1) := by decide +kernel
theorem dX7_reads_195 : decode cX7_reads 195 = .ok (.iastore, 1) := by decide +kernel
theorem dX7_reads_196 : decode cX7_reads 196 = .ok (.iinc 1 (-1), 3) := by decide +kernel
theorem dX7_reads_199 : decode cX7_reads 199 = .ok (.goto (-144), 3) := by decide +kernel
theorem dX7_reads_202 : decode cX7_reads 202 = .ok (.aload_n 0, 1) := by decide +kernel
theorem dX7_reads_203 : decode cX7_reads 203 = .ok (.getfield 35, 3) := by decide +kernel
theorem dX7_reads_206 : decode cX7_reads 206 = .ok (.iconst 0, 1) := by decide +kernel
theorem dX7_reads_207 : decode cX7_reads 207 = .ok (.iconst (-1), 1) := by decide +kernel
theorem dX7_reads_208 : decode cX7_reads 208 = .ok (.iastore, 1) := by decide +kernel
theorem dX7_reads_209 : decode cX7_reads 209 = .ok (.return_, 1) := by decide +kernel
theorem dX7_faultOf_0 : decode cX7_faultOf 0 = .ok (.aload_n 0, 1) := by decide +kernel
theorem dX7_faultOf_1 : decode cX7_faultOf 1 = .ok (.invokevirtual 112, 3) := by decide +kernel
theorem dX7_faultOf_4 : decode cX7_faultOf 4 = .ok (.aload_n 0, 1) := by decide +kernel
theorem dX7_faultOf_5 : decode cX7_faultOf 5 = .ok (.getfield 109, 3) := by decide +kernel
theorem dX7_faultOf_8 : decode cX7_faultOf 8 = .ok (.ireturn, 1) := by decide +kernel
theorem dX7_fault_0 : decode cX7_fault 0 = .ok (.aload_n 0, 1) := by decide +kernel
theorem dX7_fault_1 : decode cX7_fault 1 = .ok (.invokevirtual 115, 3) := by decide +kernel
theorem dX7_fault_4 : decode cX7_fault 4 = .ok (.ireturn, 1) := by decide +kernel
theorem dX7_shape_0 : decode cX7_shape 0 = .ok (.iload_n 0, 1) := by decide +kernel
theorem dX7_shape_1 : decode cX7_shape 1 = .ok (.iload_n 1, 1) := by decide +kernel
theorem dX7_shape_2 : decode cX7_shape 2 = .ok (.bipush 6, 2) := by decide +kernel
theorem dX7_shape_4 : decode cX7_shape 4 = .ok (.ishl, 1) := by decide +kernel
theorem dX7_shape_5 : decode cX7_shape 5 = .ok (.ior, 1) := by decide +kernel
theorem dX7_shape_6 : decode cX7_shape 6 = .ok (.iload_n 2, 1) := by decide +kernel
theorem dX7_shape_7 : decode cX7_shape 7 = .ok (.bipush 15, 2) := by decide +kernel
theorem dX7_shape_9 : decode cX7_shape 9 = .ok (.ishl, 1) := by decide +kernel
theorem dX7_shape_10 : decode cX7_shape 10 = .ok (.ior, 1) := by decide +kernel
theorem dX7_shape_11 : decode cX7_shape 11 = .ok (.iload_n 3, 1) := by decide +kernel
theorem dX7_shape_12 : decode cX7_shape 12 = .ok (.bipush 24, 2) := by decide +kernel
theorem dX7_shape_14 : decode cX7_shape 14 = .ok (.ishl, 1) := by decide +kernel
theorem dX7_shape_15 : decode cX7_shape 15 = .ok (.ior, 1) := by decide +kernel
theorem dX7_shape_16 : decode cX7_shape 16 = .ok (.ireturn, 1) := by decide +kernel
theorem dX7_lines_0 : decode cX7_lines 0 = .ok (.iload_n 0, 1) := by decide +kernel
theorem dX7_lines_1 : decode cX7_lines 1 = .ok (.bipush 63, 2) := by decide +kernel
theorem dX7_lines_3 : decode cX7_lines 3 = .ok (.iand, 1) := by decide +kernel
theorem dX7_lines_4 : decode cX7_lines 4 = .ok (.ireturn, 1) := by decide +kernel
theorem dX7_last_0 : decode cX7_last 0 = .ok (.iload_n 0, 1) := by decide +kernel
theorem dX7_last_1 : decode cX7_last 1 = .ok (.bipush 6, 2) := by decide +kernel
theorem dX7_last_3 : decode cX7_last 3 = .ok (.ishr, 1) := by decide +kernel
theorem dX7_last_4 : decode cX7_last 4 = .ok (.sipush 511, 3) := by decide +kernel
theorem dX7_last_7 : decode cX7_last 7 = .ok (.iand, 1) := by decide +kernel
theorem dX7_last_8 : decode cX7_last 8 = .ok (.ireturn, 1) := by decide +kernel
theorem dX7_most_0 : decode cX7_most 0 = .ok (.iload_n 0, 1) := by decide +kernel
theorem dX7_most_1 : decode cX7_most 1 = .ok (.bipush 15, 2) := by decide +kernel
theorem dX7_most_3 : decode cX7_most 3 = .ok (.ishr, 1) := by decide +kernel
theorem dX7_most_4 : decode cX7_most 4 = .ok (.sipush 511, 3) := by decide +kernel
theorem dX7_most_7 : decode cX7_most 7 = .ok (.iand, 1) := by decide +kernel
theorem dX7_most_8 : decode cX7_most 8 = .ok (.ireturn, 1) := by decide +kernel
theorem dX7_wayOf_0 : decode cX7_wayOf 0 = .ok (.iload_n 0, 1) := by decide +kernel
theorem dX7_wayOf_1 : decode cX7_wayOf 1 = .ok (.bipush 24, 2) := by decide +kernel
theorem dX7_wayOf_3 : decode cX7_wayOf 3 = .ok (.ishr, 1) := by decide +kernel
theorem dX7_wayOf_4 : decode cX7_wayOf 4 = .ok (.ireturn, 1) := by decide +kernel
theorem dX7_max_0 : decode cX7_max 0 = .ok (.iload_n 0, 1) := by decide +kernel
theorem dX7_max_1 : decode cX7_max 1 = .ok (.iload_n 1, 1) := by decide +kernel
theorem dX7_max_2 : decode cX7_max 2 = .ok (.if_icmp .le 7, 3) := by decide +kernel
theorem dX7_max_5 : decode cX7_max 5 = .ok (.iload_n 0, 1) := by decide +kernel
theorem dX7_max_6 : decode cX7_max 6 = .ok (.goto 4, 3) := by decide +kernel
theorem dX7_max_9 : decode cX7_max 9 = .ok (.iload_n 1, 1) := by decide +kernel
theorem dX7_max_10 : decode cX7_max 10 = .ok (.ireturn, 1) := by decide +kernel
theorem dX7_both_0 : decode cX7_both 0 = .ok (.iload_n 1, 1) := by decide +kernel
theorem dX7_both_1 : decode cX7_both 1 = .ok (.invokestatic 118, 3) := by decide +kernel
theorem dX7_both_4 : decode cX7_both 4 = .ok (.iload_n 2, 1) := by decide +kernel
theorem dX7_both_5 : decode cX7_both 5 = .ok (.invokestatic 118, 3) := by decide +kernel
theorem dX7_both_8 : decode cX7_both 8 = .ok (.ior, 1) := by decide +kernel
theorem dX7_both_9 : decode cX7_both 9 = .ok (.istore_n 3, 1) := by decide +kernel
theorem dX7_both_10 : decode cX7_both 10 = .ok (.iload_n 0, 1) := by decide +kernel
theorem dX7_both_11 : decode cX7_both 11 = .ok (.iconst 1, 1) := by decide +kernel
theorem dX7_both_12 : decode cX7_both 12 = .ok (.if_icmp .ne 44, 3) := by decide +kernel
theorem dX7_both_15 : decode cX7_both 15 = .ok (.iload_n 1, 1) := by decide +kernel
theorem dX7_both_16 : decode cX7_both 16 = .ok (.invokestatic 121, 3) := by decide +kernel
theorem dX7_both_19 : decode cX7_both 19 = .ok (.iload_n 2, 1) := by decide +kernel
theorem dX7_both_20 : decode cX7_both 20 = .ok (.invokestatic 121, 3) := by decide +kernel
theorem dX7_both_23 : decode cX7_both 23 = .ok (.iadd, 1) := by decide +kernel
theorem dX7_both_24 : decode cX7_both 24 = .ok (.iconst 1, 1) := by decide +kernel
theorem dX7_both_25 : decode cX7_both 25 = .ok (.isub, 1) := by decide +kernel
theorem dX7_both_26 : decode cX7_both 26 = .ok (.iload_n 1, 1) := by decide +kernel
theorem dX7_both_27 : decode cX7_both 27 = .ok (.invokestatic 124, 3) := by decide +kernel
theorem dX7_both_30 : decode cX7_both 30 = .ok (.iload_n 2, 1) := by decide +kernel
theorem dX7_both_31 : decode cX7_both 31 = .ok (.invokestatic 124, 3) := by decide +kernel
theorem dX7_both_34 : decode cX7_both 34 = .ok (.iadd, 1) := by decide +kernel
theorem dX7_both_35 : decode cX7_both 35 = .ok (.iload_n 1, 1) := by decide +kernel
theorem dX7_both_36 : decode cX7_both 36 = .ok (.invokestatic 127, 3) := by decide +kernel
theorem dX7_both_39 : decode cX7_both 39 = .ok (.iload_n 1, 1) := by decide +kernel
theorem dX7_both_40 : decode cX7_both 40 = .ok (.invokestatic 124, 3) := by decide +kernel
theorem dX7_both_43 : decode cX7_both 43 = .ok (.iload_n 2, 1) := by decide +kernel
theorem dX7_both_44 : decode cX7_both 44 = .ok (.invokestatic 127, 3) := by decide +kernel
theorem dX7_both_47 : decode cX7_both 47 = .ok (.iadd, 1) := by decide +kernel
theorem dX7_both_48 : decode cX7_both 48 = .ok (.invokestatic 130, 3) := by decide +kernel
theorem dX7_both_51 : decode cX7_both 51 = .ok (.iload_n 3, 1) := by decide +kernel
theorem dX7_both_52 : decode cX7_both 52 = .ok (.invokestatic 134, 3) := by decide +kernel
theorem dX7_both_55 : decode cX7_both 55 = .ok (.ireturn, 1) := by decide +kernel
theorem dX7_both_56 : decode cX7_both 56 = .ok (.iload_n 1, 1) := by decide +kernel
theorem dX7_both_57 : decode cX7_both 57 = .ok (.invokestatic 121, 3) := by decide +kernel
theorem dX7_both_60 : decode cX7_both 60 = .ok (.iload_n 2, 1) := by decide +kernel
theorem dX7_both_61 : decode cX7_both 61 = .ok (.invokestatic 121, 3) := by decide +kernel
theorem dX7_both_64 : decode cX7_both 64 = .ok (.iadd, 1) := by decide +kernel
theorem dX7_both_65 : decode cX7_both 65 = .ok (.iload_n 2, 1) := by decide +kernel
theorem dX7_both_66 : decode cX7_both 66 = .ok (.invokestatic 124, 3) := by decide +kernel
theorem dX7_both_69 : decode cX7_both 69 = .ok (.iload_n 1, 1) := by decide +kernel
theorem dX7_both_70 : decode cX7_both 70 = .ok (.invokestatic 127, 3) := by decide +kernel
theorem dX7_both_73 : decode cX7_both 73 = .ok (.iload_n 2, 1) := by decide +kernel
theorem dX7_both_74 : decode cX7_both 74 = .ok (.invokestatic 127, 3) := by decide +kernel
theorem dX7_both_77 : decode cX7_both 77 = .ok (.invokestatic 130, 3) := by decide +kernel
theorem dX7_both_80 : decode cX7_both 80 = .ok (.iload_n 3, 1) := by decide +kernel
theorem dX7_both_81 : decode cX7_both 81 = .ok (.invokestatic 134, 3) := by decide +kernel
theorem dX7_both_84 : decode cX7_both 84 = .ok (.ireturn, 1) := by decide +kernel
theorem dX7_pushed_0 : decode cX7_pushed 0 = .ok (.iload_n 0, 1) := by decide +kernel
theorem dX7_pushed_1 : decode cX7_pushed 1 = .ok (.invokestatic 121, 3) := by decide +kernel
theorem dX7_pushed_4 : decode cX7_pushed 4 = .ok (.iload_n 0, 1) := by decide +kernel
theorem dX7_pushed_5 : decode cX7_pushed 5 = .ok (.invokestatic 124, 3) := by decide +kernel
theorem dX7_pushed_8 : decode cX7_pushed 8 = .ok (.iload_n 1, 1) := by decide +kernel
theorem dX7_pushed_9 : decode cX7_pushed 9 = .ok (.iadd, 1) := by decide +kernel
theorem dX7_pushed_10 : decode cX7_pushed 10 = .ok (.iload_n 0, 1) := by decide +kernel
theorem dX7_pushed_11 : decode cX7_pushed 11 = .ok (.invokestatic 127, 3) := by decide +kernel
theorem dX7_pushed_14 : decode cX7_pushed 14 = .ok (.iload_n 1, 1) := by decide +kernel
theorem dX7_pushed_15 : decode cX7_pushed 15 = .ok (.iadd, 1) := by decide +kernel
theorem dX7_pushed_16 : decode cX7_pushed 16 = .ok (.iload_n 0, 1) := by decide +kernel
theorem dX7_pushed_17 : decode cX7_pushed 17 = .ok (.invokestatic 118, 3) := by decide +kernel
theorem dX7_pushed_20 : decode cX7_pushed 20 = .ok (.invokestatic 134, 3) := by decide +kernel
theorem dX7_pushed_23 : decode cX7_pushed 23 = .ok (.ireturn, 1) := by decide +kernel
theorem dX7_isNoGreater_0 : decode cX7_isNoGreater 0 = .ok (.iload_n 0, 1) := by decide +kernel
theorem dX7_isNoGreater_1 : decode cX7_isNoGreater 1 = .ok (.invokestatic 121, 3) := by decide +kernel
theorem dX7_isNoGreater_4 : decode cX7_isNoGreater 4 = .ok (.iload_n 1, 1) := by decide +kernel
theorem dX7_isNoGreater_5 : decode cX7_isNoGreater 5 = .ok (.invokestatic 121, 3) := by decide +kernel
theorem dX7_isNoGreater_8 : decode cX7_isNoGreater 8 = .ok (.if_icmp .gt 29, 3) := by decide +kernel
theorem dX7_isNoGreater_11 : decode cX7_isNoGreater 11 = .ok (.iload_n 0, 1) := by decide +kernel
theorem dX7_isNoGreater_12 : decode cX7_isNoGreater 12 = .ok (.invokestatic 124, 3) := by decide +kernel
theorem dX7_isNoGreater_15 : decode cX7_isNoGreater 15 = .ok (.iload_n 1, 1) := by decide +kernel
theorem dX7_isNoGreater_16 : decode cX7_isNoGreater 16 = .ok (.invokestatic 124, 3) := by decide +kernel
theorem dX7_isNoGreater_19 : decode cX7_isNoGreater 19 = .ok (.if_icmp .gt 18, 3) := by decide +kernel
theorem dX7_isNoGreater_22 : decode cX7_isNoGreater 22 = .ok (.iload_n 0, 1) := by decide +kernel
theorem dX7_isNoGreater_23 : decode cX7_isNoGreater 23 = .ok (.invokestatic 127, 3) := by decide +kernel
theorem dX7_isNoGreater_26 : decode cX7_isNoGreater 26 = .ok (.iload_n 1, 1) := by decide +kernel
theorem dX7_isNoGreater_27 : decode cX7_isNoGreater 27 = .ok (.invokestatic 127, 3) := by decide +kernel
theorem dX7_isNoGreater_30 : decode cX7_isNoGreater 30 = .ok (.if_icmp .gt 7, 3) := by decide +kernel
theorem dX7_isNoGreater_33 : decode cX7_isNoGreater 33 = .ok (.iconst 1, 1) := by decide +kernel
theorem dX7_isNoGreater_34 : decode cX7_isNoGreater 34 = .ok (.goto 4, 3) := by decide +kernel
theorem dX7_isNoGreater_37 : decode cX7_isNoGreater 37 = .ok (.iconst 0, 1) := by decide +kernel
theorem dX7_isNoGreater_38 : decode cX7_isNoGreater 38 = .ok (.ireturn, 1) := by decide +kernel
theorem dX7_tries_0 : decode cX7_tries 0 = .ok (.bipush 64, 2) := by decide +kernel
theorem dX7_tries_2 : decode cX7_tries 2 = .ok (.iload_n 1, 1) := by decide +kernel
theorem dX7_tries_3 : decode cX7_tries 3 = .ok (.imul, 1) := by decide +kernel
theorem dX7_tries_4 : decode cX7_tries 4 = .ok (.istore_n 3, 1) := by decide +kernel
theorem dX7_tries_5 : decode cX7_tries 5 = .ok (.aload_n 0, 1) := by decide +kernel
theorem dX7_tries_6 : decode cX7_tries 6 = .ok (.dup, 1) := by decide +kernel
theorem dX7_tries_7 : decode cX7_tries 7 = .ok (.getfield 138, 3) := by decide +kernel
theorem dX7_tries_10 : decode cX7_tries 10 = .ok (.iconst 1, 1) := by decide +kernel
theorem dX7_tries_11 : decode cX7_tries 11 = .ok (.iadd, 1) := by decide +kernel
theorem dX7_tries_12 : decode cX7_tries 12 = .ok (.putfield 138, 3) := by decide +kernel
theorem dX7_tries_15 : decode cX7_tries 15 = .ok (.iload_n 2, 1) := by decide +kernel
theorem dX7_tries_16 : decode cX7_tries 16 = .ok (.invokestatic 127, 3) := by decide +kernel
theorem dX7_tries_19 : decode cX7_tries 19 = .ok (.aload_n 0, 1) := by decide +kernel
theorem dX7_tries_20 : decode cX7_tries 20 = .ok (.getfield 141, 3) := by decide +kernel
theorem dX7_tries_23 : decode cX7_tries 23 = .ok (.if_icmp .gt 21, 3) := by decide +kernel
theorem dX7_tries_26 : decode cX7_tries 26 = .ok (.aload_n 0, 1) := by decide +kernel
theorem dX7_tries_27 : decode cX7_tries 27 = .ok (.getfield 17, 3) := by decide +kernel
theorem dX7_tries_30 : decode cX7_tries 30 = .ok (.iload_n 1, 1) := by decide +kernel
theorem dX7_tries_31 : decode cX7_tries 31 = .ok (.iaload, 1) := by decide +kernel
theorem dX7_tries_32 : decode cX7_tries 32 = .ok (.iconst 5, 1) := by decide +kernel
theorem dX7_tries_33 : decode cX7_tries 33 = .ok (.if_icmp .ne 15, 3) := by decide +kernel
theorem dX7_tries_36 : decode cX7_tries 36 = .ok (.iload_n 2, 1) := by decide +kernel
theorem dX7_tries_37 : decode cX7_tries 37 = .ok (.invokestatic 121, 3) := by decide +kernel
theorem dX7_tries_40 : decode cX7_tries 40 = .ok (.iconst 1, 1) := by decide +kernel
theorem dX7_tries_41 : decode cX7_tries 41 = .ok (.if_icmp .le 7, 3) := by decide +kernel
theorem dX7_tries_44 : decode cX7_tries 44 = .ok (.iconst 1, 1) := by decide +kernel
theorem dX7_tries_45 : decode cX7_tries 45 = .ok (.goto 4, 3) := by decide +kernel
theorem dX7_tries_48 : decode cX7_tries 48 = .ok (.iconst 0, 1) := by decide +kernel
theorem dX7_tries_49 : decode cX7_tries 49 = .ok (.istore 4, 2) := by decide +kernel
theorem dX7_tries_51 : decode cX7_tries 51 = .ok (.iconst 0, 1) := by decide +kernel
theorem dX7_tries_52 : decode cX7_tries 52 = .ok (.istore 5, 2) := by decide +kernel
theorem dX7_tries_54 : decode cX7_tries 54 = .ok (.iload 5, 2) := by decide +kernel
theorem dX7_tries_56 : decode cX7_tries 56 = .ok (.aload_n 0, 1) := by decide +kernel
theorem dX7_tries_57 : decode cX7_tries 57 = .ok (.getfield 41, 3) := by decide +kernel
theorem dX7_tries_60 : decode cX7_tries 60 = .ok (.iload_n 1, 1) := by decide +kernel
theorem dX7_tries_61 : decode cX7_tries 61 = .ok (.iaload, 1) := by decide +kernel
theorem dX7_tries_62 : decode cX7_tries 62 = .ok (.if_icmp .ge 29, 3) := by decide +kernel
theorem dX7_tries_65 : decode cX7_tries 65 = .ok (.iload 4, 2) := by decide +kernel
theorem dX7_tries_67 : decode cX7_tries 67 = .ok (.ifCond .ne 24, 3) := by decide +kernel
theorem dX7_tries_70 : decode cX7_tries 70 = .ok (.aload_n 0, 1) := by decide +kernel
theorem dX7_tries_71 : decode cX7_tries 71 = .ok (.getfield 38, 3) := by decide +kernel
theorem dX7_tries_74 : decode cX7_tries 74 = .ok (.iload_n 3, 1) := by decide +kernel
theorem dX7_tries_75 : decode cX7_tries 75 = .ok (.iload 5, 2) := by decide +kernel
theorem dX7_tries_77 : decode cX7_tries 77 = .ok (.iadd, 1) := by decide +kernel
theorem dX7_tries_78 : decode cX7_tries 78 = .ok (.iaload, 1) := by decide +kernel
theorem dX7_tries_79 : decode cX7_tries 79 = .ok (.iload_n 2, 1) := by decide +kernel
theorem dX7_tries_80 : decode cX7_tries 80 = .ok (.invokestatic 144, 3) := by decide +kernel
theorem dX7_tries_83 : decode cX7_tries 83 = .ok (.istore 4, 2) := by decide +kernel
theorem dX7_tries_85 : decode cX7_tries 85 = .ok (.iinc 5 1, 3) := by decide +kernel
theorem dX7_tries_88 : decode cX7_tries 88 = .ok (.goto (-34), 3) := by decide +kernel
theorem dX7_tries_91 : decode cX7_tries 91 = .ok (.iload 4, 2) := by decide +kernel
theorem dX7_tries_93 : decode cX7_tries 93 = .ok (.ifCond .eq 14, 3) := by decide +kernel
theorem dX7_tries_96 : decode cX7_tries 96 = .ok (.aload_n 0, 1) := by decide +kernel
theorem dX7_tries_97 : decode cX7_tries 97 = .ok (.dup, 1) := by decide +kernel
theorem dX7_tries_98 : decode cX7_tries 98 = .ok (.getfield 148, 3) := by decide +kernel
theorem dX7_tries_101 : decode cX7_tries 101 = .ok (.iconst 1, 1) := by decide +kernel
theorem dX7_tries_102 : decode cX7_tries 102 = .ok (.iadd, 1) := by decide +kernel
theorem dX7_tries_103 : decode cX7_tries 103 = .ok (.putfield 148, 3) := by decide +kernel
theorem dX7_tries_106 : decode cX7_tries 106 = .ok (.return_, 1) := by decide +kernel
theorem dX7_tries_107 : decode cX7_tries 107 = .ok (.iconst 0, 1) := by decide +kernel
theorem dX7_tries_108 : decode cX7_tries 108 = .ok (.istore 5, 2) := by decide +kernel
theorem dX7_tries_110 : decode cX7_tries 110 = .ok (.iconst 0, 1) := by decide +kernel
theorem dX7_tries_111 : decode cX7_tries 111 = .ok (.istore 6, 2) := by decide +kernel
theorem dX7_tries_113 : decode cX7_tries 113 = .ok (.iload 6, 2) := by decide +kernel
theorem dX7_tries_115 : decode cX7_tries 115 = .ok (.aload_n 0, 1) := by decide +kernel
theorem dX7_tries_116 : decode cX7_tries 116 = .ok (.getfield 41, 3) := by decide +kernel
theorem dX7_tries_119 : decode cX7_tries 119 = .ok (.iload_n 1, 1) := by decide +kernel
theorem dX7_tries_120 : decode cX7_tries 120 = .ok (.iaload, 1) := by decide +kernel
theorem dX7_tries_121 : decode cX7_tries 121 = .ok (.if_icmp .ge 46, 3) := by decide +kernel
theorem dX7_tries_124 : decode cX7_tries 124 = .ok (.iload_n 2, 1) := by decide +kernel
theorem dX7_tries_125 : decode cX7_tries 125 = .ok (.aload_n 0, 1) := by decide +kernel
theorem dX7_tries_126 : decode cX7_tries 126 = .ok (.getfield 38, 3) := by decide +kernel
theorem dX7_tries_129 : decode cX7_tries 129 = .ok (.iload_n 3, 1) := by decide +kernel
theorem dX7_tries_130 : decode cX7_tries 130 = .ok (.iload 6, 2) := by decide +kernel
theorem dX7_tries_132 : decode cX7_tries 132 = .ok (.iadd, 1) := by decide +kernel
theorem dX7_tries_133 : decode cX7_tries 133 = .ok (.iaload, 1) := by decide +kernel
theorem dX7_tries_134 : decode cX7_tries 134 = .ok (.invokestatic 144, 3) := by decide +kernel
theorem dX7_tries_137 : decode cX7_tries 137 = .ok (.ifCond .ne 24, 3) := by decide +kernel
theorem dX7_tries_140 : decode cX7_tries 140 = .ok (.aload_n 0, 1) := by decide +kernel
theorem dX7_tries_141 : decode cX7_tries 141 = .ok (.getfield 38, 3) := by decide +kernel
theorem dX7_tries_144 : decode cX7_tries 144 = .ok (.iload_n 3, 1) := by decide +kernel
theorem dX7_tries_145 : decode cX7_tries 145 = .ok (.iload 5, 2) := by decide +kernel
theorem dX7_tries_147 : decode cX7_tries 147 = .ok (.iadd, 1) := by decide +kernel
theorem dX7_tries_148 : decode cX7_tries 148 = .ok (.aload_n 0, 1) := by decide +kernel
theorem dX7_tries_149 : decode cX7_tries 149 = .ok (.getfield 38, 3) := by decide +kernel
theorem dX7_tries_152 : decode cX7_tries 152 = .ok (.iload_n 3, 1) := by decide +kernel
theorem dX7_tries_153 : decode cX7_tries 153 = .ok (.iload 6, 2) := by decide +kernel
theorem dX7_tries_155 : decode cX7_tries 155 = .ok (.iadd, 1) := by decide +kernel
theorem dX7_tries_156 : decode cX7_tries 156 = .ok (.iaload, 1) := by decide +kernel
theorem dX7_tries_157 : decode cX7_tries 157 = .ok (.iastore, 1) := by decide +kernel
theorem dX7_tries_158 : decode cX7_tries 158 = .ok (.iinc 5 1, 3) := by decide +kernel
theorem dX7_tries_161 : decode cX7_tries 161 = .ok (.iinc 6 1, 3) := by decide +kernel
theorem dX7_tries_164 : decode cX7_tries 164 = .ok (.goto (-51), 3) := by decide +kernel
theorem dX7_tries_167 : decode cX7_tries 167 = .ok (.aload_n 0, 1) := by decide +kernel
theorem dX7_tries_168 : decode cX7_tries 168 = .ok (.dup, 1) := by decide +kernel
theorem dX7_tries_169 : decode cX7_tries 169 = .ok (.getfield 148, 3) := by decide +kernel
theorem dX7_tries_172 : decode cX7_tries 172 = .ok (.aload_n 0, 1) := by decide +kernel
theorem dX7_tries_173 : decode cX7_tries 173 = .ok (.getfield 41, 3) := by decide +kernel
theorem dX7_tries_176 : decode cX7_tries 176 = .ok (.iload_n 1, 1) := by decide +kernel
theorem dX7_tries_177 : decode cX7_tries 177 = .ok (.iaload, 1) := by decide +kernel
theorem dX7_tries_178 : decode cX7_tries 178 = .ok (.iload 5, 2) := by decide +kernel
theorem dX7_tries_180 : decode cX7_tries 180 = .ok (.isub, 1) := by decide +kernel
theorem dX7_tries_181 : decode cX7_tries 181 = .ok (.iadd, 1) := by decide +kernel
theorem dX7_tries_182 : decode cX7_tries 182 = .ok (.putfield 148, 3) := by decide +kernel
theorem dX7_tries_185 : decode cX7_tries 185 = .ok (.aload_n 0, 1) := by decide +kernel
theorem dX7_tries_186 : decode cX7_tries 186 = .ok (.getfield 38, 3) := by decide +kernel
theorem dX7_tries_189 : decode cX7_tries 189 = .ok (.iload_n 3, 1) := by decide +kernel
theorem dX7_tries_190 : decode cX7_tries 190 = .ok (.iload 5, 2) := by decide +kernel
theorem dX7_tries_192 : decode cX7_tries 192 = .ok (.iadd, 1) := by decide +kernel
theorem dX7_tries_193 : decode cX7_tries 193 = .ok (.iload_n 2, 1) := by decide +kernel
theorem dX7_tries_194 : decode cX7_tries 194 = .ok (.iastore, 1) := by decide +kernel
theorem dX7_tries_195 : decode cX7_tries 195 = .ok (.aload_n 0, 1) := by decide +kernel
theorem dX7_tries_196 : decode cX7_tries 196 = .ok (.getfield 41, 3) := by decide +kernel
theorem dX7_tries_199 : decode cX7_tries 199 = .ok (.iload_n 1, 1) := by decide +kernel
theorem dX7_tries_200 : decode cX7_tries 200 = .ok (.iload 5, 2) := by decide +kernel
theorem dX7_tries_202 : decode cX7_tries 202 = .ok (.iconst 1, 1) := by decide +kernel
theorem dX7_tries_203 : decode cX7_tries 203 = .ok (.iadd, 1) := by decide +kernel
theorem dX7_tries_204 : decode cX7_tries 204 = .ok (.iastore, 1) := by decide +kernel
theorem dX7_tries_205 : decode cX7_tries 205 = .ok (.return_, 1) := by decide +kernel
theorem dX7_triesBoth_0 : decode cX7_triesBoth 0 = .ok (.iload_n 1, 1) := by decide +kernel
theorem dX7_triesBoth_1 : decode cX7_triesBoth 1 = .ok (.iconst 1, 1) := by decide +kernel
theorem dX7_triesBoth_2 : decode cX7_triesBoth 2 = .ok (.iadd, 1) := by decide +kernel
theorem dX7_triesBoth_3 : decode cX7_triesBoth 3 = .ok (.istore_n 2, 1) := by decide +kernel
theorem dX7_triesBoth_4 : decode cX7_triesBoth 4 = .ok (.aload_n 0, 1) := by decide +kernel
theorem dX7_triesBoth_5 : decode cX7_triesBoth 5 = .ok (.getfield 32, 3) := by decide +kernel
theorem dX7_triesBoth_8 : decode cX7_triesBoth 8 = .ok (.iload_n 1, 1) := by decide +kernel
theorem dX7_triesBoth_9 : decode cX7_triesBoth 9 = .ok (.iaload, 1) := by decide +kernel
theorem dX7_triesBoth_10 : decode cX7_triesBoth 10 = .ok (.istore_n 3, 1) := by decide +kernel
theorem dX7_triesBoth_11 : decode cX7_triesBoth 11 = .ok (.iconst 0, 1) := by decide +kernel
theorem dX7_triesBoth_12 : decode cX7_triesBoth 12 = .ok (.istore 4, 2) := by decide +kernel
theorem dX7_triesBoth_14 : decode cX7_triesBoth 14 = .ok (.iload 4, 2) := by decide +kernel
theorem dX7_triesBoth_16 : decode cX7_triesBoth 16 = .ok (.aload_n 0, 1) := by decide +kernel
theorem dX7_triesBoth_17 : decode cX7_triesBoth 17 = .ok (.getfield 41, 3) := by decide +kernel
theorem dX7_triesBoth_20 : decode cX7_triesBoth 20 = .ok (.iload_n 2, 1) := by decide +kernel
theorem dX7_triesBoth_21 : decode cX7_triesBoth 21 = .ok (.iaload, 1) := by decide +kernel
theorem dX7_triesBoth_22 : decode cX7_triesBoth 22 = .ok (.if_icmp .ge 67, 3) := by decide +kernel
theorem dX7_triesBoth_25 : decode cX7_triesBoth 25 = .ok (.iconst 0, 1) := by decide +kernel
theorem dX7_triesBoth_26 : decode cX7_triesBoth 26 = .ok (.istore 5, 2) := by decide +kernel
theorem dX7_triesBoth_28 : decode cX7_triesBoth 28 = .ok (.iload 5, 2) := by decide +kernel
theorem dX7_triesBoth_30 : decode cX7_triesBoth 30 = .ok (.aload_n 0, 1) := by decide +kernel
theorem dX7_triesBoth_31 : decode cX7_triesBoth 31 = .ok (.getfield 41, 3) := by decide +kernel
theorem dX7_triesBoth_34 : decode cX7_triesBoth 34 = .ok (.iload_n 3, 1) := by decide +kernel
theorem dX7_triesBoth_35 : decode cX7_triesBoth 35 = .ok (.iaload, 1) := by decide +kernel
theorem dX7_triesBoth_36 : decode cX7_triesBoth 36 = .ok (.if_icmp .ge 47, 3) := by decide +kernel
theorem dX7_triesBoth_39 : decode cX7_triesBoth 39 = .ok (.aload_n 0, 1) := by decide +kernel
theorem dX7_triesBoth_40 : decode cX7_triesBoth 40 = .ok (.iload_n 1, 1) := by decide +kernel
theorem dX7_triesBoth_41 : decode cX7_triesBoth 41 = .ok (.aload_n 0, 1) := by decide +kernel
theorem dX7_triesBoth_42 : decode cX7_triesBoth 42 = .ok (.getfield 17, 3) := by decide +kernel
theorem dX7_triesBoth_45 : decode cX7_triesBoth 45 = .ok (.iload_n 1, 1) := by decide +kernel
theorem dX7_triesBoth_46 : decode cX7_triesBoth 46 = .ok (.iaload, 1) := by decide +kernel
theorem dX7_triesBoth_47 : decode cX7_triesBoth 47 = .ok (.aload_n 0, 1) := by decide +kernel
theorem dX7_triesBoth_48 : decode cX7_triesBoth 48 = .ok (.getfield 38, 3) := by decide +kernel
theorem dX7_triesBoth_51 : decode cX7_triesBoth 51 = .ok (.bipush 64, 2) := by decide +kernel
theorem dX7_triesBoth_53 : decode cX7_triesBoth 53 = .ok (.iload_n 2, 1) := by decide +kernel
theorem dX7_triesBoth_54 : decode cX7_triesBoth 54 = .ok (.imul, 1) := by decide +kernel
theorem dX7_triesBoth_55 : decode cX7_triesBoth 55 = .ok (.iload 4, 2) := by decide +kernel
theorem dX7_triesBoth_57 : decode cX7_triesBoth 57 = .ok (.iadd, 1) := by decide +kernel
theorem dX7_triesBoth_58 : decode cX7_triesBoth 58 = .ok (.iaload, 1) := by decide +kernel
theorem dX7_triesBoth_59 : decode cX7_triesBoth 59 = .ok (.aload_n 0, 1) := by decide +kernel
theorem dX7_triesBoth_60 : decode cX7_triesBoth 60 = .ok (.getfield 38, 3) := by decide +kernel
theorem dX7_triesBoth_63 : decode cX7_triesBoth 63 = .ok (.bipush 64, 2) := by decide +kernel
theorem dX7_triesBoth_65 : decode cX7_triesBoth 65 = .ok (.iload_n 3, 1) := by decide +kernel
theorem dX7_triesBoth_66 : decode cX7_triesBoth 66 = .ok (.imul, 1) := by decide +kernel
theorem dX7_triesBoth_67 : decode cX7_triesBoth 67 = .ok (.iload 5, 2) := by decide +kernel
theorem dX7_triesBoth_69 : decode cX7_triesBoth 69 = .ok (.iadd, 1) := by decide +kernel
theorem dX7_triesBoth_70 : decode cX7_triesBoth 70 = .ok (.iaload, 1) := by decide +kernel
theorem dX7_triesBoth_71 : decode cX7_triesBoth 71 = .ok (.invokestatic 151, 3) := by decide +kernel
theorem dX7_triesBoth_74 : decode cX7_triesBoth 74 = .ok (.invokevirtual 155, 3) := by decide +kernel
theorem dX7_triesBoth_77 : decode cX7_triesBoth 77 = .ok (.iinc 5 1, 3) := by decide +kernel
theorem dX7_triesBoth_80 : decode cX7_triesBoth 80 = .ok (.goto (-52), 3) := by decide +kernel
theorem dX7_triesBoth_83 : decode cX7_triesBoth 83 = .ok (.iinc 4 1, 3) := by decide +kernel
theorem dX7_triesBoth_86 : decode cX7_triesBoth 86 = .ok (.goto (-72), 3) := by decide +kernel
theorem dX7_triesBoth_89 : decode cX7_triesBoth 89 = .ok (.return_, 1) := by decide +kernel
theorem dX7_triesChoice_0 : decode cX7_triesChoice 0 = .ok (.iconst 1, 1) := by decide +kernel
theorem dX7_triesChoice_1 : decode cX7_triesChoice 1 = .ok (.aload_n 0, 1) := by decide +kernel
theorem dX7_triesChoice_2 : decode cX7_triesChoice 2 = .ok (.getfield 20, 3) := by decide +kernel
theorem dX7_triesChoice_5 : decode cX7_triesChoice 5 = .ok (.iload_n 1, 1) := by decide +kernel
theorem dX7_triesChoice_6 : decode cX7_triesChoice 6 = .ok (.iaload, 1) := by decide +kernel
theorem dX7_triesChoice_7 : decode cX7_triesChoice 7 = .ok (.ishl, 1) := by decide +kernel
theorem dX7_triesChoice_8 : decode cX7_triesChoice 8 = .ok (.istore_n 2, 1) := by decide +kernel
theorem dX7_triesChoice_9 : decode cX7_triesChoice 9 = .ok (.iconst 0, 1) := by decide +kernel
theorem dX7_triesChoice_10 : decode cX7_triesChoice 10 = .ok (.istore_n 3, 1) := by decide +kernel
theorem dX7_triesChoice_11 : decode cX7_triesChoice 11 = .ok (.iload_n 3, 1) := by decide +kernel
theorem dX7_triesChoice_12 : decode cX7_triesChoice 12 = .ok (.aload_n 0, 1) := by decide +kernel
theorem dX7_triesChoice_13 : decode cX7_triesChoice 13 = .ok (.getfield 41, 3) := by decide +kernel
theorem dX7_triesChoice_16 : decode cX7_triesChoice 16 = .ok (.iload_n 1, 1) := by decide +kernel
theorem dX7_triesChoice_17 : decode cX7_triesChoice 17 = .ok (.iconst 1, 1) := by decide +kernel
theorem dX7_triesChoice_18 : decode cX7_triesChoice 18 = .ok (.iadd, 1) := by decide +kernel
theorem dX7_triesChoice_19 : decode cX7_triesChoice 19 = .ok (.iaload, 1) := by decide +kernel
theorem dX7_triesChoice_20 : decode cX7_triesChoice 20 = .ok (.if_icmp .ge 27, 3) := by decide +kernel
theorem dX7_triesChoice_23 : decode cX7_triesChoice 23 = .ok (.aload_n 0, 1) := by decide +kernel
theorem dX7_triesChoice_24 : decode cX7_triesChoice 24 = .ok (.iload_n 1, 1) := by decide +kernel
theorem dX7_triesChoice_25 : decode cX7_triesChoice 25 = .ok (.aload_n 0, 1) := by decide +kernel
theorem dX7_triesChoice_26 : decode cX7_triesChoice 26 = .ok (.getfield 38, 3) := by decide +kernel
theorem dX7_triesChoice_29 : decode cX7_triesChoice 29 = .ok (.bipush 64, 2) := by decide +kernel
theorem dX7_triesChoice_31 : decode cX7_triesChoice 31 = .ok (.iload_n 1, 1) := by decide +kernel
theorem dX7_triesChoice_32 : decode cX7_triesChoice 32 = .ok (.iconst 1, 1) := by decide +kernel
theorem dX7_triesChoice_33 : decode cX7_triesChoice 33 = .ok (.iadd, 1) := by decide +kernel
theorem dX7_triesChoice_34 : decode cX7_triesChoice 34 = .ok (.imul, 1) := by decide +kernel
theorem dX7_triesChoice_35 : decode cX7_triesChoice 35 = .ok (.iload_n 3, 1) := by decide +kernel
theorem dX7_triesChoice_36 : decode cX7_triesChoice 36 = .ok (.iadd, 1) := by decide +kernel
theorem dX7_triesChoice_37 : decode cX7_triesChoice 37 = .ok (.iaload, 1) := by decide +kernel
theorem dX7_triesChoice_38 : decode cX7_triesChoice 38 = .ok (.invokevirtual 155, 3) := by decide +kernel
theorem dX7_triesChoice_41 : decode cX7_triesChoice 41 = .ok (.iinc 3 1, 3) := by decide +kernel
theorem dX7_triesChoice_44 : decode cX7_triesChoice 44 = .ok (.goto (-33), 3) := by decide +kernel
theorem dX7_triesChoice_47 : decode cX7_triesChoice 47 = .ok (.iconst 0, 1) := by decide +kernel
theorem dX7_triesChoice_48 : decode cX7_triesChoice 48 = .ok (.istore_n 3, 1) := by decide +kernel
theorem dX7_triesChoice_49 : decode cX7_triesChoice 49 = .ok (.iload_n 3, 1) := by decide +kernel
theorem dX7_triesChoice_50 : decode cX7_triesChoice 50 = .ok (.aload_n 0, 1) := by decide +kernel
theorem dX7_triesChoice_51 : decode cX7_triesChoice 51 = .ok (.getfield 41, 3) := by decide +kernel
theorem dX7_triesChoice_54 : decode cX7_triesChoice 54 = .ok (.aload_n 0, 1) := by decide +kernel
theorem dX7_triesChoice_55 : decode cX7_triesChoice 55 = .ok (.getfield 32, 3) := by decide +kernel
theorem dX7_triesChoice_58 : decode cX7_triesChoice 58 = .ok (.iload_n 1, 1) := by decide +kernel
theorem dX7_triesChoice_59 : decode cX7_triesChoice 59 = .ok (.iaload, 1) := by decide +kernel
theorem dX7_triesChoice_60 : decode cX7_triesChoice 60 = .ok (.iaload, 1) := by decide +kernel
theorem dX7_triesChoice_61 : decode cX7_triesChoice 61 = .ok (.if_icmp .ge 35, 3) := by decide +kernel
theorem dX7_triesChoice_64 : decode cX7_triesChoice 64 = .ok (.aload_n 0, 1) := by decide +kernel
theorem dX7_triesChoice_65 : decode cX7_triesChoice 65 = .ok (.iload_n 1, 1) := by decide +kernel
theorem dX7_triesChoice_66 : decode cX7_triesChoice 66 = .ok (.aload_n 0, 1) := by decide +kernel
theorem dX7_triesChoice_67 : decode cX7_triesChoice 67 = .ok (.getfield 38, 3) := by decide +kernel
theorem dX7_triesChoice_70 : decode cX7_triesChoice 70 = .ok (.bipush 64, 2) := by decide +kernel
theorem dX7_triesChoice_72 : decode cX7_triesChoice 72 = .ok (.aload_n 0, 1) := by decide +kernel
theorem dX7_triesChoice_73 : decode cX7_triesChoice 73 = .ok (.getfield 32, 3) := by decide +kernel
theorem dX7_triesChoice_76 : decode cX7_triesChoice 76 = .ok (.iload_n 1, 1) := by decide +kernel
theorem dX7_triesChoice_77 : decode cX7_triesChoice 77 = .ok (.iaload, 1) := by decide +kernel
theorem dX7_triesChoice_78 : decode cX7_triesChoice 78 = .ok (.imul, 1) := by decide +kernel
theorem dX7_triesChoice_79 : decode cX7_triesChoice 79 = .ok (.iload_n 3, 1) := by decide +kernel
theorem dX7_triesChoice_80 : decode cX7_triesChoice 80 = .ok (.iadd, 1) := by decide +kernel
theorem dX7_triesChoice_81 : decode cX7_triesChoice 81 = .ok (.iaload, 1) := by decide +kernel
theorem dX7_triesChoice_82 : decode cX7_triesChoice 82 = .ok (.iload_n 2, 1) := by decide +kernel
theorem dX7_triesChoice_83 : decode cX7_triesChoice 83 = .ok (.bipush 24, 2) := by decide +kernel
theorem dX7_triesChoice_85 : decode cX7_triesChoice 85 = .ok (.ishl, 1) := by decide +kernel
theorem dX7_triesChoice_86 : decode cX7_triesChoice 86 = .ok (.ior, 1) := by decide +kernel
theorem dX7_triesChoice_87 : decode cX7_triesChoice 87 = .ok (.invokevirtual 155, 3) := by decide +kernel
theorem dX7_triesChoice_90 : decode cX7_triesChoice 90 = .ok (.iinc 3 1, 3) := by decide +kernel
theorem dX7_triesChoice_93 : decode cX7_triesChoice 93 = .ok (.goto (-44), 3) := by decide +kernel
theorem dX7_triesChoice_96 : decode cX7_triesChoice 96 = .ok (.return_, 1) := by decide +kernel
theorem dX7_findsFronts_0 : decode cX7_findsFronts 0 = .ok (.aload_n 0, 1) := by decide +kernel
theorem dX7_findsFronts_1 : decode cX7_findsFronts 1 = .ok (.iload_n 1, 1) := by decide +kernel
theorem dX7_findsFronts_2 : decode cX7_findsFronts 2 = .ok (.putfield 141, 3) := by decide +kernel
theorem dX7_findsFronts_5 : decode cX7_findsFronts 5 = .ok (.aload_n 0, 1) := by decide +kernel
theorem dX7_findsFronts_6 : decode cX7_findsFronts 6 = .ok (.iconst 0, 1) := by decide +kernel
theorem dX7_findsFronts_7 : decode cX7_findsFronts 7 = .ok (.putfield 138, 3) := by decide +kernel
theorem dX7_findsFronts_10 : decode cX7_findsFronts 10 = .ok (.aload_n 0, 1) := by decide +kernel
