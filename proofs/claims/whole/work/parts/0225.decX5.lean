theorem dX5_init_0 : decode cX5_init 0 = .ok (.aload_n 0, 1) := by decide +kernel
theorem dX5_init_1 : decode cX5_init 1 = .ok (.invokespecial 3, 3) := by decide +kernel
theorem dX5_init_4 : decode cX5_init 4 = .ok (.aload_n 0, 1) := by decide +kernel
theorem dX5_init_5 : decode cX5_init 5 = .ok (.new 9, 3) := by decide +kernel
theorem dX5_init_8 : decode cX5_init 8 = .ok (.dup, 1) := by decide +kernel
theorem dX5_init_9 : decode cX5_init 9 = .ok (.bipush 40, 2) := by decide +kernel
theorem dX5_init_11 : decode cX5_init 11 = .ok (.invokespecial 11, 3) := by decide +kernel
theorem dX5_init_14 : decode cX5_init 14 = .ok (.putfield 14, 3) := by decide +kernel
theorem dX5_init_17 : decode cX5_init 17 = .ok (.aload_n 0, 1) := by decide +kernel
theorem dX5_init_18 : decode cX5_init 18 = .ok (.new 9, 3) := by decide +kernel
theorem dX5_init_21 : decode cX5_init 21 = .ok (.dup, 1) := by decide +kernel
theorem dX5_init_22 : decode cX5_init 22 = .ok (.bipush 64, 2) := by decide +kernel
theorem dX5_init_24 : decode cX5_init 24 = .ok (.invokespecial 11, 3) := by decide +kernel
theorem dX5_init_27 : decode cX5_init 27 = .ok (.putfield 20, 3) := by decide +kernel
theorem dX5_init_30 : decode cX5_init 30 = .ok (.aload_n 0, 1) := by decide +kernel
theorem dX5_init_31 : decode cX5_init 31 = .ok (.bipush 100, 2) := by decide +kernel
theorem dX5_init_33 : decode cX5_init 33 = .ok (.newarray .int, 2) := by decide +kernel
theorem dX5_init_35 : decode cX5_init 35 = .ok (.putfield 23, 3) := by decide +kernel
theorem dX5_init_38 : decode cX5_init 38 = .ok (.aload_n 0, 1) := by decide +kernel
theorem dX5_init_39 : decode cX5_init 39 = .ok (.bipush 40, 2) := by decide +kernel
theorem dX5_init_41 : decode cX5_init 41 = .ok (.newarray .int, 2) := by decide +kernel
theorem dX5_init_43 : decode cX5_init 43 = .ok (.putfield 27, 3) := by decide +kernel
theorem dX5_init_46 : decode cX5_init 46 = .ok (.aload_n 0, 1) := by decide +kernel
theorem dX5_init_47 : decode cX5_init 47 = .ok (.iconst (-1), 1) := by decide +kernel
theorem dX5_init_48 : decode cX5_init 48 = .ok (.putfield 30, 3) := by decide +kernel
theorem dX5_init_51 : decode cX5_init 51 = .ok (.return_, 1) := by decide +kernel
theorem dX5_make_0 : decode cX5_make 0 = .ok (.aload_n 0, 1) := by decide +kernel
theorem dX5_make_1 : decode cX5_make 1 = .ok (.aload_n 1, 1) := by decide +kernel
theorem dX5_make_2 : decode cX5_make 2 = .ok (.getfield 34, 3) := by decide +kernel
theorem dX5_make_5 : decode cX5_make 5 = .ok (.ifCond .ne 7, 3) := by decide +kernel
theorem dX5_make_8 : decode cX5_make 8 = .ok (.iconst 0, 1) := by decide +kernel
theorem dX5_make_9 : decode cX5_make 9 = .ok (.goto 9, 3) := by decide +kernel
theorem dX5_make_12 : decode cX5_make 12 = .ok (.iconst 1, 1) := by decide +kernel
theorem dX5_make_13 : decode cX5_make 13 = .ok (.aload_n 1, 1) := by decide +kernel
theorem dX5_make_14 : decode cX5_make 14 = .ok (.getfield 38, 3) := by decide +kernel
theorem dX5_make_17 : decode cX5_make 17 = .ok (.ishl, 1) := by decide +kernel
theorem dX5_make_18 : decode cX5_make 18 = .ok (.putfield 41, 3) := by decide +kernel
theorem dX5_make_21 : decode cX5_make 21 = .ok (.iconst 0, 1) := by decide +kernel
theorem dX5_make_22 : decode cX5_make 22 = .ok (.istore_n 2, 1) := by decide +kernel
theorem dX5_make_23 : decode cX5_make 23 = .ok (.iload_n 2, 1) := by decide +kernel
theorem dX5_make_24 : decode cX5_make 24 = .ok (.aload_n 0, 1) := by decide +kernel
theorem dX5_make_25 : decode cX5_make 25 = .ok (.getfield 41, 3) := by decide +kernel
theorem dX5_make_28 : decode cX5_make 28 = .ok (.if_icmp .ge 59, 3) := by decide +kernel
theorem dX5_make_31 : decode cX5_make 31 = .ok (.aload_n 0, 1) := by decide +kernel
theorem dX5_make_32 : decode cX5_make 32 = .ok (.aload_n 1, 1) := by decide +kernel
theorem dX5_make_33 : decode cX5_make 33 = .ok (.iload_n 2, 1) := by decide +kernel
theorem dX5_make_34 : decode cX5_make 34 = .ok (.invokevirtual 44, 3) := by decide +kernel
theorem dX5_make_37 : decode cX5_make 37 = .ok (.aload_n 0, 1) := by decide +kernel
theorem dX5_make_38 : decode cX5_make 38 = .ok (.getfield 20, 3) := by decide +kernel
theorem dX5_make_41 : decode cX5_make 41 = .ok (.iload_n 2, 1) := by decide +kernel
theorem dX5_make_42 : decode cX5_make 42 = .ok (.aload_n 0, 1) := by decide +kernel
theorem dX5_make_43 : decode cX5_make 43 = .ok (.getfield 14, 3) := by decide +kernel
theorem dX5_make_46 : decode cX5_make 46 = .ok (.getfield 48, 3) := by decide +kernel
theorem dX5_make_49 : decode cX5_make 49 = .ok (.iconst 0, 1) := by decide +kernel
theorem dX5_make_50 : decode cX5_make 50 = .ok (.iaload, 1) := by decide +kernel
theorem dX5_make_51 : decode cX5_make 51 = .ok (.aload_n 0, 1) := by decide +kernel
theorem dX5_make_52 : decode cX5_make 52 = .ok (.getfield 14, 3) := by decide +kernel
theorem dX5_make_55 : decode cX5_make 55 = .ok (.getfield 51, 3) := by decide +kernel
theorem dX5_make_58 : decode cX5_make 58 = .ok (.iconst 0, 1) := by decide +kernel
theorem dX5_make_59 : decode cX5_make 59 = .ok (.iaload, 1) := by decide +kernel
theorem dX5_make_60 : decode cX5_make 60 = .ok (.aload_n 0, 1) := by decide +kernel
theorem dX5_make_61 : decode cX5_make 61 = .ok (.getfield 14, 3) := by decide +kernel
theorem dX5_make_64 : decode cX5_make 64 = .ok (.getfield 54, 3) := by decide +kernel
theorem dX5_make_67 : decode cX5_make 67 = .ok (.iconst 0, 1) := by decide +kernel
theorem dX5_make_68 : decode cX5_make 68 = .ok (.iaload, 1) := by decide +kernel
theorem dX5_make_69 : decode cX5_make 69 = .ok (.aload_n 0, 1) := by decide +kernel
theorem dX5_make_70 : decode cX5_make 70 = .ok (.getfield 14, 3) := by decide +kernel
theorem dX5_make_73 : decode cX5_make 73 = .ok (.getfield 57, 3) := by decide +kernel
theorem dX5_make_76 : decode cX5_make 76 = .ok (.iconst 0, 1) := by decide +kernel
theorem dX5_make_77 : decode cX5_make 77 = .ok (.iaload, 1) := by decide +kernel
theorem dX5_make_78 : decode cX5_make 78 = .ok (.invokevirtual 60, 3) := by decide +kernel
theorem dX5_make_81 : decode cX5_make 81 = .ok (.iinc 2 1, 3) := by decide +kernel
theorem dX5_make_84 : decode cX5_make 84 = .ok (.goto (-61), 3) := by decide +kernel
theorem dX5_make_87 : decode cX5_make 87 = .ok (.aload_n 0, 1) := by decide +kernel
theorem dX5_make_88 : decode cX5_make 88 = .ok (.invokevirtual 64, 3) := by decide +kernel
theorem dX5_make_91 : decode cX5_make 91 = .ok (.aload_n 0, 1) := by decide +kernel
theorem dX5_make_92 : decode cX5_make 92 = .ok (.invokevirtual 67, 3) := by decide +kernel
theorem dX5_make_95 : decode cX5_make 95 = .ok (.return_, 1) := by decide +kernel
theorem dX5_shapeParts_0 : decode cX5_shapeParts 0 = .ok (.aload_n 1, 1) := by decide +kernel
theorem dX5_shapeParts_1 : decode cX5_shapeParts 1 = .ok (.getfield 34, 3) := by decide +kernel
theorem dX5_shapeParts_4 : decode cX5_shapeParts 4 = .ok (.iconst 1, 1) := by decide +kernel
theorem dX5_shapeParts_5 : decode cX5_shapeParts 5 = .ok (.isub, 1) := by decide +kernel
theorem dX5_shapeParts_6 : decode cX5_shapeParts 6 = .ok (.istore_n 3, 1) := by decide +kernel
theorem dX5_shapeParts_7 : decode cX5_shapeParts 7 = .ok (.iload_n 3, 1) := by decide +kernel
theorem dX5_shapeParts_8 : decode cX5_shapeParts 8 = .ok (.ifCond .lt 16, 3) := by decide +kernel
theorem dX5_shapeParts_11 : decode cX5_shapeParts 11 = .ok (.aload_n 0, 1) := by decide +kernel
theorem dX5_shapeParts_12 : decode cX5_shapeParts 12 = .ok (.aload_n 1, 1) := by decide +kernel
theorem dX5_shapeParts_13 : decode cX5_shapeParts 13 = .ok (.iload_n 3, 1) := by decide +kernel
theorem dX5_shapeParts_14 : decode cX5_shapeParts 14 = .ok (.iload_n 2, 1) := by decide +kernel
theorem dX5_shapeParts_15 : decode cX5_shapeParts 15 = .ok (.invokevirtual 70, 3) := by decide +kernel
theorem dX5_shapeParts_18 : decode cX5_shapeParts 18 = .ok (.iinc 3 (-1), 3) := by decide +kernel
theorem dX5_shapeParts_21 : decode cX5_shapeParts 21 = .ok (.goto (-14), 3) := by decide +kernel
theorem dX5_shapeParts_24 : decode cX5_shapeParts 24 = .ok (.return_, 1) := by decide +kernel
theorem dX5_shapeOne_0 : decode cX5_shapeOne 0 = .ok (.aload_n 1, 1) := by decide +kernel
theorem dX5_shapeOne_1 : decode cX5_shapeOne 1 = .ok (.iload_n 2, 1) := by decide +kernel
theorem dX5_shapeOne_2 : decode cX5_shapeOne 2 = .ok (.invokevirtual 74, 3) := by decide +kernel
theorem dX5_shapeOne_5 : decode cX5_shapeOne 5 = .ok (.ifCond .ne 4, 3) := by decide +kernel
theorem dX5_shapeOne_8 : decode cX5_shapeOne 8 = .ok (.return_, 1) := by decide +kernel
theorem dX5_shapeOne_9 : decode cX5_shapeOne 9 = .ok (.aload_n 1, 1) := by decide +kernel
theorem dX5_shapeOne_10 : decode cX5_shapeOne 10 = .ok (.getfield 78, 3) := by decide +kernel
theorem dX5_shapeOne_13 : decode cX5_shapeOne 13 = .ok (.iload_n 2, 1) := by decide +kernel
theorem dX5_shapeOne_14 : decode cX5_shapeOne 14 = .ok (.iaload, 1) := by decide +kernel
theorem dX5_shapeOne_15 : decode cX5_shapeOne 15 = .ok (.istore 4, 2) := by decide +kernel
theorem dX5_shapeOne_17 : decode cX5_shapeOne 17 = .ok (.aload_n 1, 1) := by decide +kernel
theorem dX5_shapeOne_18 : decode cX5_shapeOne 18 = .ok (.getfield 81, 3) := by decide +kernel
theorem dX5_shapeOne_21 : decode cX5_shapeOne 21 = .ok (.iload_n 2, 1) := by decide +kernel
theorem dX5_shapeOne_22 : decode cX5_shapeOne 22 = .ok (.iaload, 1) := by decide +kernel
theorem dX5_shapeOne_23 : decode cX5_shapeOne 23 = .ok (.istore 5, 2) := by decide +kernel
theorem dX5_shapeOne_25 : decode cX5_shapeOne 25 = .ok (.iload 4, 2) := by decide +kernel
theorem dX5_shapeOne_27 : decode cX5_shapeOne 27 = .ok (.iconst 1, 1) := by decide +kernel
theorem dX5_shapeOne_28 : decode cX5_shapeOne 28 = .ok (.if_icmp .eq 9, 3) := by decide +kernel
theorem dX5_shapeOne_31 : decode cX5_shapeOne 31 = .ok (.iload 4, 2) := by decide +kernel
theorem dX5_shapeOne_33 : decode cX5_shapeOne 33 = .ok (.iconst 2, 1) := by decide +kernel
theorem dX5_shapeOne_34 : decode cX5_shapeOne 34 = .ok (.if_icmp .ne 12, 3) := by decide +kernel
theorem dX5_shapeOne_37 : decode cX5_shapeOne 37 = .ok (.aload_n 1, 1) := by decide +kernel
theorem dX5_shapeOne_38 : decode cX5_shapeOne 38 = .ok (.getfield 84, 3) := by decide +kernel
theorem dX5_shapeOne_41 : decode cX5_shapeOne 41 = .ok (.iload_n 2, 1) := by decide +kernel
theorem dX5_shapeOne_42 : decode cX5_shapeOne 42 = .ok (.iaload, 1) := by decide +kernel
theorem dX5_shapeOne_43 : decode cX5_shapeOne 43 = .ok (.goto 5, 3) := by decide +kernel
theorem dX5_shapeOne_46 : decode cX5_shapeOne 46 = .ok (.iload 5, 2) := by decide +kernel
theorem dX5_shapeOne_48 : decode cX5_shapeOne 48 = .ok (.istore 6, 2) := by decide +kernel
theorem dX5_shapeOne_50 : decode cX5_shapeOne 50 = .ok (.iload 4, 2) := by decide +kernel
theorem dX5_shapeOne_52 : decode cX5_shapeOne 52 = .ok (.ifCond .ne 20, 3) := by decide +kernel
theorem dX5_shapeOne_55 : decode cX5_shapeOne 55 = .ok (.aload_n 0, 1) := by decide +kernel
theorem dX5_shapeOne_56 : decode cX5_shapeOne 56 = .ok (.getfield 14, 3) := by decide +kernel
theorem dX5_shapeOne_59 : decode cX5_shapeOne 59 = .ok (.iload_n 2, 1) := by decide +kernel
theorem dX5_shapeOne_60 : decode cX5_shapeOne 60 = .ok (.aload_n 1, 1) := by decide +kernel
theorem dX5_shapeOne_61 : decode cX5_shapeOne 61 = .ok (.getfield 87, 3) := by decide +kernel
theorem dX5_shapeOne_64 : decode cX5_shapeOne 64 = .ok (.iload_n 2, 1) := by decide +kernel
theorem dX5_shapeOne_65 : decode cX5_shapeOne 65 = .ok (.iaload, 1) := by decide +kernel
theorem dX5_shapeOne_66 : decode cX5_shapeOne 66 = .ok (.invokevirtual 90, 3) := by decide +kernel
theorem dX5_shapeOne_69 : decode cX5_shapeOne 69 = .ok (.goto 123, 3) := by decide +kernel
theorem dX5_shapeOne_72 : decode cX5_shapeOne 72 = .ok (.iload 4, 2) := by decide +kernel
theorem dX5_shapeOne_74 : decode cX5_shapeOne 74 = .ok (.iconst 3, 1) := by decide +kernel
theorem dX5_shapeOne_75 : decode cX5_shapeOne 75 = .ok (.if_icmp .ne 44, 3) := by decide +kernel
theorem dX5_shapeOne_78 : decode cX5_shapeOne 78 = .ok (.iload_n 3, 1) := by decide +kernel
theorem dX5_shapeOne_79 : decode cX5_shapeOne 79 = .ok (.iconst 1, 1) := by decide +kernel
theorem dX5_shapeOne_80 : decode cX5_shapeOne 80 = .ok (.aload_n 1, 1) := by decide +kernel
theorem dX5_shapeOne_81 : decode cX5_shapeOne 81 = .ok (.getfield 87, 3) := by decide +kernel
theorem dX5_shapeOne_84 : decode cX5_shapeOne 84 = .ok (.iload_n 2, 1) := by decide +kernel
theorem dX5_shapeOne_85 : decode cX5_shapeOne 85 = .ok (.iaload, 1) := by decide +kernel
theorem dX5_shapeOne_86 : decode cX5_shapeOne 86 = .ok (.ishl, 1) := by decide +kernel
theorem dX5_shapeOne_87 : decode cX5_shapeOne 87 = .ok (.iand, 1) := by decide +kernel
theorem dX5_shapeOne_88 : decode cX5_shapeOne 88 = .ok (.istore 7, 2) := by decide +kernel
theorem dX5_shapeOne_90 : decode cX5_shapeOne 90 = .ok (.aload_n 0, 1) := by decide +kernel
theorem dX5_shapeOne_91 : decode cX5_shapeOne 91 = .ok (.getfield 14, 3) := by decide +kernel
theorem dX5_shapeOne_94 : decode cX5_shapeOne 94 = .ok (.iload_n 2, 1) := by decide +kernel
theorem dX5_shapeOne_95 : decode cX5_shapeOne 95 = .ok (.iload 7, 2) := by decide +kernel
theorem dX5_shapeOne_97 : decode cX5_shapeOne 97 = .ok (.ifCond .ne 8, 3) := by decide +kernel
theorem dX5_shapeOne_100 : decode cX5_shapeOne 100 = .ok (.iload 5, 2) := by decide +kernel
theorem dX5_shapeOne_102 : decode cX5_shapeOne 102 = .ok (.goto 9, 3) := by decide +kernel
theorem dX5_shapeOne_105 : decode cX5_shapeOne 105 = .ok (.aload_n 1, 1) := by decide +kernel
theorem dX5_shapeOne_106 : decode cX5_shapeOne 106 = .ok (.getfield 84, 3) := by decide +kernel
theorem dX5_shapeOne_109 : decode cX5_shapeOne 109 = .ok (.iload_n 2, 1) := by decide +kernel
theorem dX5_shapeOne_110 : decode cX5_shapeOne 110 = .ok (.iaload, 1) := by decide +kernel
theorem dX5_shapeOne_111 : decode cX5_shapeOne 111 = .ok (.iload 7, 2) := by decide +kernel
theorem dX5_shapeOne_113 : decode cX5_shapeOne 113 = .ok (.invokevirtual 94, 3) := by decide +kernel
theorem dX5_shapeOne_116 : decode cX5_shapeOne 116 = .ok (.goto 76, 3) := by decide +kernel
theorem dX5_shapeOne_119 : decode cX5_shapeOne 119 = .ok (.aload_n 0, 1) := by decide +kernel
theorem dX5_shapeOne_120 : decode cX5_shapeOne 120 = .ok (.iload 5, 2) := by decide +kernel
theorem dX5_shapeOne_122 : decode cX5_shapeOne 122 = .ok (.invokevirtual 98, 3) := by decide +kernel
theorem dX5_shapeOne_125 : decode cX5_shapeOne 125 = .ok (.ifCond .eq 32, 3) := by decide +kernel
theorem dX5_shapeOne_128 : decode cX5_shapeOne 128 = .ok (.aload_n 0, 1) := by decide +kernel
theorem dX5_shapeOne_129 : decode cX5_shapeOne 129 = .ok (.iload 6, 2) := by decide +kernel
theorem dX5_shapeOne_131 : decode cX5_shapeOne 131 = .ok (.invokevirtual 98, 3) := by decide +kernel
theorem dX5_shapeOne_134 : decode cX5_shapeOne 134 = .ok (.ifCond .eq 23, 3) := by decide +kernel
theorem dX5_shapeOne_137 : decode cX5_shapeOne 137 = .ok (.iload 4, 2) := by decide +kernel
theorem dX5_shapeOne_139 : decode cX5_shapeOne 139 = .ok (.iconst 5, 1) := by decide +kernel
theorem dX5_shapeOne_140 : decode cX5_shapeOne 140 = .ok (.if_icmp .ne 32, 3) := by decide +kernel
theorem dX5_shapeOne_143 : decode cX5_shapeOne 143 = .ok (.aload_n 0, 1) := by decide +kernel
theorem dX5_shapeOne_144 : decode cX5_shapeOne 144 = .ok (.getfield 14, 3) := by decide +kernel
theorem dX5_shapeOne_147 : decode cX5_shapeOne 147 = .ok (.iload 5, 2) := by decide +kernel
theorem dX5_shapeOne_149 : decode cX5_shapeOne 149 = .ok (.iconst 0, 1) := by decide +kernel
theorem dX5_shapeOne_150 : decode cX5_shapeOne 150 = .ok (.invokevirtual 101, 3) := by decide +kernel
theorem dX5_shapeOne_153 : decode cX5_shapeOne 153 = .ok (.iconst 1, 1) := by decide +kernel
theorem dX5_shapeOne_154 : decode cX5_shapeOne 154 = .ok (.if_icmp .eq 18, 3) := by decide +kernel
theorem dX5_shapeOne_157 : decode cX5_shapeOne 157 = .ok (.aload_n 0, 1) := by decide +kernel
theorem dX5_shapeOne_158 : decode cX5_shapeOne 158 = .ok (.getfield 14, 3) := by decide +kernel
theorem dX5_shapeOne_161 : decode cX5_shapeOne 161 = .ok (.iload_n 2, 1) := by decide +kernel
theorem dX5_shapeOne_162 : decode cX5_shapeOne 162 = .ok (.iconst 0, 1) := by decide +kernel
theorem dX5_shapeOne_163 : decode cX5_shapeOne 163 = .ok (.iconst 0, 1) := by decide +kernel
theorem dX5_shapeOne_164 : decode cX5_shapeOne 164 = .ok (.iconst 0, 1) := by decide +kernel
theorem dX5_shapeOne_165 : decode cX5_shapeOne 165 = .ok (.iconst 0, 1) := by decide +kernel
theorem dX5_shapeOne_166 : decode cX5_shapeOne 166 = .ok (.invokevirtual 60, 3) := by decide +kernel
theorem dX5_shapeOne_169 : decode cX5_shapeOne 169 = .ok (.goto 23, 3) := by decide +kernel
theorem dX5_shapeOne_172 : decode cX5_shapeOne 172 = .ok (.aload_n 0, 1) := by decide +kernel
theorem dX5_shapeOne_173 : decode cX5_shapeOne 173 = .ok (.getfield 14, 3) := by decide +kernel
theorem dX5_shapeOne_176 : decode cX5_shapeOne 176 = .ok (.iload_n 2, 1) := by decide +kernel
theorem dX5_shapeOne_177 : decode cX5_shapeOne 177 = .ok (.iload 4, 2) := by decide +kernel
theorem dX5_shapeOne_179 : decode cX5_shapeOne 179 = .ok (.aload_n 1, 1) := by decide +kernel
theorem dX5_shapeOne_180 : decode cX5_shapeOne 180 = .ok (.getfield 87, 3) := by decide +kernel
theorem dX5_shapeOne_183 : decode cX5_shapeOne 183 = .ok (.iload_n 2, 1) := by decide +kernel
theorem dX5_shapeOne_184 : decode cX5_shapeOne 184 = .ok (.iaload, 1) := by decide +kernel
theorem dX5_shapeOne_185 : decode cX5_shapeOne 185 = .ok (.iload 5, 2) := by decide +kernel
theorem dX5_shapeOne_187 : decode cX5_shapeOne 187 = .ok (.iload 6, 2) := by decide +kernel
theorem dX5_shapeOne_189 : decode cX5_shapeOne 189 = .ok (.invokevirtual 105, 3) := by decide +kernel
theorem dX5_shapeOne_192 : decode cX5_shapeOne 192 = .ok (.return_, 1) := by decide +kernel
theorem dX5_stands_0 : decode cX5_stands 0 = .ok (.aload_n 0, 1) := by decide +kernel
theorem dX5_stands_1 : decode cX5_stands 1 = .ok (.getfield 14, 3) := by decide +kernel
theorem dX5_stands_4 : decode cX5_stands 4 = .ok (.iload_n 1, 1) := by decide +kernel
theorem dX5_stands_5 : decode cX5_stands 5 = .ok (.iconst 0, 1) := by decide +kernel
theorem dX5_stands_6 : decode cX5_stands 6 = .ok (.invokevirtual 101, 3) := by decide +kernel
theorem dX5_stands_9 : decode cX5_stands 9 = .ok (.ifCond .le 7, 3) := by decide +kernel
theorem dX5_stands_12 : decode cX5_stands 12 = .ok (.iconst 1, 1) := by decide +kernel
theorem dX5_stands_13 : decode cX5_stands 13 = .ok (.goto 4, 3) := by decide +kernel
theorem dX5_stands_16 : decode cX5_stands 16 = .ok (.iconst 0, 1) := by decide +kernel
theorem dX5_stands_17 : decode cX5_stands 17 = .ok (.ireturn, 1) := by decide +kernel
theorem dX5_findLines_0 : decode cX5_findLines 0 = .ok (.iconst 0, 1) := by decide +kernel
theorem dX5_findLines_1 : decode cX5_findLines 1 = .ok (.istore_n 1, 1) := by decide +kernel
theorem dX5_findLines_2 : decode cX5_findLines 2 = .ok (.iload_n 1, 1) := by decide +kernel
theorem dX5_findLines_3 : decode cX5_findLines 3 = .ok (.bipush 99, 2) := by decide +kernel
theorem dX5_findLines_5 : decode cX5_findLines 5 = .ok (.if_icmp .gt 16, 3) := by decide +kernel
theorem dX5_findLines_8 : decode cX5_findLines 8 = .ok (.aload_n 0, 1) := by decide +kernel
theorem dX5_findLines_9 : decode cX5_findLines 9 = .ok (.getfield 23, 3) := by decide +kernel
theorem dX5_findLines_12 : decode cX5_findLines 12 = .ok (.iload_n 1, 1) := by decide +kernel
theorem dX5_findLines_13 : decode cX5_findLines 13 = .ok (.iconst (-1), 1) := by decide +kernel
theorem dX5_findLines_14 : decode cX5_findLines 14 = .ok (.iastore, 1) := by decide +kernel
theorem dX5_findLines_15 : decode cX5_findLines 15 = .ok (.iinc 1 1, 3) := by decide +kernel
theorem dX5_findLines_18 : decode cX5_findLines 18 = .ok (.goto (-16), 3) := by decide +kernel
theorem dX5_findLines_21 : decode cX5_findLines 21 = .ok (.iconst 0, 1) := by decide +kernel
theorem dX5_findLines_22 : decode cX5_findLines 22 = .ok (.istore_n 1, 1) := by decide +kernel
theorem dX5_findLines_23 : decode cX5_findLines 23 = .ok (.iload_n 1, 1) := by decide +kernel
theorem dX5_findLines_24 : decode cX5_findLines 24 = .ok (.aload_n 0, 1) := by decide +kernel
theorem dX5_findLines_25 : decode cX5_findLines 25 = .ok (.getfield 41, 3) := by decide +kernel
theorem dX5_findLines_28 : decode cX5_findLines 28 = .ok (.if_icmp .ge 94, 3) := by decide +kernel
theorem dX5_findLines_31 : decode cX5_findLines 31 = .ok (.aload_n 0, 1) := by decide +kernel
theorem dX5_findLines_32 : decode cX5_findLines 32 = .ok (.getfield 20, 3) := by decide +kernel
theorem dX5_findLines_35 : decode cX5_findLines 35 = .ok (.iload_n 1, 1) := by decide +kernel
theorem dX5_findLines_36 : decode cX5_findLines 36 = .ok (.iconst 2, 1) := by decide +kernel
theorem dX5_findLines_37 : decode cX5_findLines 37 = .ok (.invokevirtual 101, 3) := by decide +kernel
theorem dX5_findLines_40 : decode cX5_findLines 40 = .ok (.istore_n 2, 1) := by decide +kernel
theorem dX5_findLines_41 : decode cX5_findLines 41 = .ok (.aload_n 0, 1) := by decide +kernel
theorem dX5_findLines_42 : decode cX5_findLines 42 = .ok (.getfield 20, 3) := by decide +kernel
theorem dX5_findLines_45 : decode cX5_findLines 45 = .ok (.iload_n 1, 1) := by decide +kernel
theorem dX5_findLines_46 : decode cX5_findLines 46 = .ok (.iconst 0, 1) := by decide +kernel
theorem dX5_findLines_47 : decode cX5_findLines 47 = .ok (.invokevirtual 101, 3) := by decide +kernel
theorem dX5_findLines_50 : decode cX5_findLines 50 = .ok (.ifCond .le 17, 3) := by decide +kernel
theorem dX5_findLines_53 : decode cX5_findLines 53 = .ok (.iload_n 2, 1) := by decide +kernel
theorem dX5_findLines_54 : decode cX5_findLines 54 = .ok (.ifCond .lt 13, 3) := by decide +kernel
theorem dX5_findLines_57 : decode cX5_findLines 57 = .ok (.iload_n 2, 1) := by decide +kernel
theorem dX5_findLines_58 : decode cX5_findLines 58 = .ok (.bipush 99, 2) := by decide +kernel
theorem dX5_findLines_60 : decode cX5_findLines 60 = .ok (.if_icmp .gt 7, 3) := by decide +kernel
theorem dX5_findLines_63 : decode cX5_findLines 63 = .ok (.iconst 1, 1) := by decide +kernel
theorem dX5_findLines_64 : decode cX5_findLines 64 = .ok (.goto 4, 3) := by decide +kernel
theorem dX5_findLines_67 : decode cX5_findLines 67 = .ok (.iconst 0, 1) := by decide +kernel
theorem dX5_findLines_68 : decode cX5_findLines 68 = .ok (.istore_n 3, 1) := by decide +kernel
theorem dX5_findLines_69 : decode cX5_findLines 69 = .ok (.iload_n 3, 1) := by decide +kernel
theorem dX5_findLines_70 : decode cX5_findLines 70 = .ok (.ifCond .eq 46, 3) := by decide +kernel
theorem dX5_findLines_73 : decode cX5_findLines 73 = .ok (.aload_n 0, 1) := by decide +kernel
theorem dX5_findLines_74 : decode cX5_findLines 74 = .ok (.getfield 23, 3) := by decide +kernel
theorem dX5_findLines_77 : decode cX5_findLines 77 = .ok (.iload_n 2, 1) := by decide +kernel
theorem dX5_findLines_78 : decode cX5_findLines 78 = .ok (.iaload, 1) := by decide +kernel
theorem dX5_findLines_79 : decode cX5_findLines 79 = .ok (.iconst (-1), 1) := by decide +kernel
theorem dX5_findLines_80 : decode cX5_findLines 80 = .ok (.if_icmp .eq 21, 3) := by decide +kernel
theorem dX5_findLines_83 : decode cX5_findLines 83 = .ok (.aload_n 0, 1) := by decide +kernel
theorem dX5_findLines_84 : decode cX5_findLines 84 = .ok (.getfield 20, 3) := by decide +kernel
theorem dX5_findLines_87 : decode cX5_findLines 87 = .ok (.iload_n 1, 1) := by decide +kernel
theorem dX5_findLines_88 : decode cX5_findLines 88 = .ok (.iconst 0, 1) := by decide +kernel
theorem dX5_findLines_89 : decode cX5_findLines 89 = .ok (.invokevirtual 101, 3) := by decide +kernel
theorem dX5_findLines_92 : decode cX5_findLines 92 = .ok (.aload_n 0, 1) := by decide +kernel
theorem dX5_findLines_93 : decode cX5_findLines 93 = .ok (.getfield 23, 3) := by decide +kernel
theorem dX5_findLines_96 : decode cX5_findLines 96 = .ok (.iload_n 2, 1) := by decide +kernel
theorem dX5_findLines_97 : decode cX5_findLines 97 = .ok (.iaload, 1) := by decide +kernel
theorem dX5_findLines_98 : decode cX5_findLines 98 = .ok (.if_icmp .ge 18, 3) := by decide +kernel
theorem dX5_findLines_101 : decode cX5_findLines 101 = .ok (.aload_n 0, 1) := by decide +kernel
theorem dX5_findLines_102 : decode cX5_findLines 102 = .ok (.getfield 23, 3) := by decide +kernel
theorem dX5_findLines_105 : decode cX5_findLines 105 = .ok (.iload_n 2, 1) := by decide +kernel
theorem dX5_findLines_106 : decode cX5_findLines 106 = .ok (.aload_n 0, 1) := by decide +kernel
theorem dX5_findLines_107 : decode cX5_findLines 107 = .ok (.getfield 20, 3) := by decide +kernel
theorem dX5_findLines_110 : decode cX5_findLines 110 = .ok (.iload_n 1, 1) := by decide +kernel
theorem dX5_findLines_111 : decode cX5_findLines 111 = .ok (.iconst 0, 1) := by decide +kernel
theorem dX5_findLines_112 : decode cX5_findLines 112 = .ok (.invokevirtual 101, 3) := by decide +kernel
theorem dX5_findLines_115 : decode cX5_findLines 115 = .ok (.iastore, 1) := by decide +kernel
theorem dX5_findLines_116 : decode cX5_findLines 116 = .ok (.iinc 1 1, 3) := by decide +kernel
theorem dX5_findLines_119 : decode cX5_findLines 119 = .ok (.goto (-96), 3) := by decide +kernel
theorem dX5_findLines_122 : decode cX5_findLines 122 = .ok (.iconst 1, 1) := by decide +kernel
theorem dX5_findLines_123 : decode cX5_findLines 123 = .ok (.istore_n 1, 1) := by decide +kernel
theorem dX5_findLines_124 : decode cX5_findLines 124 = .ok (.iload_n 1, 1) := by decide +kernel
theorem dX5_findLines_125 : decode cX5_findLines 125 = .ok (.bipush 99, 2) := by decide +kernel
theorem dX5_findLines_127 : decode cX5_findLines 127 = .ok (.if_icmp .gt 50, 3) := by decide +kernel
theorem dX5_findLines_130 : decode cX5_findLines 130 = .ok (.aload_n 0, 1) := by decide +kernel
theorem dX5_findLines_131 : decode cX5_findLines 131 = .ok (.getfield 23, 3) := by decide +kernel
theorem dX5_findLines_134 : decode cX5_findLines 134 = .ok (.iload_n 1, 1) := by decide +kernel
theorem dX5_findLines_135 : decode cX5_findLines 135 = .ok (.iconst 1, 1) := by decide +kernel
theorem dX5_findLines_136 : decode cX5_findLines 136 = .ok (.isub, 1) := by decide +kernel
theorem dX5_findLines_137 : decode cX5_findLines 137 = .ok (.iaload, 1) := by decide +kernel
theorem dX5_findLines_138 : decode cX5_findLines 138 = .ok (.istore_n 2, 1) := by decide +kernel
theorem dX5_findLines_139 : decode cX5_findLines 139 = .ok (.iload_n 2, 1) := by decide +kernel
theorem dX5_findLines_140 : decode cX5_findLines 140 = .ok (.iconst (-1), 1) := by decide +kernel
theorem dX5_findLines_141 : decode cX5_findLines 141 = .ok (.if_icmp .eq 30, 3) := by decide +kernel
theorem dX5_findLines_144 : decode cX5_findLines 144 = .ok (.aload_n 0, 1) := by decide +kernel
theorem dX5_findLines_145 : decode cX5_findLines 145 = .ok (.getfield 23, 3) := by decide +kernel
theorem dX5_findLines_148 : decode cX5_findLines 148 = .ok (.iload_n 1, 1) := by decide +kernel
theorem dX5_findLines_149 : decode cX5_findLines 149 = .ok (.iaload, 1) := by decide +kernel
theorem dX5_findLines_150 : decode cX5_findLines 150 = .ok (.iconst (-1), 1) := by decide +kernel
theorem dX5_findLines_151 : decode cX5_findLines 151 = .ok (.if_icmp .eq 13, 3) := by decide +kernel
theorem dX5_findLines_154 : decode cX5_findLines 154 = .ok (.iload_n 2, 1) := by decide +kernel
theorem dX5_findLines_155 : decode cX5_findLines 155 = .ok (.aload_n 0, 1) := by decide +kernel
theorem dX5_findLines_156 : decode cX5_findLines 156 = .ok (.getfield 23, 3) := by decide +kernel
theorem dX5_findLines_159 : decode cX5_findLines 159 = .ok (.iload_n 1, 1) := by decide +kernel
theorem dX5_findLines_160 : decode cX5_findLines 160 = .ok (.iaload, 1) := by decide +kernel
theorem dX5_findLines_161 : decode cX5_findLines 161 = .ok (.if_icmp .ge 10, 3) := by decide +kernel
theorem dX5_findLines_164 : decode cX5_findLines 164 = .ok (.aload_n 0, 1) := by decide +kernel
theorem dX5_findLines_165 : decode cX5_findLines 165 = .ok (.getfield 23, 3) := by decide +kernel
theorem dX5_findLines_168 : decode cX5_findLines 168 = .ok (.iload_n 1, 1) := by decide +kernel
theorem dX5_findLines_169 : decode cX5_findLines 169 = .ok (.iload_n 2, 1) := by decide +kernel
theorem dX5_findLines_170 : decode cX5_findLines 170 = .ok (.iastore, 1) := by decide +kernel
theorem dX5_findLines_171 : decode cX5_findLines 171 = .ok (.iinc 1 1, 3) := by decide +kernel
theorem dX5_findLines_174 : decode cX5_findLines 174 = .ok (.goto (-50), 3) := by decide +kernel
theorem dX5_findLines_177 : decode cX5_findLines 177 = .ok (.return_, 1) := by decide +kernel
theorem dX5_findShrinks_0 : decode cX5_findShrinks 0 = .ok (.aload_n 0, 1) := by decide +kernel
theorem dX5_findShrinks_1 : decode cX5_findShrinks 1 = .ok (.iconst 0, 1) := by decide +kernel
theorem dX5_findShrinks_2 : decode cX5_findShrinks 2 = .ok (.putfield 108, 3) := by decide +kernel
theorem dX5_findShrinks_5 : decode cX5_findShrinks 5 = .ok (.aload_n 0, 1) := by decide +kernel
theorem dX5_findShrinks_6 : decode cX5_findShrinks 6 = .ok (.iconst (-1), 1) := by decide +kernel
theorem dX5_findShrinks_7 : decode cX5_findShrinks 7 = .ok (.putfield 30, 3) := by decide +kernel
theorem dX5_findShrinks_10 : decode cX5_findShrinks 10 = .ok (.iconst 1, 1) := by decide +kernel
theorem dX5_findShrinks_11 : decode cX5_findShrinks 11 = .ok (.istore_n 1, 1) := by decide +kernel
theorem dX5_findShrinks_12 : decode cX5_findShrinks 12 = .ok (.iload_n 1, 1) := by decide +kernel
theorem dX5_findShrinks_13 : decode cX5_findShrinks 13 = .ok (.bipush 99, 2) := by decide +kernel
theorem dX5_findShrinks_15 : decode cX5_findShrinks 15 = .ok (.if_icmp .gt 81, 3) := by decide +kernel
theorem dX5_findShrinks_18 : decode cX5_findShrinks 18 = .ok (.aload_n 0, 1) := by decide +kernel
theorem dX5_findShrinks_19 : decode cX5_findShrinks 19 = .ok (.getfield 30, 3) := by decide +kernel
theorem dX5_findShrinks_22 : decode cX5_findShrinks 22 = .ok (.iconst (-1), 1) := by decide +kernel
theorem dX5_findShrinks_23 : decode cX5_findShrinks 23 = .ok (.if_icmp .ne 18, 3) := by decide +kernel
theorem dX5_findShrinks_26 : decode cX5_findShrinks 26 = .ok (.aload_n 0, 1) := by decide +kernel
theorem dX5_findShrinks_27 : decode cX5_findShrinks 27 = .ok (.getfield 23, 3) := by decide +kernel
theorem dX5_findShrinks_30 : decode cX5_findShrinks 30 = .ok (.iload_n 1, 1) := by decide +kernel
theorem dX5_findShrinks_31 : decode cX5_findShrinks 31 = .ok (.iaload, 1) := by decide +kernel
theorem dX5_findShrinks_32 : decode cX5_findShrinks 32 = .ok (.iconst (-1), 1) := by decide +kernel
theorem dX5_findShrinks_33 : decode cX5_findShrinks 33 = .ok (.if_icmp .eq 8, 3) := by decide +kernel
theorem dX5_findShrinks_36 : decode cX5_findShrinks 36 = .ok (.aload_n 0, 1) := by decide +kernel
theorem dX5_findShrinks_37 : decode cX5_findShrinks 37 = .ok (.iload_n 1, 1) := by decide +kernel
theorem dX5_findShrinks_38 : decode cX5_findShrinks 38 = .ok (.putfield 30, 3) := by decide +kernel
theorem dX5_findShrinks_41 : decode cX5_findShrinks 41 = .ok (.aload_n 0, 1) := by decide +kernel
theorem dX5_findShrinks_42 : decode cX5_findShrinks 42 = .ok (.getfield 23, 3) := by decide +kernel
theorem dX5_findShrinks_45 : decode cX5_findShrinks 45 = .ok (.iload_n 1, 1) := by decide +kernel
theorem dX5_findShrinks_46 : decode cX5_findShrinks 46 = .ok (.iaload, 1) := by decide +kernel
theorem dX5_findShrinks_47 : decode cX5_findShrinks 47 = .ok (.aload_n 0, 1) := by decide +kernel
theorem dX5_findShrinks_48 : decode cX5_findShrinks 48 = .ok (.getfield 23, 3) := by decide +kernel
theorem dX5_findShrinks_51 : decode cX5_findShrinks 51 = .ok (.iload_n 1, 1) := by decide +kernel
theorem dX5_findShrinks_52 : decode cX5_findShrinks 52 = .ok (.iconst 1, 1) := by decide +kernel
theorem dX5_findShrinks_53 : decode cX5_findShrinks 53 = .ok (.isub, 1) := by decide +kernel
theorem dX5_findShrinks_54 : decode cX5_findShrinks 54 = .ok (.iaload, 1) := by decide +kernel
theorem dX5_findShrinks_55 : decode cX5_findShrinks 55 = .ok (.if_icmp .ge 35, 3) := by decide +kernel
theorem dX5_findShrinks_58 : decode cX5_findShrinks 58 = .ok (.aload_n 0, 1) := by decide +kernel
theorem dX5_findShrinks_59 : decode cX5_findShrinks 59 = .ok (.getfield 108, 3) := by decide +kernel
theorem dX5_findShrinks_62 : decode cX5_findShrinks 62 = .ok (.aload_n 0, 1) := by decide +kernel
theorem dX5_findShrinks_63 : decode cX5_findShrinks 63 = .ok (.getfield 27, 3) := by decide +kernel
theorem dX5_findShrinks_66 : decode cX5_findShrinks 66 = .ok (.arraylength, 1) := by decide +kernel
theorem dX5_findShrinks_67 : decode cX5_findShrinks 67 = .ok (.if_icmp .ge 23, 3) := by decide +kernel
theorem dX5_findShrinks_70 : decode cX5_findShrinks 70 = .ok (.aload_n 0, 1) := by decide +kernel
theorem dX5_findShrinks_71 : decode cX5_findShrinks 71 = .ok (.getfield 27, 3) := by decide +kernel
theorem dX5_findShrinks_74 : decode cX5_findShrinks 74 = .ok (.aload_n 0, 1) := by decide +kernel
theorem dX5_findShrinks_75 : decode cX5_findShrinks 75 = .ok (.getfield 108, 3) := by decide +kernel
theorem dX5_findShrinks_78 : decode cX5_findShrinks 78 = .ok (.iload_n 1, 1) := by decide +kernel
theorem dX5_findShrinks_79 : decode cX5_findShrinks 79 = .ok (.iastore, 1) := by decide +kernel
theorem dX5_findShrinks_80 : decode cX5_findShrinks 80 = .ok (.aload_n 0, 1) := by decide +kernel
theorem dX5_findShrinks_81 : decode cX5_findShrinks 81 = .ok (.dup, 1) := by decide +kernel
theorem dX5_findShrinks_82 : decode cX5_findShrinks 82 = .ok (.getfield 108, 3) := by decide +kernel
theorem dX5_findShrinks_85 : decode cX5_findShrinks 85 = .ok (.iconst 1, 1) := by decide +kernel
theorem dX5_findShrinks_86 : decode cX5_findShrinks 86 = .ok (.iadd, 1) := by decide +kernel
theorem dX5_findShrinks_87 : decode cX5_findShrinks 87 = .ok (.putfield 108, 3) := by decide +kernel
theorem dX5_findShrinks_90 : decode cX5_findShrinks 90 = .ok (.iinc 1 1, 3) := by decide +kernel
theorem dX5_findShrinks_93 : decode cX5_findShrinks 93 = .ok (.goto (-81), 3) := by decide +kernel
theorem dX5_findShrinks_96 : decode cX5_findShrinks 96 = .ok (.return_, 1) := by decide +kernel
theorem dX5_shrinkAt_0 : decode cX5_shrinkAt 0 = .ok (.iload_n 1, 1) := by decide +kernel
theorem dX5_shrinkAt_1 : decode cX5_shrinkAt 1 = .ok (.ifCond .lt 29, 3) := by decide +kernel
theorem dX5_shrinkAt_4 : decode cX5_shrinkAt 4 = .ok (.iload_n 1, 1) := by decide +kernel
theorem dX5_shrinkAt_5 : decode cX5_shrinkAt 5 = .ok (.aload_n 0, 1) := by decide +kernel
theorem dX5_shrinkAt_6 : decode cX5_shrinkAt 6 = .ok (.getfield 108, 3) := by decide +kernel
theorem dX5_shrinkAt_9 : decode cX5_shrinkAt 9 = .ok (.if_icmp .ge 21, 3) := by decide +kernel
theorem dX5_shrinkAt_12 : decode cX5_shrinkAt 12 = .ok (.iload_n 1, 1) := by decide +kernel
theorem dX5_shrinkAt_13 : decode cX5_shrinkAt 13 = .ok (.aload_n 0, 1) := by decide +kernel
theorem dX5_shrinkAt_14 : decode cX5_shrinkAt 14 = .ok (.getfield 27, 3) := by decide +kernel
theorem dX5_shrinkAt_17 : decode cX5_shrinkAt 17 = .ok (.arraylength, 1) := by decide +kernel
theorem dX5_shrinkAt_18 : decode cX5_shrinkAt 18 = .ok (.if_icmp .ge 12, 3) := by decide +kernel
theorem dX5_shrinkAt_21 : decode cX5_shrinkAt 21 = .ok (.aload_n 0, 1) := by decide +kernel
theorem dX5_shrinkAt_22 : decode cX5_shrinkAt 22 = .ok (.getfield 27, 3) := by decide +kernel
theorem dX5_shrinkAt_25 : decode cX5_shrinkAt 25 = .ok (.iload_n 1, 1) := by decide +kernel
theorem dX5_shrinkAt_26 : decode cX5_shrinkAt 26 = .ok (.iaload, 1) := by decide +kernel
theorem dX5_shrinkAt_27 : decode cX5_shrinkAt 27 = .ok (.goto 4, 3) := by decide +kernel
theorem dX5_shrinkAt_30 : decode cX5_shrinkAt 30 = .ok (.iconst (-1), 1) := by decide +kernel
theorem dX5_shrinkAt_31 : decode cX5_shrinkAt 31 = .ok (.ireturn, 1) := by decide +kernel
theorem dX5_tell_0 : decode cX5_tell 0 = .ok (.aload_n 0, 1) := by decide +kernel
theorem dX5_tell_1 : decode cX5_tell 1 = .ok (.getfield 41, 3) := by decide +kernel
theorem dX5_tell_4 : decode cX5_tell 4 = .ok (.ifCond .ne 5, 3) := by decide +kernel
theorem dX5_tell_7 : decode cX5_tell 7 = .ok (.iconst (-1), 1) := by decide +kernel
theorem dX5_tell_8 : decode cX5_tell 8 = .ok (.ireturn, 1) := by decide +kernel
theorem dX5_tell_9 : decode cX5_tell 9 = .ok (.iload_n 1, 1) := by decide +kernel
theorem dX5_tell_10 : decode cX5_tell 10 = .ok (.aload_n 0, 1) := by decide +kernel
theorem dX5_tell_11 : decode cX5_tell 11 = .ok (.getfield 41, 3) := by decide +kernel
theorem dX5_tell_14 : decode cX5_tell 14 = .ok (.iconst 1, 1) := by decide +kernel
theorem dX5_tell_15 : decode cX5_tell 15 = .ok (.isub, 1) := by decide +kernel
theorem dX5_tell_16 : decode cX5_tell 16 = .ok (.iand, 1) := by decide +kernel
theorem dX5_tell_17 : decode cX5_tell 17 = .ok (.istore_n 3, 1) := by decide +kernel
theorem dX5_tell_18 : decode cX5_tell 18 = .ok (.aload_n 0, 1) := by decide +kernel
theorem dX5_tell_19 : decode cX5_tell 19 = .ok (.getfield 20, 3) := by decide +kernel
theorem dX5_tell_22 : decode cX5_tell 22 = .ok (.iload_n 3, 1) := by decide +kernel
theorem dX5_tell_23 : decode cX5_tell 23 = .ok (.iconst 0, 1) := by decide +kernel
theorem dX5_tell_24 : decode cX5_tell 24 = .ok (.invokevirtual 101, 3) := by decide +kernel
theorem dX5_tell_27 : decode cX5_tell 27 = .ok (.ifCond .le 15, 3) := by decide +kernel
theorem dX5_tell_30 : decode cX5_tell 30 = .ok (.aload_n 0, 1) := by decide +kernel
theorem dX5_tell_31 : decode cX5_tell 31 = .ok (.getfield 20, 3) := by decide +kernel
theorem dX5_tell_34 : decode cX5_tell 34 = .ok (.iload_n 3, 1) := by decide +kernel
theorem dX5_tell_35 : decode cX5_tell 35 = .ok (.iload_n 2, 1) := by decide +kernel
theorem dX5_tell_36 : decode cX5_tell 36 = .ok (.invokevirtual 101, 3) := by decide +kernel
theorem dX5_tell_39 : decode cX5_tell 39 = .ok (.goto 4, 3) := by decide +kernel
theorem dX5_tell_42 : decode cX5_tell 42 = .ok (.iconst (-1), 1) := by decide +kernel
theorem dX5_tell_43 : decode cX5_tell 43 = .ok (.ireturn, 1) := by decide +kernel
theorem dX5_hasty_0 : decode cX5_hasty 0 = .ok (.aload_n 0, 1) := by decide +kernel
theorem dX5_hasty_1 : decode cX5_hasty 1 = .ok (.iconst 0, 1) := by decide +kernel
theorem dX5_hasty_2 : decode cX5_hasty 2 = .ok (.iconst 0, 1) := by decide +kernel
theorem dX5_hasty_3 : decode cX5_hasty 3 = .ok (.iload_n 2, 1) := by decide +kernel
theorem dX5_hasty_4 : decode cX5_hasty 4 = .ok (.invokevirtual 111, 3) := by decide +kernel
theorem dX5_hasty_7 : decode cX5_hasty 7 = .ok (.ifCond .ne 5, 3) := by decide +kernel
theorem dX5_hasty_10 : decode cX5_hasty 10 = .ok (.iconst (-1), 1) := by decide +kernel
theorem dX5_hasty_11 : decode cX5_hasty 11 = .ok (.ireturn, 1) := by decide +kernel
theorem dX5_hasty_12 : decode cX5_hasty 12 = .ok (.iconst 0, 1) := by decide +kernel
theorem dX5_hasty_13 : decode cX5_hasty 13 = .ok (.istore_n 3, 1) := by decide +kernel
theorem dX5_hasty_14 : decode cX5_hasty 14 = .ok (.iconst 0, 1) := by decide +kernel
theorem dX5_hasty_15 : decode cX5_hasty 15 = .ok (.istore 4, 2) := by decide +kernel
theorem dX5_hasty_17 : decode cX5_hasty 17 = .ok (.iload 4, 2) := by decide +kernel
theorem dX5_hasty_19 : decode cX5_hasty 19 = .ok (.iload_n 1, 1) := by decide +kernel
theorem dX5_hasty_20 : decode cX5_hasty 20 = .ok (.if_icmp .ge 42, 3) := by decide +kernel
theorem dX5_hasty_23 : decode cX5_hasty 23 = .ok (.iload 4, 2) := by decide +kernel
theorem dX5_hasty_25 : decode cX5_hasty 25 = .ok (.bipush 6, 2) := by decide +kernel
theorem dX5_hasty_27 : decode cX5_hasty 27 = .ok (.if_icmp .ge 35, 3) := by decide +kernel
theorem dX5_hasty_30 : decode cX5_hasty 30 = .ok (.iconst 2, 1) := by decide +kernel
theorem dX5_hasty_31 : decode cX5_hasty 31 = .ok (.iload 4, 2) := by decide +kernel
theorem dX5_hasty_33 : decode cX5_hasty 33 = .ok (.ishl, 1) := by decide +kernel
theorem dX5_hasty_34 : decode cX5_hasty 34 = .ok (.iconst 1, 1) := by decide +kernel
theorem dX5_hasty_35 : decode cX5_hasty 35 = .ok (.isub, 1) := by decide +kernel
theorem dX5_hasty_36 : decode cX5_hasty 36 = .ok (.istore 5, 2) := by decide +kernel
theorem dX5_hasty_38 : decode cX5_hasty 38 = .ok (.aload_n 0, 1) := by decide +kernel
theorem dX5_hasty_39 : decode cX5_hasty 39 = .ok (.iload 5, 2) := by decide +kernel
theorem dX5_hasty_41 : decode cX5_hasty 41 = .ok (.iload_n 3, 1) := by decide +kernel
theorem dX5_hasty_42 : decode cX5_hasty 42 = .ok (.iload_n 2, 1) := by decide +kernel
theorem dX5_hasty_43 : decode cX5_hasty 43 = .ok (.invokevirtual 111, 3) := by decide +kernel
theorem dX5_hasty_46 : decode cX5_hasty 46 = .ok (.ifCond .ne 10, 3) := by decide +kernel
theorem dX5_hasty_49 : decode cX5_hasty 49 = .ok (.iload_n 3, 1) := by decide +kernel
theorem dX5_hasty_50 : decode cX5_hasty 50 = .ok (.iconst 1, 1) := by decide +kernel
theorem dX5_hasty_51 : decode cX5_hasty 51 = .ok (.iload 4, 2) := by decide +kernel
theorem dX5_hasty_53 : decode cX5_hasty 53 = .ok (.ishl, 1) := by decide +kernel
theorem dX5_hasty_54 : decode cX5_hasty 54 = .ok (.ior, 1) := by decide +kernel
theorem dX5_hasty_55 : decode cX5_hasty 55 = .ok (.istore_n 3, 1) := by decide +kernel
theorem dX5_hasty_56 : decode cX5_hasty 56 = .ok (.iinc 4 1, 3) := by decide +kernel
theorem dX5_hasty_59 : decode cX5_hasty 59 = .ok (.goto (-42), 3) := by decide +kernel
theorem dX5_hasty_62 : decode cX5_hasty 62 = .ok (.iload_n 3, 1) := by decide +kernel
theorem dX5_hasty_63 : decode cX5_hasty 63 = .ok (.ireturn, 1) := by decide +kernel
theorem dX5_isAny_0 : decode cX5_isAny 0 = .ok (.iconst 0, 1) := by decide +kernel
theorem dX5_isAny_1 : decode cX5_isAny 1 = .ok (.istore 4, 2) := by decide +kernel
theorem dX5_isAny_3 : decode cX5_isAny 3 = .ok (.iload 4, 2) := by decide +kernel
theorem dX5_isAny_5 : decode cX5_isAny 5 = .ok (.aload_n 0, 1) := by decide +kernel
theorem dX5_isAny_6 : decode cX5_isAny 6 = .ok (.getfield 41, 3) := by decide +kernel
theorem dX5_isAny_9 : decode cX5_isAny 9 = .ok (.if_icmp .ge 37, 3) := by decide +kernel
theorem dX5_isAny_12 : decode cX5_isAny 12 = .ok (.aload_n 0, 1) := by decide +kernel
theorem dX5_isAny_13 : decode cX5_isAny 13 = .ok (.iload 4, 2) := by decide +kernel
theorem dX5_isAny_15 : decode cX5_isAny 15 = .ok (.iload_n 3, 1) := by decide +kernel
theorem dX5_isAny_16 : decode cX5_isAny 16 = .ok (.invokevirtual 115, 3) := by decide +kernel
theorem dX5_isAny_19 : decode cX5_isAny 19 = .ok (.ifCond .eq 21, 3) := by decide +kernel
theorem dX5_isAny_22 : decode cX5_isAny 22 = .ok (.aload_n 0, 1) := by decide +kernel
theorem dX5_isAny_23 : decode cX5_isAny 23 = .ok (.getfield 20, 3) := by decide +kernel
theorem dX5_isAny_26 : decode cX5_isAny 26 = .ok (.iload 4, 2) := by decide +kernel
theorem dX5_isAny_28 : decode cX5_isAny 28 = .ok (.iconst 3, 1) := by decide +kernel
theorem dX5_isAny_29 : decode cX5_isAny 29 = .ok (.invokevirtual 101, 3) := by decide +kernel
theorem dX5_isAny_32 : decode cX5_isAny 32 = .ok (.iload_n 1, 1) := by decide +kernel
theorem dX5_isAny_33 : decode cX5_isAny 33 = .ok (.iand, 1) := by decide +kernel
theorem dX5_isAny_34 : decode cX5_isAny 34 = .ok (.iload_n 2, 1) := by decide +kernel
theorem dX5_isAny_35 : decode cX5_isAny 35 = .ok (.if_icmp .ne 5, 3) := by decide +kernel
theorem dX5_isAny_38 : decode cX5_isAny 38 = .ok (.iconst 1, 1) := by decide +kernel
theorem dX5_isAny_39 : decode cX5_isAny 39 = .ok (.ireturn, 1) := by decide +kernel
theorem dX5_isAny_40 : decode cX5_isAny 40 = .ok (.iinc 4 1, 3) := by decide +kernel
theorem dX5_isAny_43 : decode cX5_isAny 43 = .ok (.goto (-40), 3) := by decide +kernel
theorem dX5_isAny_46 : decode cX5_isAny 46 = .ok (.iconst 0, 1) := by decide +kernel
theorem dX5_isAny_47 : decode cX5_isAny 47 = .ok (.ireturn, 1) := by decide +kernel
theorem dX5_fits_0 : decode cX5_fits 0 = .ok (.aload_n 0, 1) := by decide +kernel
theorem dX5_fits_1 : decode cX5_fits 1 = .ok (.getfield 20, 3) := by decide +kernel
theorem dX5_fits_4 : decode cX5_fits 4 = .ok (.iload_n 1, 1) := by decide +kernel
theorem dX5_fits_5 : decode cX5_fits 5 = .ok (.iconst 0, 1) := by decide +kernel
theorem dX5_fits_6 : decode cX5_fits 6 = .ok (.invokevirtual 101, 3) := by decide +kernel
theorem dX5_fits_9 : decode cX5_fits 9 = .ok (.ifCond .le 20, 3) := by decide +kernel
theorem dX5_fits_12 : decode cX5_fits 12 = .ok (.aload_n 0, 1) := by decide +kernel
theorem dX5_fits_13 : decode cX5_fits 13 = .ok (.getfield 20, 3) := by decide +kernel
theorem dX5_fits_16 : decode cX5_fits 16 = .ok (.iload_n 1, 1) := by decide +kernel
theorem dX5_fits_17 : decode cX5_fits 17 = .ok (.iconst 2, 1) := by decide +kernel
theorem dX5_fits_18 : decode cX5_fits 18 = .ok (.invokevirtual 101, 3) := by decide +kernel
theorem dX5_fits_21 : decode cX5_fits 21 = .ok (.iload_n 2, 1) := by decide +kernel
theorem dX5_fits_22 : decode cX5_fits 22 = .ok (.if_icmp .gt 7, 3) := by decide +kernel
theorem dX5_fits_25 : decode cX5_fits 25 = .ok (.iconst 1, 1) := by decide +kernel
theorem dX5_fits_26 : decode cX5_fits 26 = .ok (.goto 4, 3) := by decide +kernel
theorem dX5_fits_29 : decode cX5_fits 29 = .ok (.iconst 0, 1) := by decide +kernel
theorem dX5_fits_30 : decode cX5_fits 30 = .ok (.ireturn, 1) := by decide +kernel
theorem dX5_fewestLines_0 : decode cX5_fewestLines 0 = .ok (.iconst (-1), 1) := by decide +kernel
theorem dX5_fewestLines_1 : decode cX5_fewestLines 1 = .ok (.istore_n 3, 1) := by decide +kernel
theorem dX5_fewestLines_2 : decode cX5_fewestLines 2 = .ok (.iconst 0, 1) := by decide +kernel
theorem dX5_fewestLines_3 : decode cX5_fewestLines 3 = .ok (.istore 4, 2) := by decide +kernel
theorem dX5_fewestLines_5 : decode cX5_fewestLines 5 = .ok (.iload 4, 2) := by decide +kernel
theorem dX5_fewestLines_7 : decode cX5_fewestLines 7 = .ok (.aload_n 0, 1) := by decide +kernel
theorem dX5_fewestLines_8 : decode cX5_fewestLines 8 = .ok (.getfield 41, 3) := by decide +kernel
theorem dX5_fewestLines_11 : decode cX5_fewestLines 11 = .ok (.if_icmp .ge 67, 3) := by decide +kernel
theorem dX5_fewestLines_14 : decode cX5_fewestLines 14 = .ok (.aload_n 0, 1) := by decide +kernel
theorem dX5_fewestLines_15 : decode cX5_fewestLines 15 = .ok (.iload 4, 2) := by decide +kernel
theorem dX5_fewestLines_17 : decode cX5_fewestLines 17 = .ok (.iload_n 2, 1) := by decide +kernel
theorem dX5_fewestLines_18 : decode cX5_fewestLines 18 = .ok (.invokevirtual 115, 3) := by decide +kernel
theorem dX5_fewestLines_21 : decode cX5_fewestLines 21 = .ok (.ifCond .eq 22, 3) := by decide +kernel
theorem dX5_fewestLines_24 : decode cX5_fewestLines 24 = .ok (.aload_n 0, 1) := by decide +kernel
theorem dX5_fewestLines_25 : decode cX5_fewestLines 25 = .ok (.getfield 20, 3) := by decide +kernel
theorem dX5_fewestLines_28 : decode cX5_fewestLines 28 = .ok (.iload 4, 2) := by decide +kernel
theorem dX5_fewestLines_30 : decode cX5_fewestLines 30 = .ok (.iconst 3, 1) := by decide +kernel
theorem dX5_fewestLines_31 : decode cX5_fewestLines 31 = .ok (.invokevirtual 101, 3) := by decide +kernel
theorem dX5_fewestLines_34 : decode cX5_fewestLines 34 = .ok (.iload_n 1, 1) := by decide +kernel
theorem dX5_fewestLines_35 : decode cX5_fewestLines 35 = .ok (.iand, 1) := by decide +kernel
theorem dX5_fewestLines_36 : decode cX5_fewestLines 36 = .ok (.ifCond .ne 7, 3) := by decide +kernel
theorem dX5_fewestLines_39 : decode cX5_fewestLines 39 = .ok (.iconst 1, 1) := by decide +kernel
theorem dX5_fewestLines_40 : decode cX5_fewestLines 40 = .ok (.goto 4, 3) := by decide +kernel
theorem dX5_fewestLines_43 : decode cX5_fewestLines 43 = .ok (.iconst 0, 1) := by decide +kernel
theorem dX5_fewestLines_44 : decode cX5_fewestLines 44 = .ok (.istore 5, 2) := by decide +kernel
theorem dX5_fewestLines_46 : decode cX5_fewestLines 46 = .ok (.iload 5, 2) := by decide +kernel
theorem dX5_fewestLines_48 : decode cX5_fewestLines 48 = .ok (.ifCond .eq 24, 3) := by decide +kernel
theorem dX5_fewestLines_51 : decode cX5_fewestLines 51 = .ok (.iload_n 3, 1) := by decide +kernel
theorem dX5_fewestLines_52 : decode cX5_fewestLines 52 = .ok (.iconst (-1), 1) := by decide +kernel
theorem dX5_fewestLines_53 : decode cX5_fewestLines 53 = .ok (.if_icmp .eq 16, 3) := by decide +kernel
theorem dX5_fewestLines_56 : decode cX5_fewestLines 56 = .ok (.aload_n 0, 1) := by decide +kernel
theorem dX5_fewestLines_57 : decode cX5_fewestLines 57 = .ok (.getfield 20, 3) := by decide +kernel
theorem dX5_fewestLines_60 : decode cX5_fewestLines 60 = .ok (.iload 4, 2) := by decide +kernel
theorem dX5_fewestLines_62 : decode cX5_fewestLines 62 = .ok (.iload_n 3, 1) := by decide +kernel
theorem dX5_fewestLines_63 : decode cX5_fewestLines 63 = .ok (.invokevirtual 119, 3) := by decide +kernel
theorem dX5_fewestLines_66 : decode cX5_fewestLines 66 = .ok (.ifCond .eq 6, 3) := by decide +kernel
theorem dX5_fewestLines_69 : decode cX5_fewestLines 69 = .ok (.iload 4, 2) := by decide +kernel
theorem dX5_fewestLines_71 : decode cX5_fewestLines 71 = .ok (.istore_n 3, 1) := by decide +kernel
theorem dX5_fewestLines_72 : decode cX5_fewestLines 72 = .ok (.iinc 4 1, 3) := by decide +kernel
theorem dX5_fewestLines_75 : decode cX5_fewestLines 75 = .ok (.goto (-70), 3) := by decide +kernel
theorem dX5_fewestLines_78 : decode cX5_fewestLines 78 = .ok (.aload_n 0, 1) := by decide +kernel
theorem dX5_fewestLines_79 : decode cX5_fewestLines 79 = .ok (.getfield 20, 3) := by decide +kernel
theorem dX5_fewestLines_82 : decode cX5_fewestLines 82 = .ok (.iload_n 3, 1) := by decide +kernel
theorem dX5_fewestLines_83 : decode cX5_fewestLines 83 = .ok (.iconst 0, 1) := by decide +kernel
theorem dX5_fewestLines_84 : decode cX5_fewestLines 84 = .ok (.invokevirtual 101, 3) := by decide +kernel
theorem dX5_fewestLines_87 : decode cX5_fewestLines 87 = .ok (.ireturn, 1) := by decide +kernel
theorem dX5_linesOfLeastMost_0 : decode cX5_linesOfLeastMost 0 = .ok (.iconst (-1), 1) := by decide +kernel
theorem dX5_linesOfLeastMost_1 : decode cX5_linesOfLeastMost 1 = .ok (.istore_n 2, 1) := by decide +kernel
theorem dX5_linesOfLeastMost_2 : decode cX5_linesOfLeastMost 2 = .ok (.iconst 0, 1) := by decide +kernel
theorem dX5_linesOfLeastMost_3 : decode cX5_linesOfLeastMost 3 = .ok (.istore_n 3, 1) := by decide +kernel
theorem dX5_linesOfLeastMost_4 : decode cX5_linesOfLeastMost 4 = .ok (.iload_n 3, 1) := by decide +kernel
theorem dX5_linesOfLeastMost_5 : decode cX5_linesOfLeastMost 5 = .ok (.aload_n 0, 1) := by decide +kernel
theorem dX5_linesOfLeastMost_6 : decode cX5_linesOfLeastMost 6 = .ok (.getfield 41, 3) := by decide +kernel
theorem dX5_linesOfLeastMost_9 : decode cX5_linesOfLeastMost 9 = .ok (.if_icmp .ge 65, 3) := by decide +kernel
theorem dX5_linesOfLeastMost_12 : decode cX5_linesOfLeastMost 12 = .ok (.aload_n 0, 1) := by decide +kernel
theorem dX5_linesOfLeastMost_13 : decode cX5_linesOfLeastMost 13 = .ok (.iload_n 3, 1) := by decide +kernel
theorem dX5_linesOfLeastMost_14 : decode cX5_linesOfLeastMost 14 = .ok (.sipush 1000, 3) := by decide +kernel
theorem dX5_linesOfLeastMost_17 : decode cX5_linesOfLeastMost 17 = .ok (.invokevirtual 115, 3) := by decide +kernel
theorem dX5_linesOfLeastMost_20 : decode cX5_linesOfLeastMost 20 = .ok (.ifCond .eq 21, 3) := by decide +kernel
theorem dX5_linesOfLeastMost_23 : decode cX5_linesOfLeastMost 23 = .ok (.aload_n 0, 1) := by decide +kernel
theorem dX5_linesOfLeastMost_24 : decode cX5_linesOfLeastMost 24 = .ok (.getfield 20, 3) := by decide +kernel
theorem dX5_linesOfLeastMost_27 : decode cX5_linesOfLeastMost 27 = .ok (.iload_n 3, 1) := by decide +kernel
theorem dX5_linesOfLeastMost_28 : decode cX5_linesOfLeastMost 28 = .ok (.iconst 3, 1) := by decide +kernel
theorem dX5_linesOfLeastMost_29 : decode cX5_linesOfLeastMost 29 = .ok (.invokevirtual 101, 3) := by decide +kernel
theorem dX5_linesOfLeastMost_32 : decode cX5_linesOfLeastMost 32 = .ok (.iload_n 1, 1) := by decide +kernel
theorem dX5_linesOfLeastMost_33 : decode cX5_linesOfLeastMost 33 = .ok (.iand, 1) := by decide +kernel
theorem dX5_linesOfLeastMost_34 : decode cX5_linesOfLeastMost 34 = .ok (.ifCond .ne 7, 3) := by decide +kernel
theorem dX5_linesOfLeastMost_37 : decode cX5_linesOfLeastMost 37 = .ok (.iconst 1, 1) := by decide +kernel
theorem dX5_linesOfLeastMost_38 : decode cX5_linesOfLeastMost 38 = .ok (.goto 4, 3) := by decide +kernel
theorem dX5_linesOfLeastMost_41 : decode cX5_linesOfLeastMost 41 = .ok (.iconst 0, 1) := by decide +kernel
theorem dX5_linesOfLeastMost_42 : decode cX5_linesOfLeastMost 42 = .ok (.istore 4, 2) := by decide +kernel
theorem dX5_linesOfLeastMost_44 : decode cX5_linesOfLeastMost 44 = .ok (.iload 4, 2) := by decide +kernel
theorem dX5_linesOfLeastMost_46 : decode cX5_linesOfLeastMost 46 = .ok (.ifCond .eq 22, 3) := by decide +kernel
theorem dX5_linesOfLeastMost_49 : decode cX5_linesOfLeastMost 49 = .ok (.iload_n 2, 1) := by decide +kernel
theorem dX5_linesOfLeastMost_50 : decode cX5_linesOfLeastMost 50 = .ok (.iconst (-1), 1) := by decide +kernel
theorem dX5_linesOfLeastMost_51 : decode cX5_linesOfLeastMost 51 = .ok (.if_icmp .eq 15, 3) := by decide +kernel
theorem dX5_linesOfLeastMost_54 : decode cX5_linesOfLeastMost 54 = .ok (.aload_n 0, 1) := by decide +kernel
theorem dX5_linesOfLeastMost_55 : decode cX5_linesOfLeastMost 55 = .ok (.getfield 20, 3) := by decide +kernel
theorem dX5_linesOfLeastMost_58 : decode cX5_linesOfLeastMost 58 = .ok (.iload_n 3, 1) := by decide +kernel
theorem dX5_linesOfLeastMost_59 : decode cX5_linesOfLeastMost 59 = .ok (.iload_n 2, 1) := by decide +kernel
theorem dX5_linesOfLeastMost_60 : decode cX5_linesOfLeastMost 60 = .ok (.invokevirtual 122, 3) := by decide +kernel
theorem dX5_linesOfLeastMost_63 : decode cX5_linesOfLeastMost 63 = .ok (.ifCond .eq 5, 3) := by decide +kernel
theorem dX5_linesOfLeastMost_66 : decode cX5_linesOfLeastMost 66 = .ok (.iload_n 3, 1) := by decide +kernel
theorem dX5_linesOfLeastMost_67 : decode cX5_linesOfLeastMost 67 = .ok (.istore_n 2, 1) := by decide +kernel
theorem dX5_linesOfLeastMost_68 : decode cX5_linesOfLeastMost 68 = .ok (.iinc 3 1, 3) := by decide +kernel
theorem dX5_linesOfLeastMost_71 : decode cX5_linesOfLeastMost 71 = .ok (.goto (-67), 3) := by decide +kernel
theorem dX5_linesOfLeastMost_74 : decode cX5_linesOfLeastMost 74 = .ok (.aload_n 0, 1) := by decide +kernel
theorem dX5_linesOfLeastMost_75 : decode cX5_linesOfLeastMost 75 = .ok (.getfield 20, 3) := by decide +kernel
theorem dX5_linesOfLeastMost_78 : decode cX5_linesOfLeastMost 78 = .ok (.iload_n 2, 1) := by decide +kernel
theorem dX5_linesOfLeastMost_79 : decode cX5_linesOfLeastMost 79 = .ok (.iconst 0, 1) := by decide +kernel
theorem dX5_linesOfLeastMost_80 : decode cX5_linesOfLeastMost 80 = .ok (.invokevirtual 101, 3) := by decide +kernel
theorem dX5_linesOfLeastMost_83 : decode cX5_linesOfLeastMost 83 = .ok (.ireturn, 1) := by decide +kernel
