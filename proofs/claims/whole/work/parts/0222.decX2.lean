theorem dX2_init_0 : decode cX2_init 0 = .ok (.aload_n 0, 1) := by decide +kernel
theorem dX2_init_1 : decode cX2_init 1 = .ok (.invokespecial 3, 3) := by decide +kernel
theorem dX2_init_4 : decode cX2_init 4 = .ok (.aload_n 0, 1) := by decide +kernel
theorem dX2_init_5 : decode cX2_init 5 = .ok (.bipush 40, 2) := by decide +kernel
theorem dX2_init_7 : decode cX2_init 7 = .ok (.newarray .boolean, 2) := by decide +kernel
theorem dX2_init_9 : decode cX2_init 9 = .ok (.putfield 9, 3) := by decide +kernel
theorem dX2_init_12 : decode cX2_init 12 = .ok (.aload_n 0, 1) := by decide +kernel
theorem dX2_init_13 : decode cX2_init 13 = .ok (.bipush 40, 2) := by decide +kernel
theorem dX2_init_15 : decode cX2_init 15 = .ok (.newarray .int, 2) := by decide +kernel
theorem dX2_init_17 : decode cX2_init 17 = .ok (.putfield 15, 3) := by decide +kernel
theorem dX2_init_20 : decode cX2_init 20 = .ok (.aload_n 0, 1) := by decide +kernel
theorem dX2_init_21 : decode cX2_init 21 = .ok (.bipush 40, 2) := by decide +kernel
theorem dX2_init_23 : decode cX2_init 23 = .ok (.newarray .int, 2) := by decide +kernel
theorem dX2_init_25 : decode cX2_init 25 = .ok (.putfield 19, 3) := by decide +kernel
theorem dX2_init_28 : decode cX2_init 28 = .ok (.aload_n 0, 1) := by decide +kernel
theorem dX2_init_29 : decode cX2_init 29 = .ok (.bipush 40, 2) := by decide +kernel
theorem dX2_init_31 : decode cX2_init 31 = .ok (.newarray .int, 2) := by decide +kernel
theorem dX2_init_33 : decode cX2_init 33 = .ok (.putfield 22, 3) := by decide +kernel
theorem dX2_init_36 : decode cX2_init 36 = .ok (.aload_n 0, 1) := by decide +kernel
theorem dX2_init_37 : decode cX2_init 37 = .ok (.bipush 40, 2) := by decide +kernel
theorem dX2_init_39 : decode cX2_init 39 = .ok (.newarray .int, 2) := by decide +kernel
theorem dX2_init_41 : decode cX2_init 41 = .ok (.putfield 25, 3) := by decide +kernel
theorem dX2_init_44 : decode cX2_init 44 = .ok (.return_, 1) := by decide +kernel
theorem dX2_clear_0 : decode cX2_clear 0 = .ok (.aload_n 0, 1) := by decide +kernel
theorem dX2_clear_1 : decode cX2_clear 1 = .ok (.iconst 0, 1) := by decide +kernel
theorem dX2_clear_2 : decode cX2_clear 2 = .ok (.putfield 28, 3) := by decide +kernel
theorem dX2_clear_5 : decode cX2_clear 5 = .ok (.return_, 1) := by decide +kernel
theorem dX2_place_0 : decode cX2_place 0 = .ok (.aload_n 0, 1) := by decide +kernel
theorem dX2_place_1 : decode cX2_place 1 = .ok (.aload_n 1, 1) := by decide +kernel
theorem dX2_place_2 : decode cX2_place 2 = .ok (.getfield 32, 3) := by decide +kernel
theorem dX2_place_5 : decode cX2_place 5 = .ok (.putfield 28, 3) := by decide +kernel
theorem dX2_place_8 : decode cX2_place 8 = .ok (.iconst 0, 1) := by decide +kernel
theorem dX2_place_9 : decode cX2_place 9 = .ok (.istore_n 3, 1) := by decide +kernel
theorem dX2_place_10 : decode cX2_place 10 = .ok (.iload_n 3, 1) := by decide +kernel
theorem dX2_place_11 : decode cX2_place 11 = .ok (.aload_n 0, 1) := by decide +kernel
theorem dX2_place_12 : decode cX2_place 12 = .ok (.getfield 9, 3) := by decide +kernel
theorem dX2_place_15 : decode cX2_place 15 = .ok (.arraylength, 1) := by decide +kernel
theorem dX2_place_16 : decode cX2_place 16 = .ok (.if_icmp .ge 16, 3) := by decide +kernel
theorem dX2_place_19 : decode cX2_place 19 = .ok (.aload_n 0, 1) := by decide +kernel
theorem dX2_place_20 : decode cX2_place 20 = .ok (.getfield 9, 3) := by decide +kernel
theorem dX2_place_23 : decode cX2_place 23 = .ok (.iload_n 3, 1) := by decide +kernel
theorem dX2_place_24 : decode cX2_place 24 = .ok (.iconst 0, 1) := by decide +kernel
theorem dX2_place_25 : decode cX2_place 25 = .ok (.bastore, 1) := by decide +kernel
theorem dX2_place_26 : decode cX2_place 26 = .ok (.iinc 3 1, 3) := by decide +kernel
theorem dX2_place_29 : decode cX2_place 29 = .ok (.goto (-19), 3) := by decide +kernel
theorem dX2_place_32 : decode cX2_place 32 = .ok (.aload_n 0, 1) := by decide +kernel
theorem dX2_place_33 : decode cX2_place 33 = .ok (.iconst 0, 1) := by decide +kernel
theorem dX2_place_34 : decode cX2_place 34 = .ok (.iconst 0, 1) := by decide +kernel
theorem dX2_place_35 : decode cX2_place 35 = .ok (.iconst 0, 1) := by decide +kernel
theorem dX2_place_36 : decode cX2_place 36 = .ok (.invokevirtual 35, 3) := by decide +kernel
theorem dX2_place_39 : decode cX2_place 39 = .ok (.aload_n 2, 1) := by decide +kernel
theorem dX2_place_40 : decode cX2_place 40 = .ok (.iconst 0, 1) := by decide +kernel
theorem dX2_place_41 : decode cX2_place 41 = .ok (.iconst 3, 1) := by decide +kernel
theorem dX2_place_42 : decode cX2_place 42 = .ok (.invokevirtual 39, 3) := by decide +kernel
theorem dX2_place_45 : decode cX2_place 45 = .ok (.istore_n 3, 1) := by decide +kernel
theorem dX2_place_46 : decode cX2_place 46 = .ok (.iconst 0, 1) := by decide +kernel
theorem dX2_place_47 : decode cX2_place 47 = .ok (.istore 4, 2) := by decide +kernel
theorem dX2_place_49 : decode cX2_place 49 = .ok (.iload 4, 2) := by decide +kernel
theorem dX2_place_51 : decode cX2_place 51 = .ok (.aload_n 1, 1) := by decide +kernel
theorem dX2_place_52 : decode cX2_place 52 = .ok (.getfield 32, 3) := by decide +kernel
theorem dX2_place_55 : decode cX2_place 55 = .ok (.if_icmp .ge 37, 3) := by decide +kernel
theorem dX2_place_58 : decode cX2_place 58 = .ok (.aload_n 1, 1) := by decide +kernel
theorem dX2_place_59 : decode cX2_place 59 = .ok (.iload 4, 2) := by decide +kernel
theorem dX2_place_61 : decode cX2_place 61 = .ok (.invokevirtual 45, 3) := by decide +kernel
theorem dX2_place_64 : decode cX2_place 64 = .ok (.ifCond .eq 22, 3) := by decide +kernel
theorem dX2_place_67 : decode cX2_place 67 = .ok (.aload_n 0, 1) := by decide +kernel
theorem dX2_place_68 : decode cX2_place 68 = .ok (.getfield 9, 3) := by decide +kernel
theorem dX2_place_71 : decode cX2_place 71 = .ok (.iload 4, 2) := by decide +kernel
theorem dX2_place_73 : decode cX2_place 73 = .ok (.baload, 1) := by decide +kernel
theorem dX2_place_74 : decode cX2_place 74 = .ok (.ifCond .eq 12, 3) := by decide +kernel
theorem dX2_place_77 : decode cX2_place 77 = .ok (.aload_n 0, 1) := by decide +kernel
theorem dX2_place_78 : decode cX2_place 78 = .ok (.aload_n 1, 1) := by decide +kernel
theorem dX2_place_79 : decode cX2_place 79 = .ok (.aload_n 2, 1) := by decide +kernel
theorem dX2_place_80 : decode cX2_place 80 = .ok (.iload 4, 2) := by decide +kernel
theorem dX2_place_82 : decode cX2_place 82 = .ok (.iload_n 3, 1) := by decide +kernel
theorem dX2_place_83 : decode cX2_place 83 = .ok (.invokevirtual 49, 3) := by decide +kernel
theorem dX2_place_86 : decode cX2_place 86 = .ok (.iinc 4 1, 3) := by decide +kernel
theorem dX2_place_89 : decode cX2_place 89 = .ok (.goto (-40), 3) := by decide +kernel
theorem dX2_place_92 : decode cX2_place 92 = .ok (.return_, 1) := by decide +kernel
theorem dX2_putAt_0 : decode cX2_putAt 0 = .ok (.iload_n 1, 1) := by decide +kernel
theorem dX2_putAt_1 : decode cX2_putAt 1 = .ok (.ifCond .lt 40, 3) := by decide +kernel
theorem dX2_putAt_4 : decode cX2_putAt 4 = .ok (.iload_n 1, 1) := by decide +kernel
theorem dX2_putAt_5 : decode cX2_putAt 5 = .ok (.aload_n 0, 1) := by decide +kernel
theorem dX2_putAt_6 : decode cX2_putAt 6 = .ok (.getfield 9, 3) := by decide +kernel
theorem dX2_putAt_9 : decode cX2_putAt 9 = .ok (.arraylength, 1) := by decide +kernel
theorem dX2_putAt_10 : decode cX2_putAt 10 = .ok (.if_icmp .ge 31, 3) := by decide +kernel
theorem dX2_putAt_13 : decode cX2_putAt 13 = .ok (.aload_n 0, 1) := by decide +kernel
theorem dX2_putAt_14 : decode cX2_putAt 14 = .ok (.getfield 9, 3) := by decide +kernel
theorem dX2_putAt_17 : decode cX2_putAt 17 = .ok (.iload_n 1, 1) := by decide +kernel
theorem dX2_putAt_18 : decode cX2_putAt 18 = .ok (.iconst 1, 1) := by decide +kernel
theorem dX2_putAt_19 : decode cX2_putAt 19 = .ok (.bastore, 1) := by decide +kernel
theorem dX2_putAt_20 : decode cX2_putAt 20 = .ok (.aload_n 0, 1) := by decide +kernel
theorem dX2_putAt_21 : decode cX2_putAt 21 = .ok (.getfield 15, 3) := by decide +kernel
theorem dX2_putAt_24 : decode cX2_putAt 24 = .ok (.iload_n 1, 1) := by decide +kernel
theorem dX2_putAt_25 : decode cX2_putAt 25 = .ok (.iload_n 2, 1) := by decide +kernel
theorem dX2_putAt_26 : decode cX2_putAt 26 = .ok (.iastore, 1) := by decide +kernel
theorem dX2_putAt_27 : decode cX2_putAt 27 = .ok (.aload_n 0, 1) := by decide +kernel
theorem dX2_putAt_28 : decode cX2_putAt 28 = .ok (.getfield 19, 3) := by decide +kernel
theorem dX2_putAt_31 : decode cX2_putAt 31 = .ok (.iload_n 1, 1) := by decide +kernel
theorem dX2_putAt_32 : decode cX2_putAt 32 = .ok (.iload_n 3, 1) := by decide +kernel
theorem dX2_putAt_33 : decode cX2_putAt 33 = .ok (.iastore, 1) := by decide +kernel
theorem dX2_putAt_34 : decode cX2_putAt 34 = .ok (.aload_n 0, 1) := by decide +kernel
theorem dX2_putAt_35 : decode cX2_putAt 35 = .ok (.getfield 22, 3) := by decide +kernel
theorem dX2_putAt_38 : decode cX2_putAt 38 = .ok (.iload_n 1, 1) := by decide +kernel
theorem dX2_putAt_39 : decode cX2_putAt 39 = .ok (.iconst 0, 1) := by decide +kernel
theorem dX2_putAt_40 : decode cX2_putAt 40 = .ok (.iastore, 1) := by decide +kernel
theorem dX2_putAt_41 : decode cX2_putAt 41 = .ok (.return_, 1) := by decide +kernel
theorem dX2_placeBelow_0 : decode cX2_placeBelow 0 = .ok (.aload_n 1, 1) := by decide +kernel
theorem dX2_placeBelow_1 : decode cX2_placeBelow 1 = .ok (.getfield 53, 3) := by decide +kernel
theorem dX2_placeBelow_4 : decode cX2_placeBelow 4 = .ok (.iload_n 3, 1) := by decide +kernel
theorem dX2_placeBelow_5 : decode cX2_placeBelow 5 = .ok (.iaload, 1) := by decide +kernel
theorem dX2_placeBelow_6 : decode cX2_placeBelow 6 = .ok (.istore 5, 2) := by decide +kernel
theorem dX2_placeBelow_8 : decode cX2_placeBelow 8 = .ok (.aload_n 1, 1) := by decide +kernel
theorem dX2_placeBelow_9 : decode cX2_placeBelow 9 = .ok (.getfield 56, 3) := by decide +kernel
theorem dX2_placeBelow_12 : decode cX2_placeBelow 12 = .ok (.iload_n 3, 1) := by decide +kernel
theorem dX2_placeBelow_13 : decode cX2_placeBelow 13 = .ok (.iaload, 1) := by decide +kernel
theorem dX2_placeBelow_14 : decode cX2_placeBelow 14 = .ok (.istore 6, 2) := by decide +kernel
theorem dX2_placeBelow_16 : decode cX2_placeBelow 16 = .ok (.aload_n 1, 1) := by decide +kernel
theorem dX2_placeBelow_17 : decode cX2_placeBelow 17 = .ok (.getfield 59, 3) := by decide +kernel
theorem dX2_placeBelow_20 : decode cX2_placeBelow 20 = .ok (.iload_n 3, 1) := by decide +kernel
theorem dX2_placeBelow_21 : decode cX2_placeBelow 21 = .ok (.iaload, 1) := by decide +kernel
theorem dX2_placeBelow_22 : decode cX2_placeBelow 22 = .ok (.tableswitch 238 0 4 #[34, 66, 123, 170, 210], 34) := by decide +kernel
theorem dX2_placeBelow_56 : decode cX2_placeBelow 56 = .ok (.aload_n 0, 1) := by decide +kernel
theorem dX2_placeBelow_57 : decode cX2_placeBelow 57 = .ok (.getfield 22, 3) := by decide +kernel
theorem dX2_placeBelow_60 : decode cX2_placeBelow 60 = .ok (.iload_n 3, 1) := by decide +kernel
theorem dX2_placeBelow_61 : decode cX2_placeBelow 61 = .ok (.aload_n 1, 1) := by decide +kernel
theorem dX2_placeBelow_62 : decode cX2_placeBelow 62 = .ok (.getfield 62, 3) := by decide +kernel
theorem dX2_placeBelow_65 : decode cX2_placeBelow 65 = .ok (.iload_n 3, 1) := by decide +kernel
theorem dX2_placeBelow_66 : decode cX2_placeBelow 66 = .ok (.iaload, 1) := by decide +kernel
theorem dX2_placeBelow_67 : decode cX2_placeBelow 67 = .ok (.iastore, 1) := by decide +kernel
theorem dX2_placeBelow_68 : decode cX2_placeBelow 68 = .ok (.aload_n 0, 1) := by decide +kernel
theorem dX2_placeBelow_69 : decode cX2_placeBelow 69 = .ok (.getfield 25, 3) := by decide +kernel
theorem dX2_placeBelow_72 : decode cX2_placeBelow 72 = .ok (.iload_n 3, 1) := by decide +kernel
theorem dX2_placeBelow_73 : decode cX2_placeBelow 73 = .ok (.aload_n 1, 1) := by decide +kernel
theorem dX2_placeBelow_74 : decode cX2_placeBelow 74 = .ok (.getfield 62, 3) := by decide +kernel
theorem dX2_placeBelow_77 : decode cX2_placeBelow 77 = .ok (.iload_n 3, 1) := by decide +kernel
theorem dX2_placeBelow_78 : decode cX2_placeBelow 78 = .ok (.iaload, 1) := by decide +kernel
theorem dX2_placeBelow_79 : decode cX2_placeBelow 79 = .ok (.bipush 97, 2) := by decide +kernel
theorem dX2_placeBelow_81 : decode cX2_placeBelow 81 = .ok (.iadd, 1) := by decide +kernel
theorem dX2_placeBelow_82 : decode cX2_placeBelow 82 = .ok (.iconst 1, 1) := by decide +kernel
theorem dX2_placeBelow_83 : decode cX2_placeBelow 83 = .ok (.isub, 1) := by decide +kernel
theorem dX2_placeBelow_84 : decode cX2_placeBelow 84 = .ok (.iastore, 1) := by decide +kernel
theorem dX2_placeBelow_85 : decode cX2_placeBelow 85 = .ok (.goto 193, 3) := by decide +kernel
theorem dX2_placeBelow_88 : decode cX2_placeBelow 88 = .ok (.aload_n 0, 1) := by decide +kernel
theorem dX2_placeBelow_89 : decode cX2_placeBelow 89 = .ok (.iload 5, 2) := by decide +kernel
theorem dX2_placeBelow_91 : decode cX2_placeBelow 91 = .ok (.aload_n 0, 1) := by decide +kernel
theorem dX2_placeBelow_92 : decode cX2_placeBelow 92 = .ok (.getfield 15, 3) := by decide +kernel
theorem dX2_placeBelow_95 : decode cX2_placeBelow 95 = .ok (.iload_n 3, 1) := by decide +kernel
theorem dX2_placeBelow_96 : decode cX2_placeBelow 96 = .ok (.iaload, 1) := by decide +kernel
theorem dX2_placeBelow_97 : decode cX2_placeBelow 97 = .ok (.aload_n 0, 1) := by decide +kernel
theorem dX2_placeBelow_98 : decode cX2_placeBelow 98 = .ok (.getfield 19, 3) := by decide +kernel
theorem dX2_placeBelow_101 : decode cX2_placeBelow 101 = .ok (.iload_n 3, 1) := by decide +kernel
theorem dX2_placeBelow_102 : decode cX2_placeBelow 102 = .ok (.iaload, 1) := by decide +kernel
theorem dX2_placeBelow_103 : decode cX2_placeBelow 103 = .ok (.invokevirtual 35, 3) := by decide +kernel
theorem dX2_placeBelow_106 : decode cX2_placeBelow 106 = .ok (.aload_n 0, 1) := by decide +kernel
theorem dX2_placeBelow_107 : decode cX2_placeBelow 107 = .ok (.iload 6, 2) := by decide +kernel
theorem dX2_placeBelow_109 : decode cX2_placeBelow 109 = .ok (.aload_n 0, 1) := by decide +kernel
theorem dX2_placeBelow_110 : decode cX2_placeBelow 110 = .ok (.getfield 15, 3) := by decide +kernel
theorem dX2_placeBelow_113 : decode cX2_placeBelow 113 = .ok (.iload_n 3, 1) := by decide +kernel
theorem dX2_placeBelow_114 : decode cX2_placeBelow 114 = .ok (.iaload, 1) := by decide +kernel
theorem dX2_placeBelow_115 : decode cX2_placeBelow 115 = .ok (.aload_n 2, 1) := by decide +kernel
theorem dX2_placeBelow_116 : decode cX2_placeBelow 116 = .ok (.iload 5, 2) := by decide +kernel
theorem dX2_placeBelow_118 : decode cX2_placeBelow 118 = .ok (.iconst 0, 1) := by decide +kernel
theorem dX2_placeBelow_119 : decode cX2_placeBelow 119 = .ok (.invokevirtual 39, 3) := by decide +kernel
theorem dX2_placeBelow_122 : decode cX2_placeBelow 122 = .ok (.iadd, 1) := by decide +kernel
theorem dX2_placeBelow_123 : decode cX2_placeBelow 123 = .ok (.iconst 1, 1) := by decide +kernel
theorem dX2_placeBelow_124 : decode cX2_placeBelow 124 = .ok (.isub, 1) := by decide +kernel
theorem dX2_placeBelow_125 : decode cX2_placeBelow 125 = .ok (.aload_n 0, 1) := by decide +kernel
theorem dX2_placeBelow_126 : decode cX2_placeBelow 126 = .ok (.getfield 19, 3) := by decide +kernel
theorem dX2_placeBelow_129 : decode cX2_placeBelow 129 = .ok (.iload_n 3, 1) := by decide +kernel
theorem dX2_placeBelow_130 : decode cX2_placeBelow 130 = .ok (.iaload, 1) := by decide +kernel
theorem dX2_placeBelow_131 : decode cX2_placeBelow 131 = .ok (.aload_n 2, 1) := by decide +kernel
theorem dX2_placeBelow_132 : decode cX2_placeBelow 132 = .ok (.iload 5, 2) := by decide +kernel
theorem dX2_placeBelow_134 : decode cX2_placeBelow 134 = .ok (.iconst 1, 1) := by decide +kernel
theorem dX2_placeBelow_135 : decode cX2_placeBelow 135 = .ok (.invokevirtual 39, 3) := by decide +kernel
theorem dX2_placeBelow_138 : decode cX2_placeBelow 138 = .ok (.iadd, 1) := by decide +kernel
theorem dX2_placeBelow_139 : decode cX2_placeBelow 139 = .ok (.invokevirtual 35, 3) := by decide +kernel
theorem dX2_placeBelow_142 : decode cX2_placeBelow 142 = .ok (.goto 136, 3) := by decide +kernel
theorem dX2_placeBelow_145 : decode cX2_placeBelow 145 = .ok (.aload_n 0, 1) := by decide +kernel
theorem dX2_placeBelow_146 : decode cX2_placeBelow 146 = .ok (.iload 5, 2) := by decide +kernel
theorem dX2_placeBelow_148 : decode cX2_placeBelow 148 = .ok (.aload_n 0, 1) := by decide +kernel
theorem dX2_placeBelow_149 : decode cX2_placeBelow 149 = .ok (.getfield 15, 3) := by decide +kernel
theorem dX2_placeBelow_152 : decode cX2_placeBelow 152 = .ok (.iload_n 3, 1) := by decide +kernel
theorem dX2_placeBelow_153 : decode cX2_placeBelow 153 = .ok (.iaload, 1) := by decide +kernel
theorem dX2_placeBelow_154 : decode cX2_placeBelow 154 = .ok (.aload_n 0, 1) := by decide +kernel
theorem dX2_placeBelow_155 : decode cX2_placeBelow 155 = .ok (.getfield 19, 3) := by decide +kernel
theorem dX2_placeBelow_158 : decode cX2_placeBelow 158 = .ok (.iload_n 3, 1) := by decide +kernel
theorem dX2_placeBelow_159 : decode cX2_placeBelow 159 = .ok (.iaload, 1) := by decide +kernel
theorem dX2_placeBelow_160 : decode cX2_placeBelow 160 = .ok (.invokevirtual 35, 3) := by decide +kernel
theorem dX2_placeBelow_163 : decode cX2_placeBelow 163 = .ok (.aload_n 0, 1) := by decide +kernel
theorem dX2_placeBelow_164 : decode cX2_placeBelow 164 = .ok (.iload 6, 2) := by decide +kernel
theorem dX2_placeBelow_166 : decode cX2_placeBelow 166 = .ok (.aload_n 0, 1) := by decide +kernel
theorem dX2_placeBelow_167 : decode cX2_placeBelow 167 = .ok (.getfield 15, 3) := by decide +kernel
theorem dX2_placeBelow_170 : decode cX2_placeBelow 170 = .ok (.iload_n 3, 1) := by decide +kernel
theorem dX2_placeBelow_171 : decode cX2_placeBelow 171 = .ok (.iaload, 1) := by decide +kernel
theorem dX2_placeBelow_172 : decode cX2_placeBelow 172 = .ok (.aload_n 2, 1) := by decide +kernel
theorem dX2_placeBelow_173 : decode cX2_placeBelow 173 = .ok (.iload 5, 2) := by decide +kernel
theorem dX2_placeBelow_175 : decode cX2_placeBelow 175 = .ok (.iconst 0, 1) := by decide +kernel
theorem dX2_placeBelow_176 : decode cX2_placeBelow 176 = .ok (.invokevirtual 39, 3) := by decide +kernel
theorem dX2_placeBelow_179 : decode cX2_placeBelow 179 = .ok (.iadd, 1) := by decide +kernel
theorem dX2_placeBelow_180 : decode cX2_placeBelow 180 = .ok (.aload_n 0, 1) := by decide +kernel
theorem dX2_placeBelow_181 : decode cX2_placeBelow 181 = .ok (.getfield 19, 3) := by decide +kernel
theorem dX2_placeBelow_184 : decode cX2_placeBelow 184 = .ok (.iload_n 3, 1) := by decide +kernel
theorem dX2_placeBelow_185 : decode cX2_placeBelow 185 = .ok (.iaload, 1) := by decide +kernel
theorem dX2_placeBelow_186 : decode cX2_placeBelow 186 = .ok (.invokevirtual 35, 3) := by decide +kernel
theorem dX2_placeBelow_189 : decode cX2_placeBelow 189 = .ok (.goto 89, 3) := by decide +kernel
theorem dX2_placeBelow_192 : decode cX2_placeBelow 192 = .ok (.aload_n 0, 1) := by decide +kernel
theorem dX2_placeBelow_193 : decode cX2_placeBelow 193 = .ok (.iload 4, 2) := by decide +kernel
theorem dX2_placeBelow_195 : decode cX2_placeBelow 195 = .ok (.iconst 1, 1) := by decide +kernel
theorem dX2_placeBelow_196 : decode cX2_placeBelow 196 = .ok (.aload_n 1, 1) := by decide +kernel
theorem dX2_placeBelow_197 : decode cX2_placeBelow 197 = .ok (.getfield 62, 3) := by decide +kernel
theorem dX2_placeBelow_200 : decode cX2_placeBelow 200 = .ok (.iload_n 3, 1) := by decide +kernel
theorem dX2_placeBelow_201 : decode cX2_placeBelow 201 = .ok (.iaload, 1) := by decide +kernel
theorem dX2_placeBelow_202 : decode cX2_placeBelow 202 = .ok (.ishl, 1) := by decide +kernel
theorem dX2_placeBelow_203 : decode cX2_placeBelow 203 = .ok (.iand, 1) := by decide +kernel
theorem dX2_placeBelow_204 : decode cX2_placeBelow 204 = .ok (.ifCond .ne 8, 3) := by decide +kernel
theorem dX2_placeBelow_207 : decode cX2_placeBelow 207 = .ok (.iload 5, 2) := by decide +kernel
theorem dX2_placeBelow_209 : decode cX2_placeBelow 209 = .ok (.goto 5, 3) := by decide +kernel
theorem dX2_placeBelow_212 : decode cX2_placeBelow 212 = .ok (.iload 6, 2) := by decide +kernel
theorem dX2_placeBelow_214 : decode cX2_placeBelow 214 = .ok (.aload_n 0, 1) := by decide +kernel
theorem dX2_placeBelow_215 : decode cX2_placeBelow 215 = .ok (.getfield 15, 3) := by decide +kernel
theorem dX2_placeBelow_218 : decode cX2_placeBelow 218 = .ok (.iload_n 3, 1) := by decide +kernel
theorem dX2_placeBelow_219 : decode cX2_placeBelow 219 = .ok (.iaload, 1) := by decide +kernel
theorem dX2_placeBelow_220 : decode cX2_placeBelow 220 = .ok (.aload_n 0, 1) := by decide +kernel
theorem dX2_placeBelow_221 : decode cX2_placeBelow 221 = .ok (.getfield 19, 3) := by decide +kernel
theorem dX2_placeBelow_224 : decode cX2_placeBelow 224 = .ok (.iload_n 3, 1) := by decide +kernel
theorem dX2_placeBelow_225 : decode cX2_placeBelow 225 = .ok (.iaload, 1) := by decide +kernel
theorem dX2_placeBelow_226 : decode cX2_placeBelow 226 = .ok (.invokevirtual 35, 3) := by decide +kernel
theorem dX2_placeBelow_229 : decode cX2_placeBelow 229 = .ok (.goto 49, 3) := by decide +kernel
theorem dX2_placeBelow_232 : decode cX2_placeBelow 232 = .ok (.aload_n 0, 1) := by decide +kernel
theorem dX2_placeBelow_233 : decode cX2_placeBelow 233 = .ok (.iload 5, 2) := by decide +kernel
theorem dX2_placeBelow_235 : decode cX2_placeBelow 235 = .ok (.aload_n 0, 1) := by decide +kernel
theorem dX2_placeBelow_236 : decode cX2_placeBelow 236 = .ok (.getfield 15, 3) := by decide +kernel
theorem dX2_placeBelow_239 : decode cX2_placeBelow 239 = .ok (.iload_n 3, 1) := by decide +kernel
theorem dX2_placeBelow_240 : decode cX2_placeBelow 240 = .ok (.iaload, 1) := by decide +kernel
theorem dX2_placeBelow_241 : decode cX2_placeBelow 241 = .ok (.aload_n 0, 1) := by decide +kernel
theorem dX2_placeBelow_242 : decode cX2_placeBelow 242 = .ok (.getfield 19, 3) := by decide +kernel
theorem dX2_placeBelow_245 : decode cX2_placeBelow 245 = .ok (.iload_n 3, 1) := by decide +kernel
theorem dX2_placeBelow_246 : decode cX2_placeBelow 246 = .ok (.iaload, 1) := by decide +kernel
theorem dX2_placeBelow_247 : decode cX2_placeBelow 247 = .ok (.aload_n 1, 1) := by decide +kernel
theorem dX2_placeBelow_248 : decode cX2_placeBelow 248 = .ok (.getfield 62, 3) := by decide +kernel
theorem dX2_placeBelow_251 : decode cX2_placeBelow 251 = .ok (.iload_n 3, 1) := by decide +kernel
theorem dX2_placeBelow_252 : decode cX2_placeBelow 252 = .ok (.iaload, 1) := by decide +kernel
theorem dX2_placeBelow_253 : decode cX2_placeBelow 253 = .ok (.iadd, 1) := by decide +kernel
theorem dX2_placeBelow_254 : decode cX2_placeBelow 254 = .ok (.invokevirtual 35, 3) := by decide +kernel
theorem dX2_placeBelow_257 : decode cX2_placeBelow 257 = .ok (.goto 21, 3) := by decide +kernel
theorem dX2_placeBelow_260 : decode cX2_placeBelow 260 = .ok (.aload_n 0, 1) := by decide +kernel
theorem dX2_placeBelow_261 : decode cX2_placeBelow 261 = .ok (.iload 5, 2) := by decide +kernel
theorem dX2_placeBelow_263 : decode cX2_placeBelow 263 = .ok (.aload_n 0, 1) := by decide +kernel
theorem dX2_placeBelow_264 : decode cX2_placeBelow 264 = .ok (.getfield 15, 3) := by decide +kernel
theorem dX2_placeBelow_267 : decode cX2_placeBelow 267 = .ok (.iload_n 3, 1) := by decide +kernel
theorem dX2_placeBelow_268 : decode cX2_placeBelow 268 = .ok (.iaload, 1) := by decide +kernel
theorem dX2_placeBelow_269 : decode cX2_placeBelow 269 = .ok (.aload_n 0, 1) := by decide +kernel
theorem dX2_placeBelow_270 : decode cX2_placeBelow 270 = .ok (.getfield 19, 3) := by decide +kernel
theorem dX2_placeBelow_273 : decode cX2_placeBelow 273 = .ok (.iload_n 3, 1) := by decide +kernel
theorem dX2_placeBelow_274 : decode cX2_placeBelow 274 = .ok (.iaload, 1) := by decide +kernel
theorem dX2_placeBelow_275 : decode cX2_placeBelow 275 = .ok (.invokevirtual 35, 3) := by decide +kernel
theorem dX2_placeBelow_278 : decode cX2_placeBelow 278 = .ok (.return_, 1) := by decide +kernel
theorem dX2_isWordOn_0 : decode cX2_isWordOn 0 = .ok (.aload_n 0, 1) := by decide +kernel
theorem dX2_isWordOn_1 : decode cX2_isWordOn 1 = .ok (.getfield 9, 3) := by decide +kernel
theorem dX2_isWordOn_4 : decode cX2_isWordOn 4 = .ok (.iload_n 1, 1) := by decide +kernel
theorem dX2_isWordOn_5 : decode cX2_isWordOn 5 = .ok (.baload, 1) := by decide +kernel
theorem dX2_isWordOn_6 : decode cX2_isWordOn 6 = .ok (.ifCond .eq 26, 3) := by decide +kernel
theorem dX2_isWordOn_9 : decode cX2_isWordOn 9 = .ok (.aload_n 0, 1) := by decide +kernel
theorem dX2_isWordOn_10 : decode cX2_isWordOn 10 = .ok (.getfield 22, 3) := by decide +kernel
theorem dX2_isWordOn_13 : decode cX2_isWordOn 13 = .ok (.iload_n 1, 1) := by decide +kernel
theorem dX2_isWordOn_14 : decode cX2_isWordOn 14 = .ok (.iaload, 1) := by decide +kernel
theorem dX2_isWordOn_15 : decode cX2_isWordOn 15 = .ok (.ifCond .le 17, 3) := by decide +kernel
theorem dX2_isWordOn_18 : decode cX2_isWordOn 18 = .ok (.aload_n 0, 1) := by decide +kernel
theorem dX2_isWordOn_19 : decode cX2_isWordOn 19 = .ok (.getfield 15, 3) := by decide +kernel
theorem dX2_isWordOn_22 : decode cX2_isWordOn 22 = .ok (.iload_n 1, 1) := by decide +kernel
theorem dX2_isWordOn_23 : decode cX2_isWordOn 23 = .ok (.iaload, 1) := by decide +kernel
theorem dX2_isWordOn_24 : decode cX2_isWordOn 24 = .ok (.iload_n 2, 1) := by decide +kernel
theorem dX2_isWordOn_25 : decode cX2_isWordOn 25 = .ok (.if_icmp .ne 7, 3) := by decide +kernel
theorem dX2_isWordOn_28 : decode cX2_isWordOn 28 = .ok (.iconst 1, 1) := by decide +kernel
theorem dX2_isWordOn_29 : decode cX2_isWordOn 29 = .ok (.goto 4, 3) := by decide +kernel
theorem dX2_isWordOn_32 : decode cX2_isWordOn 32 = .ok (.iconst 0, 1) := by decide +kernel
theorem dX2_isWordOn_33 : decode cX2_isWordOn 33 = .ok (.ireturn, 1) := by decide +kernel
theorem dX2_columnsOf_0 : decode cX2_columnsOf 0 = .ok (.iconst (-1), 1) := by decide +kernel
theorem dX2_columnsOf_1 : decode cX2_columnsOf 1 = .ok (.istore_n 2, 1) := by decide +kernel
theorem dX2_columnsOf_2 : decode cX2_columnsOf 2 = .ok (.iconst 0, 1) := by decide +kernel
theorem dX2_columnsOf_3 : decode cX2_columnsOf 3 = .ok (.istore_n 3, 1) := by decide +kernel
theorem dX2_columnsOf_4 : decode cX2_columnsOf 4 = .ok (.iload_n 3, 1) := by decide +kernel
theorem dX2_columnsOf_5 : decode cX2_columnsOf 5 = .ok (.aload_n 0, 1) := by decide +kernel
theorem dX2_columnsOf_6 : decode cX2_columnsOf 6 = .ok (.getfield 28, 3) := by decide +kernel
theorem dX2_columnsOf_9 : decode cX2_columnsOf 9 = .ok (.if_icmp .ge 45, 3) := by decide +kernel
theorem dX2_columnsOf_12 : decode cX2_columnsOf 12 = .ok (.iload_n 3, 1) := by decide +kernel
theorem dX2_columnsOf_13 : decode cX2_columnsOf 13 = .ok (.aload_n 0, 1) := by decide +kernel
theorem dX2_columnsOf_14 : decode cX2_columnsOf 14 = .ok (.getfield 9, 3) := by decide +kernel
theorem dX2_columnsOf_17 : decode cX2_columnsOf 17 = .ok (.arraylength, 1) := by decide +kernel
theorem dX2_columnsOf_18 : decode cX2_columnsOf 18 = .ok (.if_icmp .ge 36, 3) := by decide +kernel
theorem dX2_columnsOf_21 : decode cX2_columnsOf 21 = .ok (.aload_n 0, 1) := by decide +kernel
theorem dX2_columnsOf_22 : decode cX2_columnsOf 22 = .ok (.iload_n 3, 1) := by decide +kernel
theorem dX2_columnsOf_23 : decode cX2_columnsOf 23 = .ok (.iload_n 1, 1) := by decide +kernel
theorem dX2_columnsOf_24 : decode cX2_columnsOf 24 = .ok (.invokevirtual 65, 3) := by decide +kernel
theorem dX2_columnsOf_27 : decode cX2_columnsOf 27 = .ok (.ifCond .eq 21, 3) := by decide +kernel
theorem dX2_columnsOf_30 : decode cX2_columnsOf 30 = .ok (.iload_n 2, 1) := by decide +kernel
theorem dX2_columnsOf_31 : decode cX2_columnsOf 31 = .ok (.aload_n 0, 1) := by decide +kernel
theorem dX2_columnsOf_32 : decode cX2_columnsOf 32 = .ok (.getfield 19, 3) := by decide +kernel
theorem dX2_columnsOf_35 : decode cX2_columnsOf 35 = .ok (.iload_n 3, 1) := by decide +kernel
theorem dX2_columnsOf_36 : decode cX2_columnsOf 36 = .ok (.iaload, 1) := by decide +kernel
theorem dX2_columnsOf_37 : decode cX2_columnsOf 37 = .ok (.aload_n 0, 1) := by decide +kernel
theorem dX2_columnsOf_38 : decode cX2_columnsOf 38 = .ok (.getfield 22, 3) := by decide +kernel
theorem dX2_columnsOf_41 : decode cX2_columnsOf 41 = .ok (.iload_n 3, 1) := by decide +kernel
theorem dX2_columnsOf_42 : decode cX2_columnsOf 42 = .ok (.iaload, 1) := by decide +kernel
theorem dX2_columnsOf_43 : decode cX2_columnsOf 43 = .ok (.iadd, 1) := by decide +kernel
theorem dX2_columnsOf_44 : decode cX2_columnsOf 44 = .ok (.invokestatic 69, 3) := by decide +kernel
theorem dX2_columnsOf_47 : decode cX2_columnsOf 47 = .ok (.istore_n 2, 1) := by decide +kernel
theorem dX2_columnsOf_48 : decode cX2_columnsOf 48 = .ok (.iinc 3 1, 3) := by decide +kernel
theorem dX2_columnsOf_51 : decode cX2_columnsOf 51 = .ok (.goto (-47), 3) := by decide +kernel
theorem dX2_columnsOf_54 : decode cX2_columnsOf 54 = .ok (.iload_n 2, 1) := by decide +kernel
theorem dX2_columnsOf_55 : decode cX2_columnsOf 55 = .ok (.ireturn, 1) := by decide +kernel
theorem dX2_byteAt_0 : decode cX2_byteAt 0 = .ok (.iconst 0, 1) := by decide +kernel
theorem dX2_byteAt_1 : decode cX2_byteAt 1 = .ok (.istore_n 3, 1) := by decide +kernel
theorem dX2_byteAt_2 : decode cX2_byteAt 2 = .ok (.iload_n 3, 1) := by decide +kernel
theorem dX2_byteAt_3 : decode cX2_byteAt 3 = .ok (.aload_n 0, 1) := by decide +kernel
theorem dX2_byteAt_4 : decode cX2_byteAt 4 = .ok (.getfield 28, 3) := by decide +kernel
theorem dX2_byteAt_7 : decode cX2_byteAt 7 = .ok (.if_icmp .ge 73, 3) := by decide +kernel
theorem dX2_byteAt_10 : decode cX2_byteAt 10 = .ok (.iload_n 3, 1) := by decide +kernel
theorem dX2_byteAt_11 : decode cX2_byteAt 11 = .ok (.aload_n 0, 1) := by decide +kernel
theorem dX2_byteAt_12 : decode cX2_byteAt 12 = .ok (.getfield 9, 3) := by decide +kernel
theorem dX2_byteAt_15 : decode cX2_byteAt 15 = .ok (.arraylength, 1) := by decide +kernel
theorem dX2_byteAt_16 : decode cX2_byteAt 16 = .ok (.if_icmp .ge 64, 3) := by decide +kernel
theorem dX2_byteAt_19 : decode cX2_byteAt 19 = .ok (.iload_n 2, 1) := by decide +kernel
theorem dX2_byteAt_20 : decode cX2_byteAt 20 = .ok (.aload_n 0, 1) := by decide +kernel
theorem dX2_byteAt_21 : decode cX2_byteAt 21 = .ok (.getfield 19, 3) := by decide +kernel
theorem dX2_byteAt_24 : decode cX2_byteAt 24 = .ok (.iload_n 3, 1) := by decide +kernel
theorem dX2_byteAt_25 : decode cX2_byteAt 25 = .ok (.iaload, 1) := by decide +kernel
theorem dX2_byteAt_26 : decode cX2_byteAt 26 = .ok (.if_icmp .lt 24, 3) := by decide +kernel
theorem dX2_byteAt_29 : decode cX2_byteAt 29 = .ok (.iload_n 2, 1) := by decide +kernel
theorem dX2_byteAt_30 : decode cX2_byteAt 30 = .ok (.aload_n 0, 1) := by decide +kernel
theorem dX2_byteAt_31 : decode cX2_byteAt 31 = .ok (.getfield 19, 3) := by decide +kernel
theorem dX2_byteAt_34 : decode cX2_byteAt 34 = .ok (.iload_n 3, 1) := by decide +kernel
theorem dX2_byteAt_35 : decode cX2_byteAt 35 = .ok (.iaload, 1) := by decide +kernel
theorem dX2_byteAt_36 : decode cX2_byteAt 36 = .ok (.aload_n 0, 1) := by decide +kernel
theorem dX2_byteAt_37 : decode cX2_byteAt 37 = .ok (.getfield 22, 3) := by decide +kernel
theorem dX2_byteAt_40 : decode cX2_byteAt 40 = .ok (.iload_n 3, 1) := by decide +kernel
theorem dX2_byteAt_41 : decode cX2_byteAt 41 = .ok (.iaload, 1) := by decide +kernel
theorem dX2_byteAt_42 : decode cX2_byteAt 42 = .ok (.iadd, 1) := by decide +kernel
theorem dX2_byteAt_43 : decode cX2_byteAt 43 = .ok (.if_icmp .ge 7, 3) := by decide +kernel
theorem dX2_byteAt_46 : decode cX2_byteAt 46 = .ok (.iconst 1, 1) := by decide +kernel
theorem dX2_byteAt_47 : decode cX2_byteAt 47 = .ok (.goto 4, 3) := by decide +kernel
theorem dX2_byteAt_50 : decode cX2_byteAt 50 = .ok (.iconst 0, 1) := by decide +kernel
theorem dX2_byteAt_51 : decode cX2_byteAt 51 = .ok (.istore 4, 2) := by decide +kernel
theorem dX2_byteAt_53 : decode cX2_byteAt 53 = .ok (.iload 4, 2) := by decide +kernel
theorem dX2_byteAt_55 : decode cX2_byteAt 55 = .ok (.ifCond .eq 19, 3) := by decide +kernel
theorem dX2_byteAt_58 : decode cX2_byteAt 58 = .ok (.aload_n 0, 1) := by decide +kernel
theorem dX2_byteAt_59 : decode cX2_byteAt 59 = .ok (.iload_n 3, 1) := by decide +kernel
theorem dX2_byteAt_60 : decode cX2_byteAt 60 = .ok (.iload_n 1, 1) := by decide +kernel
theorem dX2_byteAt_61 : decode cX2_byteAt 61 = .ok (.invokevirtual 65, 3) := by decide +kernel
theorem dX2_byteAt_64 : decode cX2_byteAt 64 = .ok (.ifCond .eq 10, 3) := by decide +kernel
theorem dX2_byteAt_67 : decode cX2_byteAt 67 = .ok (.aload_n 0, 1) := by decide +kernel
theorem dX2_byteAt_68 : decode cX2_byteAt 68 = .ok (.getfield 25, 3) := by decide +kernel
theorem dX2_byteAt_71 : decode cX2_byteAt 71 = .ok (.iload_n 3, 1) := by decide +kernel
theorem dX2_byteAt_72 : decode cX2_byteAt 72 = .ok (.iaload, 1) := by decide +kernel
theorem dX2_byteAt_73 : decode cX2_byteAt 73 = .ok (.ireturn, 1) := by decide +kernel
theorem dX2_byteAt_74 : decode cX2_byteAt 74 = .ok (.iinc 3 1, 3) := by decide +kernel
theorem dX2_byteAt_77 : decode cX2_byteAt 77 = .ok (.goto (-75), 3) := by decide +kernel
theorem dX2_byteAt_80 : decode cX2_byteAt 80 = .ok (.iload_n 2, 1) := by decide +kernel
theorem dX2_byteAt_81 : decode cX2_byteAt 81 = .ok (.aload_n 0, 1) := by decide +kernel
theorem dX2_byteAt_82 : decode cX2_byteAt 82 = .ok (.iload_n 1, 1) := by decide +kernel
theorem dX2_byteAt_83 : decode cX2_byteAt 83 = .ok (.invokevirtual 74, 3) := by decide +kernel
theorem dX2_byteAt_86 : decode cX2_byteAt 86 = .ok (.if_icmp .ge 8, 3) := by decide +kernel
theorem dX2_byteAt_89 : decode cX2_byteAt 89 = .ok (.bipush 32, 2) := by decide +kernel
theorem dX2_byteAt_91 : decode cX2_byteAt 91 = .ok (.goto 4, 3) := by decide +kernel
theorem dX2_byteAt_94 : decode cX2_byteAt 94 = .ok (.iconst (-1), 1) := by decide +kernel
theorem dX2_byteAt_95 : decode cX2_byteAt 95 = .ok (.ireturn, 1) := by decide +kernel
