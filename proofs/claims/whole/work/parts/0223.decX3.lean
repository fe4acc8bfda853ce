theorem dX3_init_0 : decode cX3_init 0 = .ok (.aload_n 0, 1) := by decide +kernel
theorem dX3_init_1 : decode cX3_init 1 = .ok (.invokespecial 3, 3) := by decide +kernel
theorem dX3_init_4 : decode cX3_init 4 = .ok (.iconst 0, 1) := by decide +kernel
theorem dX3_init_5 : decode cX3_init 5 = .ok (.iload_n 1, 1) := by decide +kernel
theorem dX3_init_6 : decode cX3_init 6 = .ok (.invokestatic 9, 3) := by decide +kernel
theorem dX3_init_9 : decode cX3_init 9 = .ok (.istore_n 2, 1) := by decide +kernel
theorem dX3_init_10 : decode cX3_init 10 = .ok (.aload_n 0, 1) := by decide +kernel
theorem dX3_init_11 : decode cX3_init 11 = .ok (.iload_n 2, 1) := by decide +kernel
theorem dX3_init_12 : decode cX3_init 12 = .ok (.newarray .int, 2) := by decide +kernel
theorem dX3_init_14 : decode cX3_init 14 = .ok (.putfield 15, 3) := by decide +kernel
theorem dX3_init_17 : decode cX3_init 17 = .ok (.aload_n 0, 1) := by decide +kernel
theorem dX3_init_18 : decode cX3_init 18 = .ok (.iload_n 2, 1) := by decide +kernel
theorem dX3_init_19 : decode cX3_init 19 = .ok (.newarray .int, 2) := by decide +kernel
theorem dX3_init_21 : decode cX3_init 21 = .ok (.putfield 21, 3) := by decide +kernel
theorem dX3_init_24 : decode cX3_init 24 = .ok (.aload_n 0, 1) := by decide +kernel
theorem dX3_init_25 : decode cX3_init 25 = .ok (.iload_n 2, 1) := by decide +kernel
theorem dX3_init_26 : decode cX3_init 26 = .ok (.newarray .int, 2) := by decide +kernel
theorem dX3_init_28 : decode cX3_init 28 = .ok (.putfield 24, 3) := by decide +kernel
theorem dX3_init_31 : decode cX3_init 31 = .ok (.aload_n 0, 1) := by decide +kernel
theorem dX3_init_32 : decode cX3_init 32 = .ok (.iload_n 2, 1) := by decide +kernel
theorem dX3_init_33 : decode cX3_init 33 = .ok (.newarray .int, 2) := by decide +kernel
theorem dX3_init_35 : decode cX3_init 35 = .ok (.putfield 27, 3) := by decide +kernel
theorem dX3_init_38 : decode cX3_init 38 = .ok (.return_, 1) := by decide +kernel
theorem dX3_has_0 : decode cX3_has 0 = .ok (.iload_n 1, 1) := by decide +kernel
theorem dX3_has_1 : decode cX3_has 1 = .ok (.ifCond .lt 16, 3) := by decide +kernel
theorem dX3_has_4 : decode cX3_has 4 = .ok (.iload_n 1, 1) := by decide +kernel
theorem dX3_has_5 : decode cX3_has 5 = .ok (.aload_n 0, 1) := by decide +kernel
theorem dX3_has_6 : decode cX3_has 6 = .ok (.getfield 15, 3) := by decide +kernel
theorem dX3_has_9 : decode cX3_has 9 = .ok (.arraylength, 1) := by decide +kernel
theorem dX3_has_10 : decode cX3_has 10 = .ok (.if_icmp .ge 7, 3) := by decide +kernel
theorem dX3_has_13 : decode cX3_has 13 = .ok (.iconst 1, 1) := by decide +kernel
theorem dX3_has_14 : decode cX3_has 14 = .ok (.goto 4, 3) := by decide +kernel
theorem dX3_has_17 : decode cX3_has 17 = .ok (.iconst 0, 1) := by decide +kernel
theorem dX3_has_18 : decode cX3_has 18 = .ok (.ireturn, 1) := by decide +kernel
theorem dX3_set_0 : decode cX3_set 0 = .ok (.iload_n 1, 1) := by decide +kernel
theorem dX3_set_1 : decode cX3_set 1 = .ok (.ifCond .lt 42, 3) := by decide +kernel
theorem dX3_set_4 : decode cX3_set 4 = .ok (.iload_n 1, 1) := by decide +kernel
theorem dX3_set_5 : decode cX3_set 5 = .ok (.aload_n 0, 1) := by decide +kernel
theorem dX3_set_6 : decode cX3_set 6 = .ok (.getfield 15, 3) := by decide +kernel
theorem dX3_set_9 : decode cX3_set 9 = .ok (.arraylength, 1) := by decide +kernel
theorem dX3_set_10 : decode cX3_set 10 = .ok (.if_icmp .ge 33, 3) := by decide +kernel
theorem dX3_set_13 : decode cX3_set 13 = .ok (.aload_n 0, 1) := by decide +kernel
theorem dX3_set_14 : decode cX3_set 14 = .ok (.getfield 15, 3) := by decide +kernel
theorem dX3_set_17 : decode cX3_set 17 = .ok (.iload_n 1, 1) := by decide +kernel
theorem dX3_set_18 : decode cX3_set 18 = .ok (.iload_n 2, 1) := by decide +kernel
theorem dX3_set_19 : decode cX3_set 19 = .ok (.iastore, 1) := by decide +kernel
theorem dX3_set_20 : decode cX3_set 20 = .ok (.aload_n 0, 1) := by decide +kernel
theorem dX3_set_21 : decode cX3_set 21 = .ok (.getfield 21, 3) := by decide +kernel
theorem dX3_set_24 : decode cX3_set 24 = .ok (.iload_n 1, 1) := by decide +kernel
theorem dX3_set_25 : decode cX3_set 25 = .ok (.iload_n 3, 1) := by decide +kernel
theorem dX3_set_26 : decode cX3_set 26 = .ok (.iastore, 1) := by decide +kernel
theorem dX3_set_27 : decode cX3_set 27 = .ok (.aload_n 0, 1) := by decide +kernel
theorem dX3_set_28 : decode cX3_set 28 = .ok (.getfield 24, 3) := by decide +kernel
theorem dX3_set_31 : decode cX3_set 31 = .ok (.iload_n 1, 1) := by decide +kernel
theorem dX3_set_32 : decode cX3_set 32 = .ok (.iload 4, 2) := by decide +kernel
theorem dX3_set_34 : decode cX3_set 34 = .ok (.iastore, 1) := by decide +kernel
theorem dX3_set_35 : decode cX3_set 35 = .ok (.aload_n 0, 1) := by decide +kernel
theorem dX3_set_36 : decode cX3_set 36 = .ok (.getfield 27, 3) := by decide +kernel
theorem dX3_set_39 : decode cX3_set 39 = .ok (.iload_n 1, 1) := by decide +kernel
theorem dX3_set_40 : decode cX3_set 40 = .ok (.iload 5, 2) := by decide +kernel
theorem dX3_set_42 : decode cX3_set 42 = .ok (.iastore, 1) := by decide +kernel
theorem dX3_set_43 : decode cX3_set 43 = .ok (.return_, 1) := by decide +kernel
theorem dX3_setWord_0 : decode cX3_setWord 0 = .ok (.aload_n 0, 1) := by decide +kernel
theorem dX3_setWord_1 : decode cX3_setWord 1 = .ok (.iload_n 1, 1) := by decide +kernel
theorem dX3_setWord_2 : decode cX3_setWord 2 = .ok (.iconst 1, 1) := by decide +kernel
theorem dX3_setWord_3 : decode cX3_setWord 3 = .ok (.iload_n 2, 1) := by decide +kernel
theorem dX3_setWord_4 : decode cX3_setWord 4 = .ok (.iload_n 2, 1) := by decide +kernel
theorem dX3_setWord_5 : decode cX3_setWord 5 = .ok (.iconst 0, 1) := by decide +kernel
theorem dX3_setWord_6 : decode cX3_setWord 6 = .ok (.invokevirtual 30, 3) := by decide +kernel
theorem dX3_setWord_9 : decode cX3_setWord 9 = .ok (.return_, 1) := by decide +kernel
theorem dX3_setLike_0 : decode cX3_setLike 0 = .ok (.aload_n 0, 1) := by decide +kernel
theorem dX3_setLike_1 : decode cX3_setLike 1 = .ok (.iload_n 2, 1) := by decide +kernel
theorem dX3_setLike_2 : decode cX3_setLike 2 = .ok (.invokevirtual 34, 3) := by decide +kernel
theorem dX3_setLike_5 : decode cX3_setLike 5 = .ok (.ifCond .eq 34, 3) := by decide +kernel
theorem dX3_setLike_8 : decode cX3_setLike 8 = .ok (.aload_n 0, 1) := by decide +kernel
theorem dX3_setLike_9 : decode cX3_setLike 9 = .ok (.iload_n 1, 1) := by decide +kernel
theorem dX3_setLike_10 : decode cX3_setLike 10 = .ok (.aload_n 0, 1) := by decide +kernel
theorem dX3_setLike_11 : decode cX3_setLike 11 = .ok (.getfield 15, 3) := by decide +kernel
theorem dX3_setLike_14 : decode cX3_setLike 14 = .ok (.iload_n 2, 1) := by decide +kernel
theorem dX3_setLike_15 : decode cX3_setLike 15 = .ok (.iaload, 1) := by decide +kernel
theorem dX3_setLike_16 : decode cX3_setLike 16 = .ok (.aload_n 0, 1) := by decide +kernel
theorem dX3_setLike_17 : decode cX3_setLike 17 = .ok (.getfield 21, 3) := by decide +kernel
theorem dX3_setLike_20 : decode cX3_setLike 20 = .ok (.iload_n 2, 1) := by decide +kernel
theorem dX3_setLike_21 : decode cX3_setLike 21 = .ok (.iaload, 1) := by decide +kernel
theorem dX3_setLike_22 : decode cX3_setLike 22 = .ok (.aload_n 0, 1) := by decide +kernel
theorem dX3_setLike_23 : decode cX3_setLike 23 = .ok (.getfield 24, 3) := by decide +kernel
theorem dX3_setLike_26 : decode cX3_setLike 26 = .ok (.iload_n 2, 1) := by decide +kernel
theorem dX3_setLike_27 : decode cX3_setLike 27 = .ok (.iaload, 1) := by decide +kernel
theorem dX3_setLike_28 : decode cX3_setLike 28 = .ok (.aload_n 0, 1) := by decide +kernel
theorem dX3_setLike_29 : decode cX3_setLike 29 = .ok (.getfield 27, 3) := by decide +kernel
theorem dX3_setLike_32 : decode cX3_setLike 32 = .ok (.iload_n 2, 1) := by decide +kernel
theorem dX3_setLike_33 : decode cX3_setLike 33 = .ok (.iaload, 1) := by decide +kernel
theorem dX3_setLike_34 : decode cX3_setLike 34 = .ok (.iload_n 3, 1) := by decide +kernel
theorem dX3_setLike_35 : decode cX3_setLike 35 = .ok (.ior, 1) := by decide +kernel
theorem dX3_setLike_36 : decode cX3_setLike 36 = .ok (.invokevirtual 30, 3) := by decide +kernel
theorem dX3_setLike_39 : decode cX3_setLike 39 = .ok (.return_, 1) := by decide +kernel
theorem dX3_setMade_0 : decode cX3_setMade 0 = .ok (.aload_n 0, 1) := by decide +kernel
theorem dX3_setMade_1 : decode cX3_setMade 1 = .ok (.iload 4, 2) := by decide +kernel
theorem dX3_setMade_3 : decode cX3_setMade 3 = .ok (.invokevirtual 34, 3) := by decide +kernel
theorem dX3_setMade_6 : decode cX3_setMade 6 = .ok (.ifCond .eq 12, 3) := by decide +kernel
theorem dX3_setMade_9 : decode cX3_setMade 9 = .ok (.aload_n 0, 1) := by decide +kernel
theorem dX3_setMade_10 : decode cX3_setMade 10 = .ok (.iload 5, 2) := by decide +kernel
theorem dX3_setMade_12 : decode cX3_setMade 12 = .ok (.invokevirtual 34, 3) := by decide +kernel
theorem dX3_setMade_15 : decode cX3_setMade 15 = .ok (.ifCond .ne 4, 3) := by decide +kernel
theorem dX3_setMade_18 : decode cX3_setMade 18 = .ok (.return_, 1) := by decide +kernel
theorem dX3_setMade_19 : decode cX3_setMade 19 = .ok (.iload_n 2, 1) := by decide +kernel
theorem dX3_setMade_20 : decode cX3_setMade 20 = .ok (.lookupswitch 170 #[(1, 28), (2, 108)], 28) := by decide +kernel
theorem dX3_setMade_48 : decode cX3_setMade 48 = .ok (.aload_n 0, 1) := by decide +kernel
theorem dX3_setMade_49 : decode cX3_setMade 49 = .ok (.iload_n 1, 1) := by decide +kernel
theorem dX3_setMade_50 : decode cX3_setMade 50 = .ok (.aload_n 0, 1) := by decide +kernel
theorem dX3_setMade_51 : decode cX3_setMade 51 = .ok (.getfield 15, 3) := by decide +kernel
theorem dX3_setMade_54 : decode cX3_setMade 54 = .ok (.iload 4, 2) := by decide +kernel
theorem dX3_setMade_56 : decode cX3_setMade 56 = .ok (.iaload, 1) := by decide +kernel
theorem dX3_setMade_57 : decode cX3_setMade 57 = .ok (.aload_n 0, 1) := by decide +kernel
theorem dX3_setMade_58 : decode cX3_setMade 58 = .ok (.getfield 15, 3) := by decide +kernel
theorem dX3_setMade_61 : decode cX3_setMade 61 = .ok (.iload 5, 2) := by decide +kernel
theorem dX3_setMade_63 : decode cX3_setMade 63 = .ok (.iaload, 1) := by decide +kernel
theorem dX3_setMade_64 : decode cX3_setMade 64 = .ok (.iadd, 1) := by decide +kernel
theorem dX3_setMade_65 : decode cX3_setMade 65 = .ok (.iconst 1, 1) := by decide +kernel
theorem dX3_setMade_66 : decode cX3_setMade 66 = .ok (.isub, 1) := by decide +kernel
theorem dX3_setMade_67 : decode cX3_setMade 67 = .ok (.aload_n 0, 1) := by decide +kernel
theorem dX3_setMade_68 : decode cX3_setMade 68 = .ok (.getfield 21, 3) := by decide +kernel
theorem dX3_setMade_71 : decode cX3_setMade 71 = .ok (.iload 4, 2) := by decide +kernel
theorem dX3_setMade_73 : decode cX3_setMade 73 = .ok (.iaload, 1) := by decide +kernel
theorem dX3_setMade_74 : decode cX3_setMade 74 = .ok (.aload_n 0, 1) := by decide +kernel
theorem dX3_setMade_75 : decode cX3_setMade 75 = .ok (.getfield 21, 3) := by decide +kernel
theorem dX3_setMade_78 : decode cX3_setMade 78 = .ok (.iload 5, 2) := by decide +kernel
theorem dX3_setMade_80 : decode cX3_setMade 80 = .ok (.iaload, 1) := by decide +kernel
theorem dX3_setMade_81 : decode cX3_setMade 81 = .ok (.iadd, 1) := by decide +kernel
theorem dX3_setMade_82 : decode cX3_setMade 82 = .ok (.aload_n 0, 1) := by decide +kernel
theorem dX3_setMade_83 : decode cX3_setMade 83 = .ok (.getfield 24, 3) := by decide +kernel
theorem dX3_setMade_86 : decode cX3_setMade 86 = .ok (.iload 4, 2) := by decide +kernel
theorem dX3_setMade_88 : decode cX3_setMade 88 = .ok (.iaload, 1) := by decide +kernel
theorem dX3_setMade_89 : decode cX3_setMade 89 = .ok (.aload_n 0, 1) := by decide +kernel
theorem dX3_setMade_90 : decode cX3_setMade 90 = .ok (.getfield 21, 3) := by decide +kernel
theorem dX3_setMade_93 : decode cX3_setMade 93 = .ok (.iload 4, 2) := by decide +kernel
theorem dX3_setMade_95 : decode cX3_setMade 95 = .ok (.iaload, 1) := by decide +kernel
theorem dX3_setMade_96 : decode cX3_setMade 96 = .ok (.aload_n 0, 1) := by decide +kernel
theorem dX3_setMade_97 : decode cX3_setMade 97 = .ok (.getfield 24, 3) := by decide +kernel
theorem dX3_setMade_100 : decode cX3_setMade 100 = .ok (.iload 5, 2) := by decide +kernel
theorem dX3_setMade_102 : decode cX3_setMade 102 = .ok (.iaload, 1) := by decide +kernel
theorem dX3_setMade_103 : decode cX3_setMade 103 = .ok (.iadd, 1) := by decide +kernel
theorem dX3_setMade_104 : decode cX3_setMade 104 = .ok (.invokestatic 9, 3) := by decide +kernel
theorem dX3_setMade_107 : decode cX3_setMade 107 = .ok (.aload_n 0, 1) := by decide +kernel
theorem dX3_setMade_108 : decode cX3_setMade 108 = .ok (.getfield 27, 3) := by decide +kernel
theorem dX3_setMade_111 : decode cX3_setMade 111 = .ok (.iload 4, 2) := by decide +kernel
theorem dX3_setMade_113 : decode cX3_setMade 113 = .ok (.iaload, 1) := by decide +kernel
theorem dX3_setMade_114 : decode cX3_setMade 114 = .ok (.aload_n 0, 1) := by decide +kernel
theorem dX3_setMade_115 : decode cX3_setMade 115 = .ok (.getfield 27, 3) := by decide +kernel
theorem dX3_setMade_118 : decode cX3_setMade 118 = .ok (.iload 5, 2) := by decide +kernel
theorem dX3_setMade_120 : decode cX3_setMade 120 = .ok (.iaload, 1) := by decide +kernel
theorem dX3_setMade_121 : decode cX3_setMade 121 = .ok (.ior, 1) := by decide +kernel
theorem dX3_setMade_122 : decode cX3_setMade 122 = .ok (.invokevirtual 30, 3) := by decide +kernel
theorem dX3_setMade_125 : decode cX3_setMade 125 = .ok (.goto 102, 3) := by decide +kernel
theorem dX3_setMade_128 : decode cX3_setMade 128 = .ok (.aload_n 0, 1) := by decide +kernel
theorem dX3_setMade_129 : decode cX3_setMade 129 = .ok (.iload_n 1, 1) := by decide +kernel
theorem dX3_setMade_130 : decode cX3_setMade 130 = .ok (.aload_n 0, 1) := by decide +kernel
theorem dX3_setMade_131 : decode cX3_setMade 131 = .ok (.getfield 15, 3) := by decide +kernel
theorem dX3_setMade_134 : decode cX3_setMade 134 = .ok (.iload 4, 2) := by decide +kernel
theorem dX3_setMade_136 : decode cX3_setMade 136 = .ok (.iaload, 1) := by decide +kernel
theorem dX3_setMade_137 : decode cX3_setMade 137 = .ok (.aload_n 0, 1) := by decide +kernel
theorem dX3_setMade_138 : decode cX3_setMade 138 = .ok (.getfield 15, 3) := by decide +kernel
theorem dX3_setMade_141 : decode cX3_setMade 141 = .ok (.iload 5, 2) := by decide +kernel
theorem dX3_setMade_143 : decode cX3_setMade 143 = .ok (.iaload, 1) := by decide +kernel
theorem dX3_setMade_144 : decode cX3_setMade 144 = .ok (.iadd, 1) := by decide +kernel
theorem dX3_setMade_145 : decode cX3_setMade 145 = .ok (.aload_n 0, 1) := by decide +kernel
theorem dX3_setMade_146 : decode cX3_setMade 146 = .ok (.getfield 21, 3) := by decide +kernel
theorem dX3_setMade_149 : decode cX3_setMade 149 = .ok (.iload 5, 2) := by decide +kernel
theorem dX3_setMade_151 : decode cX3_setMade 151 = .ok (.iaload, 1) := by decide +kernel
theorem dX3_setMade_152 : decode cX3_setMade 152 = .ok (.aload_n 0, 1) := by decide +kernel
theorem dX3_setMade_153 : decode cX3_setMade 153 = .ok (.getfield 24, 3) := by decide +kernel
theorem dX3_setMade_156 : decode cX3_setMade 156 = .ok (.iload 4, 2) := by decide +kernel
theorem dX3_setMade_158 : decode cX3_setMade 158 = .ok (.iaload, 1) := by decide +kernel
theorem dX3_setMade_159 : decode cX3_setMade 159 = .ok (.aload_n 0, 1) := by decide +kernel
theorem dX3_setMade_160 : decode cX3_setMade 160 = .ok (.getfield 24, 3) := by decide +kernel
theorem dX3_setMade_163 : decode cX3_setMade 163 = .ok (.iload 5, 2) := by decide +kernel
theorem dX3_setMade_165 : decode cX3_setMade 165 = .ok (.iaload, 1) := by decide +kernel
theorem dX3_setMade_166 : decode cX3_setMade 166 = .ok (.invokestatic 9, 3) := by decide +kernel
theorem dX3_setMade_169 : decode cX3_setMade 169 = .ok (.aload_n 0, 1) := by decide +kernel
theorem dX3_setMade_170 : decode cX3_setMade 170 = .ok (.getfield 27, 3) := by decide +kernel
theorem dX3_setMade_173 : decode cX3_setMade 173 = .ok (.iload 4, 2) := by decide +kernel
theorem dX3_setMade_175 : decode cX3_setMade 175 = .ok (.iaload, 1) := by decide +kernel
theorem dX3_setMade_176 : decode cX3_setMade 176 = .ok (.aload_n 0, 1) := by decide +kernel
theorem dX3_setMade_177 : decode cX3_setMade 177 = .ok (.getfield 27, 3) := by decide +kernel
theorem dX3_setMade_180 : decode cX3_setMade 180 = .ok (.iload 5, 2) := by decide +kernel
theorem dX3_setMade_182 : decode cX3_setMade 182 = .ok (.iaload, 1) := by decide +kernel
theorem dX3_setMade_183 : decode cX3_setMade 183 = .ok (.ior, 1) := by decide +kernel
theorem dX3_setMade_184 : decode cX3_setMade 184 = .ok (.invokevirtual 30, 3) := by decide +kernel
theorem dX3_setMade_187 : decode cX3_setMade 187 = .ok (.goto 40, 3) := by decide +kernel
theorem dX3_setMade_190 : decode cX3_setMade 190 = .ok (.aload_n 0, 1) := by decide +kernel
theorem dX3_setMade_191 : decode cX3_setMade 191 = .ok (.iload_n 1, 1) := by decide +kernel
theorem dX3_setMade_192 : decode cX3_setMade 192 = .ok (.aload_n 0, 1) := by decide +kernel
theorem dX3_setMade_193 : decode cX3_setMade 193 = .ok (.getfield 15, 3) := by decide +kernel
theorem dX3_setMade_196 : decode cX3_setMade 196 = .ok (.iload 4, 2) := by decide +kernel
theorem dX3_setMade_198 : decode cX3_setMade 198 = .ok (.iaload, 1) := by decide +kernel
theorem dX3_setMade_199 : decode cX3_setMade 199 = .ok (.aload_n 0, 1) := by decide +kernel
theorem dX3_setMade_200 : decode cX3_setMade 200 = .ok (.getfield 21, 3) := by decide +kernel
theorem dX3_setMade_203 : decode cX3_setMade 203 = .ok (.iload 4, 2) := by decide +kernel
theorem dX3_setMade_205 : decode cX3_setMade 205 = .ok (.iaload, 1) := by decide +kernel
theorem dX3_setMade_206 : decode cX3_setMade 206 = .ok (.iload_n 3, 1) := by decide +kernel
theorem dX3_setMade_207 : decode cX3_setMade 207 = .ok (.iadd, 1) := by decide +kernel
theorem dX3_setMade_208 : decode cX3_setMade 208 = .ok (.aload_n 0, 1) := by decide +kernel
theorem dX3_setMade_209 : decode cX3_setMade 209 = .ok (.getfield 24, 3) := by decide +kernel
theorem dX3_setMade_212 : decode cX3_setMade 212 = .ok (.iload 4, 2) := by decide +kernel
theorem dX3_setMade_214 : decode cX3_setMade 214 = .ok (.iaload, 1) := by decide +kernel
theorem dX3_setMade_215 : decode cX3_setMade 215 = .ok (.iload_n 3, 1) := by decide +kernel
theorem dX3_setMade_216 : decode cX3_setMade 216 = .ok (.iadd, 1) := by decide +kernel
theorem dX3_setMade_217 : decode cX3_setMade 217 = .ok (.aload_n 0, 1) := by decide +kernel
theorem dX3_setMade_218 : decode cX3_setMade 218 = .ok (.getfield 27, 3) := by decide +kernel
theorem dX3_setMade_221 : decode cX3_setMade 221 = .ok (.iload 4, 2) := by decide +kernel
theorem dX3_setMade_223 : decode cX3_setMade 223 = .ok (.iaload, 1) := by decide +kernel
theorem dX3_setMade_224 : decode cX3_setMade 224 = .ok (.invokevirtual 30, 3) := by decide +kernel
theorem dX3_setMade_227 : decode cX3_setMade 227 = .ok (.return_, 1) := by decide +kernel
theorem dX3_noneGreater_0 : decode cX3_noneGreater 0 = .ok (.iload_n 1, 1) := by decide +kernel
theorem dX3_noneGreater_1 : decode cX3_noneGreater 1 = .ok (.ifCond .lt 25, 3) := by decide +kernel
theorem dX3_noneGreater_4 : decode cX3_noneGreater 4 = .ok (.iload_n 1, 1) := by decide +kernel
theorem dX3_noneGreater_5 : decode cX3_noneGreater 5 = .ok (.aload_n 0, 1) := by decide +kernel
theorem dX3_noneGreater_6 : decode cX3_noneGreater 6 = .ok (.getfield 15, 3) := by decide +kernel
theorem dX3_noneGreater_9 : decode cX3_noneGreater 9 = .ok (.arraylength, 1) := by decide +kernel
theorem dX3_noneGreater_10 : decode cX3_noneGreater 10 = .ok (.if_icmp .ge 16, 3) := by decide +kernel
theorem dX3_noneGreater_13 : decode cX3_noneGreater 13 = .ok (.iload_n 2, 1) := by decide +kernel
theorem dX3_noneGreater_14 : decode cX3_noneGreater 14 = .ok (.ifCond .lt 12, 3) := by decide +kernel
theorem dX3_noneGreater_17 : decode cX3_noneGreater 17 = .ok (.iload_n 2, 1) := by decide +kernel
theorem dX3_noneGreater_18 : decode cX3_noneGreater 18 = .ok (.aload_n 0, 1) := by decide +kernel
theorem dX3_noneGreater_19 : decode cX3_noneGreater 19 = .ok (.getfield 15, 3) := by decide +kernel
theorem dX3_noneGreater_22 : decode cX3_noneGreater 22 = .ok (.arraylength, 1) := by decide +kernel
theorem dX3_noneGreater_23 : decode cX3_noneGreater 23 = .ok (.if_icmp .lt 5, 3) := by decide +kernel
theorem dX3_noneGreater_26 : decode cX3_noneGreater 26 = .ok (.iconst 0, 1) := by decide +kernel
theorem dX3_noneGreater_27 : decode cX3_noneGreater 27 = .ok (.ireturn, 1) := by decide +kernel
theorem dX3_noneGreater_28 : decode cX3_noneGreater 28 = .ok (.aload_n 0, 1) := by decide +kernel
theorem dX3_noneGreater_29 : decode cX3_noneGreater 29 = .ok (.getfield 15, 3) := by decide +kernel
theorem dX3_noneGreater_32 : decode cX3_noneGreater 32 = .ok (.iload_n 1, 1) := by decide +kernel
theorem dX3_noneGreater_33 : decode cX3_noneGreater 33 = .ok (.iaload, 1) := by decide +kernel
theorem dX3_noneGreater_34 : decode cX3_noneGreater 34 = .ok (.aload_n 0, 1) := by decide +kernel
theorem dX3_noneGreater_35 : decode cX3_noneGreater 35 = .ok (.getfield 15, 3) := by decide +kernel
theorem dX3_noneGreater_38 : decode cX3_noneGreater 38 = .ok (.iload_n 2, 1) := by decide +kernel
theorem dX3_noneGreater_39 : decode cX3_noneGreater 39 = .ok (.iaload, 1) := by decide +kernel
theorem dX3_noneGreater_40 : decode cX3_noneGreater 40 = .ok (.if_icmp .gt 37, 3) := by decide +kernel
theorem dX3_noneGreater_43 : decode cX3_noneGreater 43 = .ok (.aload_n 0, 1) := by decide +kernel
theorem dX3_noneGreater_44 : decode cX3_noneGreater 44 = .ok (.getfield 21, 3) := by decide +kernel
theorem dX3_noneGreater_47 : decode cX3_noneGreater 47 = .ok (.iload_n 1, 1) := by decide +kernel
theorem dX3_noneGreater_48 : decode cX3_noneGreater 48 = .ok (.iaload, 1) := by decide +kernel
theorem dX3_noneGreater_49 : decode cX3_noneGreater 49 = .ok (.aload_n 0, 1) := by decide +kernel
theorem dX3_noneGreater_50 : decode cX3_noneGreater 50 = .ok (.getfield 21, 3) := by decide +kernel
theorem dX3_noneGreater_53 : decode cX3_noneGreater 53 = .ok (.iload_n 2, 1) := by decide +kernel
theorem dX3_noneGreater_54 : decode cX3_noneGreater 54 = .ok (.iaload, 1) := by decide +kernel
theorem dX3_noneGreater_55 : decode cX3_noneGreater 55 = .ok (.if_icmp .gt 22, 3) := by decide +kernel
theorem dX3_noneGreater_58 : decode cX3_noneGreater 58 = .ok (.aload_n 0, 1) := by decide +kernel
theorem dX3_noneGreater_59 : decode cX3_noneGreater 59 = .ok (.getfield 24, 3) := by decide +kernel
theorem dX3_noneGreater_62 : decode cX3_noneGreater 62 = .ok (.iload_n 1, 1) := by decide +kernel
theorem dX3_noneGreater_63 : decode cX3_noneGreater 63 = .ok (.iaload, 1) := by decide +kernel
theorem dX3_noneGreater_64 : decode cX3_noneGreater 64 = .ok (.aload_n 0, 1) := by decide +kernel
theorem dX3_noneGreater_65 : decode cX3_noneGreater 65 = .ok (.getfield 24, 3) := by decide +kernel
theorem dX3_noneGreater_68 : decode cX3_noneGreater 68 = .ok (.iload_n 2, 1) := by decide +kernel
theorem dX3_noneGreater_69 : decode cX3_noneGreater 69 = .ok (.iaload, 1) := by decide +kernel
theorem dX3_noneGreater_70 : decode cX3_noneGreater 70 = .ok (.if_icmp .gt 7, 3) := by decide +kernel
theorem dX3_noneGreater_73 : decode cX3_noneGreater 73 = .ok (.iconst 1, 1) := by decide +kernel
theorem dX3_noneGreater_74 : decode cX3_noneGreater 74 = .ok (.goto 4, 3) := by decide +kernel
theorem dX3_noneGreater_77 : decode cX3_noneGreater 77 = .ok (.iconst 0, 1) := by decide +kernel
theorem dX3_noneGreater_78 : decode cX3_noneGreater 78 = .ok (.ireturn, 1) := by decide +kernel
theorem dX3_fewerLines_0 : decode cX3_fewerLines 0 = .ok (.aload_n 0, 1) := by decide +kernel
theorem dX3_fewerLines_1 : decode cX3_fewerLines 1 = .ok (.iload_n 1, 1) := by decide +kernel
theorem dX3_fewerLines_2 : decode cX3_fewerLines 2 = .ok (.invokevirtual 34, 3) := by decide +kernel
theorem dX3_fewerLines_5 : decode cX3_fewerLines 5 = .ok (.ifCond .eq 11, 3) := by decide +kernel
theorem dX3_fewerLines_8 : decode cX3_fewerLines 8 = .ok (.aload_n 0, 1) := by decide +kernel
theorem dX3_fewerLines_9 : decode cX3_fewerLines 9 = .ok (.iload_n 2, 1) := by decide +kernel
theorem dX3_fewerLines_10 : decode cX3_fewerLines 10 = .ok (.invokevirtual 34, 3) := by decide +kernel
theorem dX3_fewerLines_13 : decode cX3_fewerLines 13 = .ok (.ifCond .ne 5, 3) := by decide +kernel
theorem dX3_fewerLines_16 : decode cX3_fewerLines 16 = .ok (.iconst 0, 1) := by decide +kernel
theorem dX3_fewerLines_17 : decode cX3_fewerLines 17 = .ok (.ireturn, 1) := by decide +kernel
theorem dX3_fewerLines_18 : decode cX3_fewerLines 18 = .ok (.aload_n 0, 1) := by decide +kernel
theorem dX3_fewerLines_19 : decode cX3_fewerLines 19 = .ok (.getfield 15, 3) := by decide +kernel
theorem dX3_fewerLines_22 : decode cX3_fewerLines 22 = .ok (.iload_n 1, 1) := by decide +kernel
theorem dX3_fewerLines_23 : decode cX3_fewerLines 23 = .ok (.iaload, 1) := by decide +kernel
theorem dX3_fewerLines_24 : decode cX3_fewerLines 24 = .ok (.aload_n 0, 1) := by decide +kernel
theorem dX3_fewerLines_25 : decode cX3_fewerLines 25 = .ok (.getfield 15, 3) := by decide +kernel
theorem dX3_fewerLines_28 : decode cX3_fewerLines 28 = .ok (.iload_n 2, 1) := by decide +kernel
theorem dX3_fewerLines_29 : decode cX3_fewerLines 29 = .ok (.iaload, 1) := by decide +kernel
theorem dX3_fewerLines_30 : decode cX3_fewerLines 30 = .ok (.if_icmp .eq 24, 3) := by decide +kernel
theorem dX3_fewerLines_33 : decode cX3_fewerLines 33 = .ok (.aload_n 0, 1) := by decide +kernel
theorem dX3_fewerLines_34 : decode cX3_fewerLines 34 = .ok (.getfield 15, 3) := by decide +kernel
theorem dX3_fewerLines_37 : decode cX3_fewerLines 37 = .ok (.iload_n 1, 1) := by decide +kernel
theorem dX3_fewerLines_38 : decode cX3_fewerLines 38 = .ok (.iaload, 1) := by decide +kernel
theorem dX3_fewerLines_39 : decode cX3_fewerLines 39 = .ok (.aload_n 0, 1) := by decide +kernel
theorem dX3_fewerLines_40 : decode cX3_fewerLines 40 = .ok (.getfield 15, 3) := by decide +kernel
theorem dX3_fewerLines_43 : decode cX3_fewerLines 43 = .ok (.iload_n 2, 1) := by decide +kernel
theorem dX3_fewerLines_44 : decode cX3_fewerLines 44 = .ok (.iaload, 1) := by decide +kernel
theorem dX3_fewerLines_45 : decode cX3_fewerLines 45 = .ok (.if_icmp .ge 7, 3) := by decide +kernel
theorem dX3_fewerLines_48 : decode cX3_fewerLines 48 = .ok (.iconst 1, 1) := by decide +kernel
theorem dX3_fewerLines_49 : decode cX3_fewerLines 49 = .ok (.goto 4, 3) := by decide +kernel
theorem dX3_fewerLines_52 : decode cX3_fewerLines 52 = .ok (.iconst 0, 1) := by decide +kernel
theorem dX3_fewerLines_53 : decode cX3_fewerLines 53 = .ok (.ireturn, 1) := by decide +kernel
theorem dX3_fewerLines_54 : decode cX3_fewerLines 54 = .ok (.aload_n 0, 1) := by decide +kernel
theorem dX3_fewerLines_55 : decode cX3_fewerLines 55 = .ok (.getfield 24, 3) := by decide +kernel
theorem dX3_fewerLines_58 : decode cX3_fewerLines 58 = .ok (.iload_n 1, 1) := by decide +kernel
theorem dX3_fewerLines_59 : decode cX3_fewerLines 59 = .ok (.iaload, 1) := by decide +kernel
theorem dX3_fewerLines_60 : decode cX3_fewerLines 60 = .ok (.aload_n 0, 1) := by decide +kernel
theorem dX3_fewerLines_61 : decode cX3_fewerLines 61 = .ok (.getfield 24, 3) := by decide +kernel
theorem dX3_fewerLines_64 : decode cX3_fewerLines 64 = .ok (.iload_n 2, 1) := by decide +kernel
theorem dX3_fewerLines_65 : decode cX3_fewerLines 65 = .ok (.iaload, 1) := by decide +kernel
theorem dX3_fewerLines_66 : decode cX3_fewerLines 66 = .ok (.if_icmp .eq 26, 3) := by decide +kernel
theorem dX3_fewerLines_69 : decode cX3_fewerLines 69 = .ok (.aload_n 0, 1) := by decide +kernel
theorem dX3_fewerLines_70 : decode cX3_fewerLines 70 = .ok (.getfield 24, 3) := by decide +kernel
theorem dX3_fewerLines_73 : decode cX3_fewerLines 73 = .ok (.iload_n 1, 1) := by decide +kernel
theorem dX3_fewerLines_74 : decode cX3_fewerLines 74 = .ok (.iaload, 1) := by decide +kernel
theorem dX3_fewerLines_75 : decode cX3_fewerLines 75 = .ok (.aload_n 0, 1) := by decide +kernel
theorem dX3_fewerLines_76 : decode cX3_fewerLines 76 = .ok (.getfield 24, 3) := by decide +kernel
theorem dX3_fewerLines_79 : decode cX3_fewerLines 79 = .ok (.iload_n 2, 1) := by decide +kernel
theorem dX3_fewerLines_80 : decode cX3_fewerLines 80 = .ok (.iaload, 1) := by decide +kernel
theorem dX3_fewerLines_81 : decode cX3_fewerLines 81 = .ok (.if_icmp .ge 7, 3) := by decide +kernel
theorem dX3_fewerLines_84 : decode cX3_fewerLines 84 = .ok (.iconst 1, 1) := by decide +kernel
theorem dX3_fewerLines_85 : decode cX3_fewerLines 85 = .ok (.goto 27, 3) := by decide +kernel
theorem dX3_fewerLines_88 : decode cX3_fewerLines 88 = .ok (.iconst 0, 1) := by decide +kernel
theorem dX3_fewerLines_89 : decode cX3_fewerLines 89 = .ok (.goto 23, 3) := by decide +kernel
theorem dX3_fewerLines_92 : decode cX3_fewerLines 92 = .ok (.aload_n 0, 1) := by decide +kernel
theorem dX3_fewerLines_93 : decode cX3_fewerLines 93 = .ok (.getfield 21, 3) := by decide +kernel
theorem dX3_fewerLines_96 : decode cX3_fewerLines 96 = .ok (.iload_n 1, 1) := by decide +kernel
theorem dX3_fewerLines_97 : decode cX3_fewerLines 97 = .ok (.iaload, 1) := by decide +kernel
theorem dX3_fewerLines_98 : decode cX3_fewerLines 98 = .ok (.aload_n 0, 1) := by decide +kernel
theorem dX3_fewerLines_99 : decode cX3_fewerLines 99 = .ok (.getfield 21, 3) := by decide +kernel
theorem dX3_fewerLines_102 : decode cX3_fewerLines 102 = .ok (.iload_n 2, 1) := by decide +kernel
theorem dX3_fewerLines_103 : decode cX3_fewerLines 103 = .ok (.iaload, 1) := by decide +kernel
theorem dX3_fewerLines_104 : decode cX3_fewerLines 104 = .ok (.if_icmp .ge 7, 3) := by decide +kernel
theorem dX3_fewerLines_107 : decode cX3_fewerLines 107 = .ok (.iconst 1, 1) := by decide +kernel
theorem dX3_fewerLines_108 : decode cX3_fewerLines 108 = .ok (.goto 4, 3) := by decide +kernel
theorem dX3_fewerLines_111 : decode cX3_fewerLines 111 = .ok (.iconst 0, 1) := by decide +kernel
theorem dX3_fewerLines_112 : decode cX3_fewerLines 112 = .ok (.ireturn, 1) := by decide +kernel
theorem dX3_lessMost_0 : decode cX3_lessMost 0 = .ok (.aload_n 0, 1) := by decide +kernel
theorem dX3_lessMost_1 : decode cX3_lessMost 1 = .ok (.iload_n 1, 1) := by decide +kernel
theorem dX3_lessMost_2 : decode cX3_lessMost 2 = .ok (.invokevirtual 34, 3) := by decide +kernel
theorem dX3_lessMost_5 : decode cX3_lessMost 5 = .ok (.ifCond .eq 11, 3) := by decide +kernel
theorem dX3_lessMost_8 : decode cX3_lessMost 8 = .ok (.aload_n 0, 1) := by decide +kernel
theorem dX3_lessMost_9 : decode cX3_lessMost 9 = .ok (.iload_n 2, 1) := by decide +kernel
theorem dX3_lessMost_10 : decode cX3_lessMost 10 = .ok (.invokevirtual 34, 3) := by decide +kernel
theorem dX3_lessMost_13 : decode cX3_lessMost 13 = .ok (.ifCond .ne 5, 3) := by decide +kernel
theorem dX3_lessMost_16 : decode cX3_lessMost 16 = .ok (.iconst 0, 1) := by decide +kernel
theorem dX3_lessMost_17 : decode cX3_lessMost 17 = .ok (.ireturn, 1) := by decide +kernel
theorem dX3_lessMost_18 : decode cX3_lessMost 18 = .ok (.aload_n 0, 1) := by decide +kernel
theorem dX3_lessMost_19 : decode cX3_lessMost 19 = .ok (.getfield 24, 3) := by decide +kernel
theorem dX3_lessMost_22 : decode cX3_lessMost 22 = .ok (.iload_n 1, 1) := by decide +kernel
theorem dX3_lessMost_23 : decode cX3_lessMost 23 = .ok (.iaload, 1) := by decide +kernel
theorem dX3_lessMost_24 : decode cX3_lessMost 24 = .ok (.aload_n 0, 1) := by decide +kernel
theorem dX3_lessMost_25 : decode cX3_lessMost 25 = .ok (.getfield 24, 3) := by decide +kernel
theorem dX3_lessMost_28 : decode cX3_lessMost 28 = .ok (.iload_n 2, 1) := by decide +kernel
theorem dX3_lessMost_29 : decode cX3_lessMost 29 = .ok (.iaload, 1) := by decide +kernel
theorem dX3_lessMost_30 : decode cX3_lessMost 30 = .ok (.if_icmp .eq 24, 3) := by decide +kernel
theorem dX3_lessMost_33 : decode cX3_lessMost 33 = .ok (.aload_n 0, 1) := by decide +kernel
theorem dX3_lessMost_34 : decode cX3_lessMost 34 = .ok (.getfield 24, 3) := by decide +kernel
theorem dX3_lessMost_37 : decode cX3_lessMost 37 = .ok (.iload_n 1, 1) := by decide +kernel
theorem dX3_lessMost_38 : decode cX3_lessMost 38 = .ok (.iaload, 1) := by decide +kernel
theorem dX3_lessMost_39 : decode cX3_lessMost 39 = .ok (.aload_n 0, 1) := by decide +kernel
theorem dX3_lessMost_40 : decode cX3_lessMost 40 = .ok (.getfield 24, 3) := by decide +kernel
theorem dX3_lessMost_43 : decode cX3_lessMost 43 = .ok (.iload_n 2, 1) := by decide +kernel
theorem dX3_lessMost_44 : decode cX3_lessMost 44 = .ok (.iaload, 1) := by decide +kernel
theorem dX3_lessMost_45 : decode cX3_lessMost 45 = .ok (.if_icmp .ge 7, 3) := by decide +kernel
theorem dX3_lessMost_48 : decode cX3_lessMost 48 = .ok (.iconst 1, 1) := by decide +kernel
theorem dX3_lessMost_49 : decode cX3_lessMost 49 = .ok (.goto 4, 3) := by decide +kernel
theorem dX3_lessMost_52 : decode cX3_lessMost 52 = .ok (.iconst 0, 1) := by decide +kernel
theorem dX3_lessMost_53 : decode cX3_lessMost 53 = .ok (.ireturn, 1) := by decide +kernel
theorem dX3_lessMost_54 : decode cX3_lessMost 54 = .ok (.aload_n 0, 1) := by decide +kernel
theorem dX3_lessMost_55 : decode cX3_lessMost 55 = .ok (.getfield 15, 3) := by decide +kernel
theorem dX3_lessMost_58 : decode cX3_lessMost 58 = .ok (.iload_n 1, 1) := by decide +kernel
theorem dX3_lessMost_59 : decode cX3_lessMost 59 = .ok (.iaload, 1) := by decide +kernel
theorem dX3_lessMost_60 : decode cX3_lessMost 60 = .ok (.aload_n 0, 1) := by decide +kernel
theorem dX3_lessMost_61 : decode cX3_lessMost 61 = .ok (.getfield 15, 3) := by decide +kernel
theorem dX3_lessMost_64 : decode cX3_lessMost 64 = .ok (.iload_n 2, 1) := by decide +kernel
theorem dX3_lessMost_65 : decode cX3_lessMost 65 = .ok (.iaload, 1) := by decide +kernel
theorem dX3_lessMost_66 : decode cX3_lessMost 66 = .ok (.if_icmp .eq 26, 3) := by decide +kernel
theorem dX3_lessMost_69 : decode cX3_lessMost 69 = .ok (.aload_n 0, 1) := by decide +kernel
theorem dX3_lessMost_70 : decode cX3_lessMost 70 = .ok (.getfield 15, 3) := by decide +kernel
theorem dX3_lessMost_73 : decode cX3_lessMost 73 = .ok (.iload_n 1, 1) := by decide +kernel
theorem dX3_lessMost_74 : decode cX3_lessMost 74 = .ok (.iaload, 1) := by decide +kernel
theorem dX3_lessMost_75 : decode cX3_lessMost 75 = .ok (.aload_n 0, 1) := by decide +kernel
theorem dX3_lessMost_76 : decode cX3_lessMost 76 = .ok (.getfield 15, 3) := by decide +kernel
theorem dX3_lessMost_79 : decode cX3_lessMost 79 = .ok (.iload_n 2, 1) := by decide +kernel
theorem dX3_lessMost_80 : decode cX3_lessMost 80 = .ok (.iaload, 1) := by decide +kernel
theorem dX3_lessMost_81 : decode cX3_lessMost 81 = .ok (.if_icmp .ge 7, 3) := by decide +kernel
theorem dX3_lessMost_84 : decode cX3_lessMost 84 = .ok (.iconst 1, 1) := by decide +kernel
theorem dX3_lessMost_85 : decode cX3_lessMost 85 = .ok (.goto 27, 3) := by decide +kernel
theorem dX3_lessMost_88 : decode cX3_lessMost 88 = .ok (.iconst 0, 1) := by decide +kernel
theorem dX3_lessMost_89 : decode cX3_lessMost 89 = .ok (.goto 23, 3) := by decide +kernel
theorem dX3_lessMost_92 : decode cX3_lessMost 92 = .ok (.aload_n 0, 1) := by decide +kernel
theorem dX3_lessMost_93 : decode cX3_lessMost 93 = .ok (.getfield 21, 3) := by decide +kernel
theorem dX3_lessMost_96 : decode cX3_lessMost 96 = .ok (.iload_n 1, 1) := by decide +kernel
theorem dX3_lessMost_97 : decode cX3_lessMost 97 = .ok (.iaload, 1) := by decide +kernel
theorem dX3_lessMost_98 : decode cX3_lessMost 98 = .ok (.aload_n 0, 1) := by decide +kernel
theorem dX3_lessMost_99 : decode cX3_lessMost 99 = .ok (.getfield 21, 3) := by decide +kernel
theorem dX3_lessMost_102 : decode cX3_lessMost 102 = .ok (.iload_n 2, 1) := by decide +kernel
theorem dX3_lessMost_103 : decode cX3_lessMost 103 = .ok (.iaload, 1) := by decide +kernel
theorem dX3_lessMost_104 : decode cX3_lessMost 104 = .ok (.if_icmp .ge 7, 3) := by decide +kernel
theorem dX3_lessMost_107 : decode cX3_lessMost 107 = .ok (.iconst 1, 1) := by decide +kernel
theorem dX3_lessMost_108 : decode cX3_lessMost 108 = .ok (.goto 4, 3) := by decide +kernel
theorem dX3_lessMost_111 : decode cX3_lessMost 111 = .ok (.iconst 0, 1) := by decide +kernel
theorem dX3_lessMost_112 : decode cX3_lessMost 112 = .ok (.ireturn, 1) := by decide +kernel
theorem dX3_tell_0 : decode cX3_tell 0 = .ok (.iload_n 1, 1) := by decide +kernel
theorem dX3_tell_1 : decode cX3_tell 1 = .ok (.ifCond .lt 12, 3) := by decide +kernel
theorem dX3_tell_4 : decode cX3_tell 4 = .ok (.iload_n 1, 1) := by decide +kernel
theorem dX3_tell_5 : decode cX3_tell 5 = .ok (.aload_n 0, 1) := by decide +kernel
theorem dX3_tell_6 : decode cX3_tell 6 = .ok (.getfield 15, 3) := by decide +kernel
theorem dX3_tell_9 : decode cX3_tell 9 = .ok (.arraylength, 1) := by decide +kernel
theorem dX3_tell_10 : decode cX3_tell 10 = .ok (.if_icmp .lt 5, 3) := by decide +kernel
theorem dX3_tell_13 : decode cX3_tell 13 = .ok (.iconst (-1), 1) := by decide +kernel
theorem dX3_tell_14 : decode cX3_tell 14 = .ok (.ireturn, 1) := by decide +kernel
theorem dX3_tell_15 : decode cX3_tell 15 = .ok (.iload_n 2, 1) := by decide +kernel
theorem dX3_tell_16 : decode cX3_tell 16 = .ok (.tableswitch 49 0 2 #[28, 35, 42], 28) := by decide +kernel
theorem dX3_tell_44 : decode cX3_tell 44 = .ok (.aload_n 0, 1) := by decide +kernel
theorem dX3_tell_45 : decode cX3_tell 45 = .ok (.getfield 15, 3) := by decide +kernel
theorem dX3_tell_48 : decode cX3_tell 48 = .ok (.iload_n 1, 1) := by decide +kernel
theorem dX3_tell_49 : decode cX3_tell 49 = .ok (.iaload, 1) := by decide +kernel
theorem dX3_tell_50 : decode cX3_tell 50 = .ok (.ireturn, 1) := by decide +kernel
theorem dX3_tell_51 : decode cX3_tell 51 = .ok (.aload_n 0, 1) := by decide +kernel
theorem dX3_tell_52 : decode cX3_tell 52 = .ok (.getfield 21, 3) := by decide +kernel
theorem dX3_tell_55 : decode cX3_tell 55 = .ok (.iload_n 1, 1) := by decide +kernel
theorem dX3_tell_56 : decode cX3_tell 56 = .ok (.iaload, 1) := by decide +kernel
theorem dX3_tell_57 : decode cX3_tell 57 = .ok (.ireturn, 1) := by decide +kernel
theorem dX3_tell_58 : decode cX3_tell 58 = .ok (.aload_n 0, 1) := by decide +kernel
theorem dX3_tell_59 : decode cX3_tell 59 = .ok (.getfield 24, 3) := by decide +kernel
theorem dX3_tell_62 : decode cX3_tell 62 = .ok (.iload_n 1, 1) := by decide +kernel
theorem dX3_tell_63 : decode cX3_tell 63 = .ok (.iaload, 1) := by decide +kernel
theorem dX3_tell_64 : decode cX3_tell 64 = .ok (.ireturn, 1) := by decide +kernel
theorem dX3_tell_65 : decode cX3_tell 65 = .ok (.aload_n 0, 1) := by decide +kernel
theorem dX3_tell_66 : decode cX3_tell 66 = .ok (.getfield 27, 3) := by decide +kernel
theorem dX3_tell_69 : decode cX3_tell 69 = .ok (.iload_n 1, 1) := by decide +kernel
theorem dX3_tell_70 : decode cX3_tell 70 = .ok (.iaload, 1) := by decide +kernel
theorem dX3_tell_71 : decode cX3_tell 71 = .ok (.ireturn, 1) := by decide +kernel
