theorem dX1_init_0 : decode cX1_init 0 = .ok (.aload_n 0, 1) := by decide +kernel
theorem dX1_init_1 : decode cX1_init 1 = .ok (.invokespecial 3, 3) := by decide +kernel
theorem dX1_init_4 : decode cX1_init 4 = .ok (.aload_n 0, 1) := by decide +kernel
theorem dX1_init_5 : decode cX1_init 5 = .ok (.new 9, 3) := by decide +kernel
theorem dX1_init_8 : decode cX1_init 8 = .ok (.dup, 1) := by decide +kernel
theorem dX1_init_9 : decode cX1_init 9 = .ok (.sipush 2560, 3) := by decide +kernel
theorem dX1_init_12 : decode cX1_init 12 = .ok (.invokespecial 11, 3) := by decide +kernel
theorem dX1_init_15 : decode cX1_init 15 = .ok (.putfield 14, 3) := by decide +kernel
theorem dX1_init_18 : decode cX1_init 18 = .ok (.aload_n 0, 1) := by decide +kernel
theorem dX1_init_19 : decode cX1_init 19 = .ok (.bipush 40, 2) := by decide +kernel
theorem dX1_init_21 : decode cX1_init 21 = .ok (.newarray .int, 2) := by decide +kernel
theorem dX1_init_23 : decode cX1_init 23 = .ok (.putfield 20, 3) := by decide +kernel
theorem dX1_init_26 : decode cX1_init 26 = .ok (.return_, 1) := by decide +kernel
theorem dX1_sizeOf_0 : decode cX1_sizeOf 0 = .ok (.iload_n 1, 1) := by decide +kernel
theorem dX1_sizeOf_1 : decode cX1_sizeOf 1 = .ok (.ifCond .lt 21, 3) := by decide +kernel
theorem dX1_sizeOf_4 : decode cX1_sizeOf 4 = .ok (.iload_n 1, 1) := by decide +kernel
theorem dX1_sizeOf_5 : decode cX1_sizeOf 5 = .ok (.aload_n 0, 1) := by decide +kernel
theorem dX1_sizeOf_6 : decode cX1_sizeOf 6 = .ok (.getfield 20, 3) := by decide +kernel
theorem dX1_sizeOf_9 : decode cX1_sizeOf 9 = .ok (.arraylength, 1) := by decide +kernel
theorem dX1_sizeOf_10 : decode cX1_sizeOf 10 = .ok (.if_icmp .ge 12, 3) := by decide +kernel
theorem dX1_sizeOf_13 : decode cX1_sizeOf 13 = .ok (.aload_n 0, 1) := by decide +kernel
theorem dX1_sizeOf_14 : decode cX1_sizeOf 14 = .ok (.getfield 20, 3) := by decide +kernel
theorem dX1_sizeOf_17 : decode cX1_sizeOf 17 = .ok (.iload_n 1, 1) := by decide +kernel
theorem dX1_sizeOf_18 : decode cX1_sizeOf 18 = .ok (.iaload, 1) := by decide +kernel
theorem dX1_sizeOf_19 : decode cX1_sizeOf 19 = .ok (.goto 4, 3) := by decide +kernel
theorem dX1_sizeOf_22 : decode cX1_sizeOf 22 = .ok (.iconst 0, 1) := by decide +kernel
theorem dX1_sizeOf_23 : decode cX1_sizeOf 23 = .ok (.ireturn, 1) := by decide +kernel
theorem dX1_make_0 : decode cX1_make 0 = .ok (.aload_n 0, 1) := by decide +kernel
theorem dX1_make_1 : decode cX1_make 1 = .ok (.iconst 0, 1) := by decide +kernel
theorem dX1_make_2 : decode cX1_make 2 = .ok (.putfield 24, 3) := by decide +kernel
theorem dX1_make_5 : decode cX1_make 5 = .ok (.aload_n 0, 1) := by decide +kernel
theorem dX1_make_6 : decode cX1_make 6 = .ok (.iconst 0, 1) := by decide +kernel
theorem dX1_make_7 : decode cX1_make 7 = .ok (.putfield 28, 3) := by decide +kernel
theorem dX1_make_10 : decode cX1_make 10 = .ok (.aload_n 0, 1) := by decide +kernel
theorem dX1_make_11 : decode cX1_make 11 = .ok (.getfield 20, 3) := by decide +kernel
theorem dX1_make_14 : decode cX1_make 14 = .ok (.iconst 0, 1) := by decide +kernel
theorem dX1_make_15 : decode cX1_make 15 = .ok (.iconst 0, 1) := by decide +kernel
theorem dX1_make_16 : decode cX1_make 16 = .ok (.iastore, 1) := by decide +kernel
theorem dX1_make_17 : decode cX1_make 17 = .ok (.aload_n 1, 1) := by decide +kernel
theorem dX1_make_18 : decode cX1_make 18 = .ok (.getfield 31, 3) := by decide +kernel
theorem dX1_make_21 : decode cX1_make 21 = .ok (.aload_n 0, 1) := by decide +kernel
theorem dX1_make_22 : decode cX1_make 22 = .ok (.getfield 20, 3) := by decide +kernel
theorem dX1_make_25 : decode cX1_make 25 = .ok (.arraylength, 1) := by decide +kernel
theorem dX1_make_26 : decode cX1_make 26 = .ok (.invokestatic 36, 3) := by decide +kernel
theorem dX1_make_29 : decode cX1_make 29 = .ok (.iconst 1, 1) := by decide +kernel
theorem dX1_make_30 : decode cX1_make 30 = .ok (.isub, 1) := by decide +kernel
theorem dX1_make_31 : decode cX1_make 31 = .ok (.istore_n 3, 1) := by decide +kernel
theorem dX1_make_32 : decode cX1_make 32 = .ok (.iload_n 3, 1) := by decide +kernel
theorem dX1_make_33 : decode cX1_make 33 = .ok (.ifCond .lt 132, 3) := by decide +kernel
theorem dX1_make_36 : decode cX1_make 36 = .ok (.aload_n 0, 1) := by decide +kernel
theorem dX1_make_37 : decode cX1_make 37 = .ok (.getfield 20, 3) := by decide +kernel
theorem dX1_make_40 : decode cX1_make 40 = .ok (.iload_n 3, 1) := by decide +kernel
theorem dX1_make_41 : decode cX1_make 41 = .ok (.iconst 0, 1) := by decide +kernel
theorem dX1_make_42 : decode cX1_make 42 = .ok (.iastore, 1) := by decide +kernel
theorem dX1_make_43 : decode cX1_make 43 = .ok (.aload_n 1, 1) := by decide +kernel
theorem dX1_make_44 : decode cX1_make 44 = .ok (.getfield 42, 3) := by decide +kernel
theorem dX1_make_47 : decode cX1_make 47 = .ok (.iload_n 3, 1) := by decide +kernel
theorem dX1_make_48 : decode cX1_make 48 = .ok (.iaload, 1) := by decide +kernel
theorem dX1_make_49 : decode cX1_make 49 = .ok (.tableswitch 103 0 3 #[31, 93, 93, 57], 31) := by decide +kernel
theorem dX1_make_80 : decode cX1_make 80 = .ok (.aload_n 0, 1) := by decide +kernel
theorem dX1_make_81 : decode cX1_make 81 = .ok (.getfield 14, 3) := by decide +kernel
theorem dX1_make_84 : decode cX1_make 84 = .ok (.iload_n 3, 1) := by decide +kernel
theorem dX1_make_85 : decode cX1_make 85 = .ok (.bipush 64, 2) := by decide +kernel
theorem dX1_make_87 : decode cX1_make 87 = .ok (.imul, 1) := by decide +kernel
theorem dX1_make_88 : decode cX1_make 88 = .ok (.aload_n 1, 1) := by decide +kernel
theorem dX1_make_89 : decode cX1_make 89 = .ok (.getfield 45, 3) := by decide +kernel
theorem dX1_make_92 : decode cX1_make 92 = .ok (.iload_n 3, 1) := by decide +kernel
theorem dX1_make_93 : decode cX1_make 93 = .ok (.iaload, 1) := by decide +kernel
theorem dX1_make_94 : decode cX1_make 94 = .ok (.invokevirtual 48, 3) := by decide +kernel
theorem dX1_make_97 : decode cX1_make 97 = .ok (.aload_n 0, 1) := by decide +kernel
theorem dX1_make_98 : decode cX1_make 98 = .ok (.iload_n 3, 1) := by decide +kernel
theorem dX1_make_99 : decode cX1_make 99 = .ok (.iload_n 2, 1) := by decide +kernel
theorem dX1_make_100 : decode cX1_make 100 = .ok (.invokevirtual 52, 3) := by decide +kernel
theorem dX1_make_103 : decode cX1_make 103 = .ok (.goto 56, 3) := by decide +kernel
theorem dX1_make_106 : decode cX1_make 106 = .ok (.aload_n 0, 1) := by decide +kernel
theorem dX1_make_107 : decode cX1_make 107 = .ok (.iload_n 3, 1) := by decide +kernel
theorem dX1_make_108 : decode cX1_make 108 = .ok (.aload_n 1, 1) := by decide +kernel
theorem dX1_make_109 : decode cX1_make 109 = .ok (.getfield 55, 3) := by decide +kernel
theorem dX1_make_112 : decode cX1_make 112 = .ok (.iload_n 3, 1) := by decide +kernel
theorem dX1_make_113 : decode cX1_make 113 = .ok (.iaload, 1) := by decide +kernel
theorem dX1_make_114 : decode cX1_make 114 = .ok (.iconst 0, 1) := by decide +kernel
theorem dX1_make_115 : decode cX1_make 115 = .ok (.iload_n 2, 1) := by decide +kernel
theorem dX1_make_116 : decode cX1_make 116 = .ok (.invokevirtual 58, 3) := by decide +kernel
theorem dX1_make_119 : decode cX1_make 119 = .ok (.aload_n 0, 1) := by decide +kernel
theorem dX1_make_120 : decode cX1_make 120 = .ok (.iload_n 3, 1) := by decide +kernel
theorem dX1_make_121 : decode cX1_make 121 = .ok (.aload_n 1, 1) := by decide +kernel
theorem dX1_make_122 : decode cX1_make 122 = .ok (.getfield 62, 3) := by decide +kernel
theorem dX1_make_125 : decode cX1_make 125 = .ok (.iload_n 3, 1) := by decide +kernel
theorem dX1_make_126 : decode cX1_make 126 = .ok (.iaload, 1) := by decide +kernel
theorem dX1_make_127 : decode cX1_make 127 = .ok (.iconst 1, 1) := by decide +kernel
theorem dX1_make_128 : decode cX1_make 128 = .ok (.aload_n 1, 1) := by decide +kernel
theorem dX1_make_129 : decode cX1_make 129 = .ok (.getfield 45, 3) := by decide +kernel
theorem dX1_make_132 : decode cX1_make 132 = .ok (.iload_n 3, 1) := by decide +kernel
theorem dX1_make_133 : decode cX1_make 133 = .ok (.iaload, 1) := by decide +kernel
theorem dX1_make_134 : decode cX1_make 134 = .ok (.ishl, 1) := by decide +kernel
theorem dX1_make_135 : decode cX1_make 135 = .ok (.iload_n 2, 1) := by decide +kernel
theorem dX1_make_136 : decode cX1_make 136 = .ok (.invokevirtual 58, 3) := by decide +kernel
theorem dX1_make_139 : decode cX1_make 139 = .ok (.goto 20, 3) := by decide +kernel
theorem dX1_make_142 : decode cX1_make 142 = .ok (.aload_n 0, 1) := by decide +kernel
theorem dX1_make_143 : decode cX1_make 143 = .ok (.aload_n 1, 1) := by decide +kernel
theorem dX1_make_144 : decode cX1_make 144 = .ok (.iload_n 3, 1) := by decide +kernel
theorem dX1_make_145 : decode cX1_make 145 = .ok (.iload_n 2, 1) := by decide +kernel
theorem dX1_make_146 : decode cX1_make 146 = .ok (.invokevirtual 65, 3) := by decide +kernel
theorem dX1_make_149 : decode cX1_make 149 = .ok (.goto 10, 3) := by decide +kernel
theorem dX1_make_152 : decode cX1_make 152 = .ok (.aload_n 0, 1) := by decide +kernel
theorem dX1_make_153 : decode cX1_make 153 = .ok (.aload_n 1, 1) := by decide +kernel
theorem dX1_make_154 : decode cX1_make 154 = .ok (.iload_n 3, 1) := by decide +kernel
theorem dX1_make_155 : decode cX1_make 155 = .ok (.iload_n 2, 1) := by decide +kernel
theorem dX1_make_156 : decode cX1_make 156 = .ok (.invokevirtual 69, 3) := by decide +kernel
theorem dX1_make_159 : decode cX1_make 159 = .ok (.iinc 3 (-1), 3) := by decide +kernel
theorem dX1_make_162 : decode cX1_make 162 = .ok (.goto (-130), 3) := by decide +kernel
theorem dX1_make_165 : decode cX1_make 165 = .ok (.return_, 1) := by decide +kernel
theorem dX1_tryEach_0 : decode cX1_tryEach 0 = .ok (.iconst 0, 1) := by decide +kernel
theorem dX1_tryEach_1 : decode cX1_tryEach 1 = .ok (.istore 5, 2) := by decide +kernel
theorem dX1_tryEach_3 : decode cX1_tryEach 3 = .ok (.iload 5, 2) := by decide +kernel
theorem dX1_tryEach_5 : decode cX1_tryEach 5 = .ok (.aload_n 0, 1) := by decide +kernel
theorem dX1_tryEach_6 : decode cX1_tryEach 6 = .ok (.iload_n 2, 1) := by decide +kernel
theorem dX1_tryEach_7 : decode cX1_tryEach 7 = .ok (.invokevirtual 72, 3) := by decide +kernel
theorem dX1_tryEach_10 : decode cX1_tryEach 10 = .ok (.if_icmp .ge 36, 3) := by decide +kernel
theorem dX1_tryEach_13 : decode cX1_tryEach 13 = .ok (.aload_n 0, 1) := by decide +kernel
theorem dX1_tryEach_14 : decode cX1_tryEach 14 = .ok (.getfield 14, 3) := by decide +kernel
theorem dX1_tryEach_17 : decode cX1_tryEach 17 = .ok (.aload_n 0, 1) := by decide +kernel
theorem dX1_tryEach_18 : decode cX1_tryEach 18 = .ok (.iload_n 1, 1) := by decide +kernel
theorem dX1_tryEach_19 : decode cX1_tryEach 19 = .ok (.invokevirtual 76, 3) := by decide +kernel
theorem dX1_tryEach_22 : decode cX1_tryEach 22 = .ok (.iload_n 2, 1) := by decide +kernel
theorem dX1_tryEach_23 : decode cX1_tryEach 23 = .ok (.bipush 64, 2) := by decide +kernel
theorem dX1_tryEach_25 : decode cX1_tryEach 25 = .ok (.imul, 1) := by decide +kernel
theorem dX1_tryEach_26 : decode cX1_tryEach 26 = .ok (.iload 5, 2) := by decide +kernel
theorem dX1_tryEach_28 : decode cX1_tryEach 28 = .ok (.iadd, 1) := by decide +kernel
theorem dX1_tryEach_29 : decode cX1_tryEach 29 = .ok (.iload_n 3, 1) := by decide +kernel
theorem dX1_tryEach_30 : decode cX1_tryEach 30 = .ok (.invokevirtual 79, 3) := by decide +kernel
theorem dX1_tryEach_33 : decode cX1_tryEach 33 = .ok (.aload_n 0, 1) := by decide +kernel
theorem dX1_tryEach_34 : decode cX1_tryEach 34 = .ok (.iload_n 1, 1) := by decide +kernel
theorem dX1_tryEach_35 : decode cX1_tryEach 35 = .ok (.iload 4, 2) := by decide +kernel
theorem dX1_tryEach_37 : decode cX1_tryEach 37 = .ok (.invokevirtual 52, 3) := by decide +kernel
theorem dX1_tryEach_40 : decode cX1_tryEach 40 = .ok (.iinc 5 1, 3) := by decide +kernel
theorem dX1_tryEach_43 : decode cX1_tryEach 43 = .ok (.goto (-40), 3) := by decide +kernel
theorem dX1_tryEach_46 : decode cX1_tryEach 46 = .ok (.return_, 1) := by decide +kernel
theorem dX1_tryPairs_0 : decode cX1_tryPairs 0 = .ok (.aload_n 1, 1) := by decide +kernel
theorem dX1_tryPairs_1 : decode cX1_tryPairs 1 = .ok (.getfield 55, 3) := by decide +kernel
theorem dX1_tryPairs_4 : decode cX1_tryPairs 4 = .ok (.iload_n 2, 1) := by decide +kernel
theorem dX1_tryPairs_5 : decode cX1_tryPairs 5 = .ok (.iaload, 1) := by decide +kernel
theorem dX1_tryPairs_6 : decode cX1_tryPairs 6 = .ok (.istore 4, 2) := by decide +kernel
theorem dX1_tryPairs_8 : decode cX1_tryPairs 8 = .ok (.aload_n 1, 1) := by decide +kernel
theorem dX1_tryPairs_9 : decode cX1_tryPairs 9 = .ok (.getfield 62, 3) := by decide +kernel
theorem dX1_tryPairs_12 : decode cX1_tryPairs 12 = .ok (.iload_n 2, 1) := by decide +kernel
theorem dX1_tryPairs_13 : decode cX1_tryPairs 13 = .ok (.iaload, 1) := by decide +kernel
theorem dX1_tryPairs_14 : decode cX1_tryPairs 14 = .ok (.istore 5, 2) := by decide +kernel
theorem dX1_tryPairs_16 : decode cX1_tryPairs 16 = .ok (.iconst 0, 1) := by decide +kernel
theorem dX1_tryPairs_17 : decode cX1_tryPairs 17 = .ok (.istore 6, 2) := by decide +kernel
theorem dX1_tryPairs_19 : decode cX1_tryPairs 19 = .ok (.iload 6, 2) := by decide +kernel
theorem dX1_tryPairs_21 : decode cX1_tryPairs 21 = .ok (.aload_n 0, 1) := by decide +kernel
theorem dX1_tryPairs_22 : decode cX1_tryPairs 22 = .ok (.iload 4, 2) := by decide +kernel
theorem dX1_tryPairs_24 : decode cX1_tryPairs 24 = .ok (.invokevirtual 72, 3) := by decide +kernel
theorem dX1_tryPairs_27 : decode cX1_tryPairs 27 = .ok (.if_icmp .ge 70, 3) := by decide +kernel
theorem dX1_tryPairs_30 : decode cX1_tryPairs 30 = .ok (.iconst 0, 1) := by decide +kernel
theorem dX1_tryPairs_31 : decode cX1_tryPairs 31 = .ok (.istore 7, 2) := by decide +kernel
theorem dX1_tryPairs_33 : decode cX1_tryPairs 33 = .ok (.iload 7, 2) := by decide +kernel
theorem dX1_tryPairs_35 : decode cX1_tryPairs 35 = .ok (.aload_n 0, 1) := by decide +kernel
theorem dX1_tryPairs_36 : decode cX1_tryPairs 36 = .ok (.iload 5, 2) := by decide +kernel
theorem dX1_tryPairs_38 : decode cX1_tryPairs 38 = .ok (.invokevirtual 72, 3) := by decide +kernel
theorem dX1_tryPairs_41 : decode cX1_tryPairs 41 = .ok (.if_icmp .ge 50, 3) := by decide +kernel
theorem dX1_tryPairs_44 : decode cX1_tryPairs 44 = .ok (.aload_n 0, 1) := by decide +kernel
theorem dX1_tryPairs_45 : decode cX1_tryPairs 45 = .ok (.getfield 14, 3) := by decide +kernel
theorem dX1_tryPairs_48 : decode cX1_tryPairs 48 = .ok (.aload_n 0, 1) := by decide +kernel
theorem dX1_tryPairs_49 : decode cX1_tryPairs 49 = .ok (.iload_n 2, 1) := by decide +kernel
theorem dX1_tryPairs_50 : decode cX1_tryPairs 50 = .ok (.invokevirtual 76, 3) := by decide +kernel
theorem dX1_tryPairs_53 : decode cX1_tryPairs 53 = .ok (.aload_n 1, 1) := by decide +kernel
theorem dX1_tryPairs_54 : decode cX1_tryPairs 54 = .ok (.getfield 42, 3) := by decide +kernel
theorem dX1_tryPairs_57 : decode cX1_tryPairs 57 = .ok (.iload_n 2, 1) := by decide +kernel
theorem dX1_tryPairs_58 : decode cX1_tryPairs 58 = .ok (.iaload, 1) := by decide +kernel
theorem dX1_tryPairs_59 : decode cX1_tryPairs 59 = .ok (.iconst 0, 1) := by decide +kernel
theorem dX1_tryPairs_60 : decode cX1_tryPairs 60 = .ok (.iload 4, 2) := by decide +kernel
theorem dX1_tryPairs_62 : decode cX1_tryPairs 62 = .ok (.bipush 64, 2) := by decide +kernel
theorem dX1_tryPairs_64 : decode cX1_tryPairs 64 = .ok (.imul, 1) := by decide +kernel
theorem dX1_tryPairs_65 : decode cX1_tryPairs 65 = .ok (.iload 6, 2) := by decide +kernel
theorem dX1_tryPairs_67 : decode cX1_tryPairs 67 = .ok (.iadd, 1) := by decide +kernel
theorem dX1_tryPairs_68 : decode cX1_tryPairs 68 = .ok (.iload 5, 2) := by decide +kernel
theorem dX1_tryPairs_70 : decode cX1_tryPairs 70 = .ok (.bipush 64, 2) := by decide +kernel
theorem dX1_tryPairs_72 : decode cX1_tryPairs 72 = .ok (.imul, 1) := by decide +kernel
theorem dX1_tryPairs_73 : decode cX1_tryPairs 73 = .ok (.iload 7, 2) := by decide +kernel
theorem dX1_tryPairs_75 : decode cX1_tryPairs 75 = .ok (.iadd, 1) := by decide +kernel
theorem dX1_tryPairs_76 : decode cX1_tryPairs 76 = .ok (.invokevirtual 83, 3) := by decide +kernel
theorem dX1_tryPairs_79 : decode cX1_tryPairs 79 = .ok (.aload_n 0, 1) := by decide +kernel
theorem dX1_tryPairs_80 : decode cX1_tryPairs 80 = .ok (.iload_n 2, 1) := by decide +kernel
theorem dX1_tryPairs_81 : decode cX1_tryPairs 81 = .ok (.iload_n 3, 1) := by decide +kernel
theorem dX1_tryPairs_82 : decode cX1_tryPairs 82 = .ok (.invokevirtual 52, 3) := by decide +kernel
theorem dX1_tryPairs_85 : decode cX1_tryPairs 85 = .ok (.iinc 7 1, 3) := by decide +kernel
theorem dX1_tryPairs_88 : decode cX1_tryPairs 88 = .ok (.goto (-55), 3) := by decide +kernel
theorem dX1_tryPairs_91 : decode cX1_tryPairs 91 = .ok (.iinc 6 1, 3) := by decide +kernel
theorem dX1_tryPairs_94 : decode cX1_tryPairs 94 = .ok (.goto (-75), 3) := by decide +kernel
theorem dX1_tryPairs_97 : decode cX1_tryPairs 97 = .ok (.return_, 1) := by decide +kernel
theorem dX1_tryAlone_0 : decode cX1_tryAlone 0 = .ok (.aload_n 1, 1) := by decide +kernel
theorem dX1_tryAlone_1 : decode cX1_tryAlone 1 = .ok (.getfield 55, 3) := by decide +kernel
theorem dX1_tryAlone_4 : decode cX1_tryAlone 4 = .ok (.iload_n 2, 1) := by decide +kernel
theorem dX1_tryAlone_5 : decode cX1_tryAlone 5 = .ok (.iaload, 1) := by decide +kernel
theorem dX1_tryAlone_6 : decode cX1_tryAlone 6 = .ok (.istore 4, 2) := by decide +kernel
theorem dX1_tryAlone_8 : decode cX1_tryAlone 8 = .ok (.iconst 0, 1) := by decide +kernel
theorem dX1_tryAlone_9 : decode cX1_tryAlone 9 = .ok (.istore 5, 2) := by decide +kernel
theorem dX1_tryAlone_11 : decode cX1_tryAlone 11 = .ok (.iload 5, 2) := by decide +kernel
theorem dX1_tryAlone_13 : decode cX1_tryAlone 13 = .ok (.aload_n 0, 1) := by decide +kernel
theorem dX1_tryAlone_14 : decode cX1_tryAlone 14 = .ok (.iload 4, 2) := by decide +kernel
theorem dX1_tryAlone_16 : decode cX1_tryAlone 16 = .ok (.invokevirtual 72, 3) := by decide +kernel
theorem dX1_tryAlone_19 : decode cX1_tryAlone 19 = .ok (.if_icmp .ge 100, 3) := by decide +kernel
theorem dX1_tryAlone_22 : decode cX1_tryAlone 22 = .ok (.iload 4, 2) := by decide +kernel
theorem dX1_tryAlone_24 : decode cX1_tryAlone 24 = .ok (.bipush 64, 2) := by decide +kernel
theorem dX1_tryAlone_26 : decode cX1_tryAlone 26 = .ok (.imul, 1) := by decide +kernel
theorem dX1_tryAlone_27 : decode cX1_tryAlone 27 = .ok (.iload 5, 2) := by decide +kernel
theorem dX1_tryAlone_29 : decode cX1_tryAlone 29 = .ok (.iadd, 1) := by decide +kernel
theorem dX1_tryAlone_30 : decode cX1_tryAlone 30 = .ok (.istore 6, 2) := by decide +kernel
theorem dX1_tryAlone_32 : decode cX1_tryAlone 32 = .ok (.aload_n 1, 1) := by decide +kernel
theorem dX1_tryAlone_33 : decode cX1_tryAlone 33 = .ok (.getfield 42, 3) := by decide +kernel
theorem dX1_tryAlone_36 : decode cX1_tryAlone 36 = .ok (.iload_n 2, 1) := by decide +kernel
theorem dX1_tryAlone_37 : decode cX1_tryAlone 37 = .ok (.iaload, 1) := by decide +kernel
theorem dX1_tryAlone_38 : decode cX1_tryAlone 38 = .ok (.iconst 5, 1) := by decide +kernel
theorem dX1_tryAlone_39 : decode cX1_tryAlone 39 = .ok (.if_icmp .ne 40, 3) := by decide +kernel
theorem dX1_tryAlone_42 : decode cX1_tryAlone 42 = .ok (.aload_n 0, 1) := by decide +kernel
theorem dX1_tryAlone_43 : decode cX1_tryAlone 43 = .ok (.getfield 14, 3) := by decide +kernel
theorem dX1_tryAlone_46 : decode cX1_tryAlone 46 = .ok (.iload 6, 2) := by decide +kernel
theorem dX1_tryAlone_48 : decode cX1_tryAlone 48 = .ok (.iconst 0, 1) := by decide +kernel
theorem dX1_tryAlone_49 : decode cX1_tryAlone 49 = .ok (.invokevirtual 87, 3) := by decide +kernel
theorem dX1_tryAlone_52 : decode cX1_tryAlone 52 = .ok (.iconst 1, 1) := by decide +kernel
theorem dX1_tryAlone_53 : decode cX1_tryAlone 53 = .ok (.if_icmp .eq 26, 3) := by decide +kernel
theorem dX1_tryAlone_56 : decode cX1_tryAlone 56 = .ok (.aload_n 0, 1) := by decide +kernel
theorem dX1_tryAlone_57 : decode cX1_tryAlone 57 = .ok (.dup, 1) := by decide +kernel
theorem dX1_tryAlone_58 : decode cX1_tryAlone 58 = .ok (.getfield 24, 3) := by decide +kernel
theorem dX1_tryAlone_61 : decode cX1_tryAlone 61 = .ok (.iconst 1, 1) := by decide +kernel
theorem dX1_tryAlone_62 : decode cX1_tryAlone 62 = .ok (.iadd, 1) := by decide +kernel
theorem dX1_tryAlone_63 : decode cX1_tryAlone 63 = .ok (.putfield 24, 3) := by decide +kernel
theorem dX1_tryAlone_66 : decode cX1_tryAlone 66 = .ok (.aload_n 0, 1) := by decide +kernel
theorem dX1_tryAlone_67 : decode cX1_tryAlone 67 = .ok (.dup, 1) := by decide +kernel
theorem dX1_tryAlone_68 : decode cX1_tryAlone 68 = .ok (.getfield 28, 3) := by decide +kernel
theorem dX1_tryAlone_71 : decode cX1_tryAlone 71 = .ok (.iconst 1, 1) := by decide +kernel
theorem dX1_tryAlone_72 : decode cX1_tryAlone 72 = .ok (.iadd, 1) := by decide +kernel
theorem dX1_tryAlone_73 : decode cX1_tryAlone 73 = .ok (.putfield 28, 3) := by decide +kernel
theorem dX1_tryAlone_76 : decode cX1_tryAlone 76 = .ok (.goto 37, 3) := by decide +kernel
theorem dX1_tryAlone_79 : decode cX1_tryAlone 79 = .ok (.aload_n 0, 1) := by decide +kernel
theorem dX1_tryAlone_80 : decode cX1_tryAlone 80 = .ok (.getfield 14, 3) := by decide +kernel
theorem dX1_tryAlone_83 : decode cX1_tryAlone 83 = .ok (.aload_n 0, 1) := by decide +kernel
theorem dX1_tryAlone_84 : decode cX1_tryAlone 84 = .ok (.iload_n 2, 1) := by decide +kernel
theorem dX1_tryAlone_85 : decode cX1_tryAlone 85 = .ok (.invokevirtual 76, 3) := by decide +kernel
theorem dX1_tryAlone_88 : decode cX1_tryAlone 88 = .ok (.aload_n 1, 1) := by decide +kernel
theorem dX1_tryAlone_89 : decode cX1_tryAlone 89 = .ok (.getfield 42, 3) := by decide +kernel
theorem dX1_tryAlone_92 : decode cX1_tryAlone 92 = .ok (.iload_n 2, 1) := by decide +kernel
theorem dX1_tryAlone_93 : decode cX1_tryAlone 93 = .ok (.iaload, 1) := by decide +kernel
theorem dX1_tryAlone_94 : decode cX1_tryAlone 94 = .ok (.aload_n 1, 1) := by decide +kernel
theorem dX1_tryAlone_95 : decode cX1_tryAlone 95 = .ok (.getfield 45, 3) := by decide +kernel
theorem dX1_tryAlone_98 : decode cX1_tryAlone 98 = .ok (.iload_n 2, 1) := by decide +kernel
theorem dX1_tryAlone_99 : decode cX1_tryAlone 99 = .ok (.iaload, 1) := by decide +kernel
theorem dX1_tryAlone_100 : decode cX1_tryAlone 100 = .ok (.iload 6, 2) := by decide +kernel
theorem dX1_tryAlone_102 : decode cX1_tryAlone 102 = .ok (.iload 6, 2) := by decide +kernel
theorem dX1_tryAlone_104 : decode cX1_tryAlone 104 = .ok (.invokevirtual 83, 3) := by decide +kernel
theorem dX1_tryAlone_107 : decode cX1_tryAlone 107 = .ok (.aload_n 0, 1) := by decide +kernel
theorem dX1_tryAlone_108 : decode cX1_tryAlone 108 = .ok (.iload_n 2, 1) := by decide +kernel
theorem dX1_tryAlone_109 : decode cX1_tryAlone 109 = .ok (.iload_n 3, 1) := by decide +kernel
theorem dX1_tryAlone_110 : decode cX1_tryAlone 110 = .ok (.invokevirtual 52, 3) := by decide +kernel
theorem dX1_tryAlone_113 : decode cX1_tryAlone 113 = .ok (.iinc 5 1, 3) := by decide +kernel
theorem dX1_tryAlone_116 : decode cX1_tryAlone 116 = .ok (.goto (-105), 3) := by decide +kernel
theorem dX1_tryAlone_119 : decode cX1_tryAlone 119 = .ok (.return_, 1) := by decide +kernel
theorem dX1_trialPlace_0 : decode cX1_trialPlace 0 = .ok (.iload_n 1, 1) := by decide +kernel
theorem dX1_trialPlace_1 : decode cX1_trialPlace 1 = .ok (.ifCond .lt 37, 3) := by decide +kernel
theorem dX1_trialPlace_4 : decode cX1_trialPlace 4 = .ok (.iload_n 1, 1) := by decide +kernel
theorem dX1_trialPlace_5 : decode cX1_trialPlace 5 = .ok (.aload_n 0, 1) := by decide +kernel
theorem dX1_trialPlace_6 : decode cX1_trialPlace 6 = .ok (.getfield 20, 3) := by decide +kernel
theorem dX1_trialPlace_9 : decode cX1_trialPlace 9 = .ok (.arraylength, 1) := by decide +kernel
theorem dX1_trialPlace_10 : decode cX1_trialPlace 10 = .ok (.if_icmp .ge 28, 3) := by decide +kernel
theorem dX1_trialPlace_13 : decode cX1_trialPlace 13 = .ok (.aload_n 0, 1) := by decide +kernel
theorem dX1_trialPlace_14 : decode cX1_trialPlace 14 = .ok (.getfield 20, 3) := by decide +kernel
theorem dX1_trialPlace_17 : decode cX1_trialPlace 17 = .ok (.iload_n 1, 1) := by decide +kernel
theorem dX1_trialPlace_18 : decode cX1_trialPlace 18 = .ok (.iaload, 1) := by decide +kernel
theorem dX1_trialPlace_19 : decode cX1_trialPlace 19 = .ok (.bipush 64, 2) := by decide +kernel
theorem dX1_trialPlace_21 : decode cX1_trialPlace 21 = .ok (.if_icmp .ge 17, 3) := by decide +kernel
theorem dX1_trialPlace_24 : decode cX1_trialPlace 24 = .ok (.iload_n 1, 1) := by decide +kernel
theorem dX1_trialPlace_25 : decode cX1_trialPlace 25 = .ok (.bipush 64, 2) := by decide +kernel
theorem dX1_trialPlace_27 : decode cX1_trialPlace 27 = .ok (.imul, 1) := by decide +kernel
theorem dX1_trialPlace_28 : decode cX1_trialPlace 28 = .ok (.aload_n 0, 1) := by decide +kernel
theorem dX1_trialPlace_29 : decode cX1_trialPlace 29 = .ok (.getfield 20, 3) := by decide +kernel
theorem dX1_trialPlace_32 : decode cX1_trialPlace 32 = .ok (.iload_n 1, 1) := by decide +kernel
theorem dX1_trialPlace_33 : decode cX1_trialPlace 33 = .ok (.iaload, 1) := by decide +kernel
theorem dX1_trialPlace_34 : decode cX1_trialPlace 34 = .ok (.iadd, 1) := by decide +kernel
theorem dX1_trialPlace_35 : decode cX1_trialPlace 35 = .ok (.goto 4, 3) := by decide +kernel
theorem dX1_trialPlace_38 : decode cX1_trialPlace 38 = .ok (.iconst (-1), 1) := by decide +kernel
theorem dX1_trialPlace_39 : decode cX1_trialPlace 39 = .ok (.ireturn, 1) := by decide +kernel
theorem dX1_tryLast_0 : decode cX1_tryLast 0 = .ok (.iload_n 1, 1) := by decide +kernel
theorem dX1_tryLast_1 : decode cX1_tryLast 1 = .ok (.bipush 64, 2) := by decide +kernel
theorem dX1_tryLast_3 : decode cX1_tryLast 3 = .ok (.imul, 1) := by decide +kernel
theorem dX1_tryLast_4 : decode cX1_tryLast 4 = .ok (.istore_n 3, 1) := by decide +kernel
theorem dX1_tryLast_5 : decode cX1_tryLast 5 = .ok (.aload_n 0, 1) := by decide +kernel
theorem dX1_tryLast_6 : decode cX1_tryLast 6 = .ok (.iload_n 1, 1) := by decide +kernel
theorem dX1_tryLast_7 : decode cX1_tryLast 7 = .ok (.invokevirtual 76, 3) := by decide +kernel
theorem dX1_tryLast_10 : decode cX1_tryLast 10 = .ok (.istore 4, 2) := by decide +kernel
theorem dX1_tryLast_12 : decode cX1_tryLast 12 = .ok (.aload_n 0, 1) := by decide +kernel
theorem dX1_tryLast_13 : decode cX1_tryLast 13 = .ok (.getfield 14, 3) := by decide +kernel
theorem dX1_tryLast_16 : decode cX1_tryLast 16 = .ok (.iload 4, 2) := by decide +kernel
theorem dX1_tryLast_18 : decode cX1_tryLast 18 = .ok (.invokevirtual 90, 3) := by decide +kernel
theorem dX1_tryLast_21 : decode cX1_tryLast 21 = .ok (.ifCond .ne 4, 3) := by decide +kernel
theorem dX1_tryLast_24 : decode cX1_tryLast 24 = .ok (.return_, 1) := by decide +kernel
theorem dX1_tryLast_25 : decode cX1_tryLast 25 = .ok (.aload_n 0, 1) := by decide +kernel
theorem dX1_tryLast_26 : decode cX1_tryLast 26 = .ok (.dup, 1) := by decide +kernel
theorem dX1_tryLast_27 : decode cX1_tryLast 27 = .ok (.getfield 24, 3) := by decide +kernel
theorem dX1_tryLast_30 : decode cX1_tryLast 30 = .ok (.iconst 1, 1) := by decide +kernel
theorem dX1_tryLast_31 : decode cX1_tryLast 31 = .ok (.iadd, 1) := by decide +kernel
theorem dX1_tryLast_32 : decode cX1_tryLast 32 = .ok (.putfield 24, 3) := by decide +kernel
theorem dX1_tryLast_35 : decode cX1_tryLast 35 = .ok (.aload_n 0, 1) := by decide +kernel
theorem dX1_tryLast_36 : decode cX1_tryLast 36 = .ok (.getfield 14, 3) := by decide +kernel
theorem dX1_tryLast_39 : decode cX1_tryLast 39 = .ok (.getfield 94, 3) := by decide +kernel
theorem dX1_tryLast_42 : decode cX1_tryLast 42 = .ok (.iload 4, 2) := by decide +kernel
theorem dX1_tryLast_44 : decode cX1_tryLast 44 = .ok (.iaload, 1) := by decide +kernel
theorem dX1_tryLast_45 : decode cX1_tryLast 45 = .ok (.iload_n 2, 1) := by decide +kernel
theorem dX1_tryLast_46 : decode cX1_tryLast 46 = .ok (.if_icmp .le 7, 3) := by decide +kernel
theorem dX1_tryLast_49 : decode cX1_tryLast 49 = .ok (.iconst 1, 1) := by decide +kernel
theorem dX1_tryLast_50 : decode cX1_tryLast 50 = .ok (.goto 4, 3) := by decide +kernel
theorem dX1_tryLast_53 : decode cX1_tryLast 53 = .ok (.iconst 0, 1) := by decide +kernel
theorem dX1_tryLast_54 : decode cX1_tryLast 54 = .ok (.istore 5, 2) := by decide +kernel
theorem dX1_tryLast_56 : decode cX1_tryLast 56 = .ok (.iload_n 3, 1) := by decide +kernel
theorem dX1_tryLast_57 : decode cX1_tryLast 57 = .ok (.istore 6, 2) := by decide +kernel
theorem dX1_tryLast_59 : decode cX1_tryLast 59 = .ok (.iload 6, 2) := by decide +kernel
theorem dX1_tryLast_61 : decode cX1_tryLast 61 = .ok (.iload 4, 2) := by decide +kernel
theorem dX1_tryLast_63 : decode cX1_tryLast 63 = .ok (.if_icmp .ge 27, 3) := by decide +kernel
theorem dX1_tryLast_66 : decode cX1_tryLast 66 = .ok (.iload 5, 2) := by decide +kernel
theorem dX1_tryLast_68 : decode cX1_tryLast 68 = .ok (.ifCond .ne 22, 3) := by decide +kernel
theorem dX1_tryLast_71 : decode cX1_tryLast 71 = .ok (.aload_n 0, 1) := by decide +kernel
theorem dX1_tryLast_72 : decode cX1_tryLast 72 = .ok (.getfield 14, 3) := by decide +kernel
theorem dX1_tryLast_75 : decode cX1_tryLast 75 = .ok (.iload 6, 2) := by decide +kernel
theorem dX1_tryLast_77 : decode cX1_tryLast 77 = .ok (.iload 4, 2) := by decide +kernel
theorem dX1_tryLast_79 : decode cX1_tryLast 79 = .ok (.invokevirtual 97, 3) := by decide +kernel
theorem dX1_tryLast_82 : decode cX1_tryLast 82 = .ok (.istore 5, 2) := by decide +kernel
theorem dX1_tryLast_84 : decode cX1_tryLast 84 = .ok (.iinc 6 1, 3) := by decide +kernel
theorem dX1_tryLast_87 : decode cX1_tryLast 87 = .ok (.goto (-28), 3) := by decide +kernel
theorem dX1_tryLast_90 : decode cX1_tryLast 90 = .ok (.iload 5, 2) := by decide +kernel
theorem dX1_tryLast_92 : decode cX1_tryLast 92 = .ok (.ifCond .eq 14, 3) := by decide +kernel
theorem dX1_tryLast_95 : decode cX1_tryLast 95 = .ok (.aload_n 0, 1) := by decide +kernel
theorem dX1_tryLast_96 : decode cX1_tryLast 96 = .ok (.dup, 1) := by decide +kernel
theorem dX1_tryLast_97 : decode cX1_tryLast 97 = .ok (.getfield 28, 3) := by decide +kernel
theorem dX1_tryLast_100 : decode cX1_tryLast 100 = .ok (.iconst 1, 1) := by decide +kernel
theorem dX1_tryLast_101 : decode cX1_tryLast 101 = .ok (.iadd, 1) := by decide +kernel
theorem dX1_tryLast_102 : decode cX1_tryLast 102 = .ok (.putfield 28, 3) := by decide +kernel
theorem dX1_tryLast_105 : decode cX1_tryLast 105 = .ok (.return_, 1) := by decide +kernel
theorem dX1_tryLast_106 : decode cX1_tryLast 106 = .ok (.iload_n 3, 1) := by decide +kernel
theorem dX1_tryLast_107 : decode cX1_tryLast 107 = .ok (.istore 6, 2) := by decide +kernel
theorem dX1_tryLast_109 : decode cX1_tryLast 109 = .ok (.iload_n 3, 1) := by decide +kernel
theorem dX1_tryLast_110 : decode cX1_tryLast 110 = .ok (.istore 7, 2) := by decide +kernel
theorem dX1_tryLast_112 : decode cX1_tryLast 112 = .ok (.iload 7, 2) := by decide +kernel
theorem dX1_tryLast_114 : decode cX1_tryLast 114 = .ok (.iload 4, 2) := by decide +kernel
theorem dX1_tryLast_116 : decode cX1_tryLast 116 = .ok (.if_icmp .ge 51, 3) := by decide +kernel
theorem dX1_tryLast_119 : decode cX1_tryLast 119 = .ok (.aload_n 0, 1) := by decide +kernel
theorem dX1_tryLast_120 : decode cX1_tryLast 120 = .ok (.getfield 14, 3) := by decide +kernel
theorem dX1_tryLast_123 : decode cX1_tryLast 123 = .ok (.iload 4, 2) := by decide +kernel
theorem dX1_tryLast_125 : decode cX1_tryLast 125 = .ok (.iload 7, 2) := by decide +kernel
theorem dX1_tryLast_127 : decode cX1_tryLast 127 = .ok (.invokevirtual 97, 3) := by decide +kernel
theorem dX1_tryLast_130 : decode cX1_tryLast 130 = .ok (.ifCond .eq 16, 3) := by decide +kernel
theorem dX1_tryLast_133 : decode cX1_tryLast 133 = .ok (.aload_n 0, 1) := by decide +kernel
theorem dX1_tryLast_134 : decode cX1_tryLast 134 = .ok (.dup, 1) := by decide +kernel
theorem dX1_tryLast_135 : decode cX1_tryLast 135 = .ok (.getfield 28, 3) := by decide +kernel
theorem dX1_tryLast_138 : decode cX1_tryLast 138 = .ok (.iconst 1, 1) := by decide +kernel
theorem dX1_tryLast_139 : decode cX1_tryLast 139 = .ok (.iadd, 1) := by decide +kernel
theorem dX1_tryLast_140 : decode cX1_tryLast 140 = .ok (.putfield 28, 3) := by decide +kernel
theorem dX1_tryLast_143 : decode cX1_tryLast 143 = .ok (.goto 18, 3) := by decide +kernel
theorem dX1_tryLast_146 : decode cX1_tryLast 146 = .ok (.aload_n 0, 1) := by decide +kernel
theorem dX1_tryLast_147 : decode cX1_tryLast 147 = .ok (.getfield 14, 3) := by decide +kernel
theorem dX1_tryLast_150 : decode cX1_tryLast 150 = .ok (.iload 6, 2) := by decide +kernel
theorem dX1_tryLast_152 : decode cX1_tryLast 152 = .ok (.iload 7, 2) := by decide +kernel
theorem dX1_tryLast_154 : decode cX1_tryLast 154 = .ok (.iconst 0, 1) := by decide +kernel
theorem dX1_tryLast_155 : decode cX1_tryLast 155 = .ok (.invokevirtual 79, 3) := by decide +kernel
theorem dX1_tryLast_158 : decode cX1_tryLast 158 = .ok (.iinc 6 1, 3) := by decide +kernel
theorem dX1_tryLast_161 : decode cX1_tryLast 161 = .ok (.iinc 7 1, 3) := by decide +kernel
theorem dX1_tryLast_164 : decode cX1_tryLast 164 = .ok (.goto (-52), 3) := by decide +kernel
theorem dX1_tryLast_167 : decode cX1_tryLast 167 = .ok (.aload_n 0, 1) := by decide +kernel
theorem dX1_tryLast_168 : decode cX1_tryLast 168 = .ok (.getfield 14, 3) := by decide +kernel
theorem dX1_tryLast_171 : decode cX1_tryLast 171 = .ok (.iload 6, 2) := by decide +kernel
theorem dX1_tryLast_173 : decode cX1_tryLast 173 = .ok (.iload 4, 2) := by decide +kernel
theorem dX1_tryLast_175 : decode cX1_tryLast 175 = .ok (.iconst 0, 1) := by decide +kernel
theorem dX1_tryLast_176 : decode cX1_tryLast 176 = .ok (.invokevirtual 79, 3) := by decide +kernel
theorem dX1_tryLast_179 : decode cX1_tryLast 179 = .ok (.aload_n 0, 1) := by decide +kernel
theorem dX1_tryLast_180 : decode cX1_tryLast 180 = .ok (.getfield 20, 3) := by decide +kernel
theorem dX1_tryLast_183 : decode cX1_tryLast 183 = .ok (.iload_n 1, 1) := by decide +kernel
theorem dX1_tryLast_184 : decode cX1_tryLast 184 = .ok (.iload 6, 2) := by decide +kernel
theorem dX1_tryLast_186 : decode cX1_tryLast 186 = .ok (.iconst 1, 1) := by decide +kernel
theorem dX1_tryLast_187 : decode cX1_tryLast 187 = .ok (.iadd, 1) := by decide +kernel
theorem dX1_tryLast_188 : decode cX1_tryLast 188 = .ok (.iload_n 3, 1) := by decide +kernel
theorem dX1_tryLast_189 : decode cX1_tryLast 189 = .ok (.isub, 1) := by decide +kernel
theorem dX1_tryLast_190 : decode cX1_tryLast 190 = .ok (.iastore, 1) := by decide +kernel
theorem dX1_tryLast_191 : decode cX1_tryLast 191 = .ok (.return_, 1) := by decide +kernel
theorem dX1_fewestLines_0 : decode cX1_fewestLines 0 = .ok (.aload_n 0, 1) := by decide +kernel
theorem dX1_fewestLines_1 : decode cX1_fewestLines 1 = .ok (.iconst 0, 1) := by decide +kernel
theorem dX1_fewestLines_2 : decode cX1_fewestLines 2 = .ok (.invokevirtual 72, 3) := by decide +kernel
theorem dX1_fewestLines_5 : decode cX1_fewestLines 5 = .ok (.ifCond .ne 7, 3) := by decide +kernel
theorem dX1_fewestLines_8 : decode cX1_fewestLines 8 = .ok (.iconst (-1), 1) := by decide +kernel
theorem dX1_fewestLines_9 : decode cX1_fewestLines 9 = .ok (.goto 4, 3) := by decide +kernel
theorem dX1_fewestLines_12 : decode cX1_fewestLines 12 = .ok (.iconst 0, 1) := by decide +kernel
theorem dX1_fewestLines_13 : decode cX1_fewestLines 13 = .ok (.istore_n 1, 1) := by decide +kernel
theorem dX1_fewestLines_14 : decode cX1_fewestLines 14 = .ok (.iconst 1, 1) := by decide +kernel
theorem dX1_fewestLines_15 : decode cX1_fewestLines 15 = .ok (.istore_n 2, 1) := by decide +kernel
theorem dX1_fewestLines_16 : decode cX1_fewestLines 16 = .ok (.iload_n 2, 1) := by decide +kernel
theorem dX1_fewestLines_17 : decode cX1_fewestLines 17 = .ok (.aload_n 0, 1) := by decide +kernel
theorem dX1_fewestLines_18 : decode cX1_fewestLines 18 = .ok (.iconst 0, 1) := by decide +kernel
theorem dX1_fewestLines_19 : decode cX1_fewestLines 19 = .ok (.invokevirtual 72, 3) := by decide +kernel
theorem dX1_fewestLines_22 : decode cX1_fewestLines 22 = .ok (.if_icmp .ge 23, 3) := by decide +kernel
theorem dX1_fewestLines_25 : decode cX1_fewestLines 25 = .ok (.aload_n 0, 1) := by decide +kernel
theorem dX1_fewestLines_26 : decode cX1_fewestLines 26 = .ok (.getfield 14, 3) := by decide +kernel
theorem dX1_fewestLines_29 : decode cX1_fewestLines 29 = .ok (.iload_n 2, 1) := by decide +kernel
theorem dX1_fewestLines_30 : decode cX1_fewestLines 30 = .ok (.iload_n 1, 1) := by decide +kernel
theorem dX1_fewestLines_31 : decode cX1_fewestLines 31 = .ok (.invokevirtual 101, 3) := by decide +kernel
theorem dX1_fewestLines_34 : decode cX1_fewestLines 34 = .ok (.ifCond .eq 5, 3) := by decide +kernel
theorem dX1_fewestLines_37 : decode cX1_fewestLines 37 = .ok (.iload_n 2, 1) := by decide +kernel
theorem dX1_fewestLines_38 : decode cX1_fewestLines 38 = .ok (.istore_n 1, 1) := by decide +kernel
theorem dX1_fewestLines_39 : decode cX1_fewestLines 39 = .ok (.iinc 2 1, 3) := by decide +kernel
theorem dX1_fewestLines_42 : decode cX1_fewestLines 42 = .ok (.goto (-26), 3) := by decide +kernel
theorem dX1_fewestLines_45 : decode cX1_fewestLines 45 = .ok (.iload_n 1, 1) := by decide +kernel
theorem dX1_fewestLines_46 : decode cX1_fewestLines 46 = .ok (.ireturn, 1) := by decide +kernel
theorem dX1_leastMost_0 : decode cX1_leastMost 0 = .ok (.aload_n 0, 1) := by decide +kernel
theorem dX1_leastMost_1 : decode cX1_leastMost 1 = .ok (.iconst 0, 1) := by decide +kernel
theorem dX1_leastMost_2 : decode cX1_leastMost 2 = .ok (.invokevirtual 72, 3) := by decide +kernel
theorem dX1_leastMost_5 : decode cX1_leastMost 5 = .ok (.ifCond .ne 7, 3) := by decide +kernel
theorem dX1_leastMost_8 : decode cX1_leastMost 8 = .ok (.iconst (-1), 1) := by decide +kernel
theorem dX1_leastMost_9 : decode cX1_leastMost 9 = .ok (.goto 4, 3) := by decide +kernel
theorem dX1_leastMost_12 : decode cX1_leastMost 12 = .ok (.iconst 0, 1) := by decide +kernel
theorem dX1_leastMost_13 : decode cX1_leastMost 13 = .ok (.istore_n 1, 1) := by decide +kernel
theorem dX1_leastMost_14 : decode cX1_leastMost 14 = .ok (.iconst 1, 1) := by decide +kernel
theorem dX1_leastMost_15 : decode cX1_leastMost 15 = .ok (.istore_n 2, 1) := by decide +kernel
theorem dX1_leastMost_16 : decode cX1_leastMost 16 = .ok (.iload_n 2, 1) := by decide +kernel
theorem dX1_leastMost_17 : decode cX1_leastMost 17 = .ok (.aload_n 0, 1) := by decide +kernel
theorem dX1_leastMost_18 : decode cX1_leastMost 18 = .ok (.iconst 0, 1) := by decide +kernel
theorem dX1_leastMost_19 : decode cX1_leastMost 19 = .ok (.invokevirtual 72, 3) := by decide +kernel
theorem dX1_leastMost_22 : decode cX1_leastMost 22 = .ok (.if_icmp .ge 23, 3) := by decide +kernel
theorem dX1_leastMost_25 : decode cX1_leastMost 25 = .ok (.aload_n 0, 1) := by decide +kernel
theorem dX1_leastMost_26 : decode cX1_leastMost 26 = .ok (.getfield 14, 3) := by decide +kernel
theorem dX1_leastMost_29 : decode cX1_leastMost 29 = .ok (.iload_n 2, 1) := by decide +kernel
theorem dX1_leastMost_30 : decode cX1_leastMost 30 = .ok (.iload_n 1, 1) := by decide +kernel
theorem dX1_leastMost_31 : decode cX1_leastMost 31 = .ok (.invokevirtual 104, 3) := by decide +kernel
theorem dX1_leastMost_34 : decode cX1_leastMost 34 = .ok (.ifCond .eq 5, 3) := by decide +kernel
theorem dX1_leastMost_37 : decode cX1_leastMost 37 = .ok (.iload_n 2, 1) := by decide +kernel
theorem dX1_leastMost_38 : decode cX1_leastMost 38 = .ok (.istore_n 1, 1) := by decide +kernel
theorem dX1_leastMost_39 : decode cX1_leastMost 39 = .ok (.iinc 2 1, 3) := by decide +kernel
theorem dX1_leastMost_42 : decode cX1_leastMost 42 = .ok (.goto (-26), 3) := by decide +kernel
theorem dX1_leastMost_45 : decode cX1_leastMost 45 = .ok (.iload_n 1, 1) := by decide +kernel
theorem dX1_leastMost_46 : decode cX1_leastMost 46 = .ok (.ireturn, 1) := by decide +kernel
