theorem dX7_findsFronts_11 : decode cX7_findsFronts 11 = .ok (.iconst 0, 1) := by decide +kernel
theorem dX7_findsFronts_12 : decode cX7_findsFronts 12 = .ok (.putfield 148, 3) := by decide +kernel
theorem dX7_findsFronts_15 : decode cX7_findsFronts 15 = .ok (.aload_n 0, 1) := by decide +kernel
theorem dX7_findsFronts_16 : decode cX7_findsFronts 16 = .ok (.getfield 93, 3) := by decide +kernel
theorem dX7_findsFronts_19 : decode cX7_findsFronts 19 = .ok (.iconst 1, 1) := by decide +kernel
theorem dX7_findsFronts_20 : decode cX7_findsFronts 20 = .ok (.isub, 1) := by decide +kernel
theorem dX7_findsFronts_21 : decode cX7_findsFronts 21 = .ok (.istore_n 2, 1) := by decide +kernel
theorem dX7_findsFronts_22 : decode cX7_findsFronts 22 = .ok (.iload_n 2, 1) := by decide +kernel
theorem dX7_findsFronts_23 : decode cX7_findsFronts 23 = .ok (.ifCond .lt 149, 3) := by decide +kernel
theorem dX7_findsFronts_26 : decode cX7_findsFronts 26 = .ok (.aload_n 0, 1) := by decide +kernel
theorem dX7_findsFronts_27 : decode cX7_findsFronts 27 = .ok (.getfield 41, 3) := by decide +kernel
theorem dX7_findsFronts_30 : decode cX7_findsFronts 30 = .ok (.iload_n 2, 1) := by decide +kernel
theorem dX7_findsFronts_31 : decode cX7_findsFronts 31 = .ok (.iconst 0, 1) := by decide +kernel
theorem dX7_findsFronts_32 : decode cX7_findsFronts 32 = .ok (.iastore, 1) := by decide +kernel
theorem dX7_findsFronts_33 : decode cX7_findsFronts 33 = .ok (.aload_n 0, 1) := by decide +kernel
theorem dX7_findsFronts_34 : decode cX7_findsFronts 34 = .ok (.getfield 17, 3) := by decide +kernel
theorem dX7_findsFronts_37 : decode cX7_findsFronts 37 = .ok (.iload_n 2, 1) := by decide +kernel
theorem dX7_findsFronts_38 : decode cX7_findsFronts 38 = .ok (.iaload, 1) := by decide +kernel
theorem dX7_findsFronts_39 : decode cX7_findsFronts 39 = .ok (.ifCond .ne 28, 3) := by decide +kernel
theorem dX7_findsFronts_42 : decode cX7_findsFronts 42 = .ok (.aload_n 0, 1) := by decide +kernel
theorem dX7_findsFronts_43 : decode cX7_findsFronts 43 = .ok (.iload_n 2, 1) := by decide +kernel
theorem dX7_findsFronts_44 : decode cX7_findsFronts 44 = .ok (.iconst 1, 1) := by decide +kernel
theorem dX7_findsFronts_45 : decode cX7_findsFronts 45 = .ok (.aload_n 0, 1) := by decide +kernel
theorem dX7_findsFronts_46 : decode cX7_findsFronts 46 = .ok (.getfield 20, 3) := by decide +kernel
theorem dX7_findsFronts_49 : decode cX7_findsFronts 49 = .ok (.iload_n 2, 1) := by decide +kernel
theorem dX7_findsFronts_50 : decode cX7_findsFronts 50 = .ok (.iaload, 1) := by decide +kernel
theorem dX7_findsFronts_51 : decode cX7_findsFronts 51 = .ok (.aload_n 0, 1) := by decide +kernel
theorem dX7_findsFronts_52 : decode cX7_findsFronts 52 = .ok (.getfield 20, 3) := by decide +kernel
theorem dX7_findsFronts_55 : decode cX7_findsFronts 55 = .ok (.iload_n 2, 1) := by decide +kernel
theorem dX7_findsFronts_56 : decode cX7_findsFronts 56 = .ok (.iaload, 1) := by decide +kernel
theorem dX7_findsFronts_57 : decode cX7_findsFronts 57 = .ok (.iconst 0, 1) := by decide +kernel
theorem dX7_findsFronts_58 : decode cX7_findsFronts 58 = .ok (.invokestatic 134, 3) := by decide +kernel
theorem dX7_findsFronts_61 : decode cX7_findsFronts 61 = .ok (.invokevirtual 155, 3) := by decide +kernel
theorem dX7_findsFronts_64 : decode cX7_findsFronts 64 = .ok (.goto 102, 3) := by decide +kernel
theorem dX7_findsFronts_67 : decode cX7_findsFronts 67 = .ok (.aload_n 0, 1) := by decide +kernel
theorem dX7_findsFronts_68 : decode cX7_findsFronts 68 = .ok (.getfield 17, 3) := by decide +kernel
theorem dX7_findsFronts_71 : decode cX7_findsFronts 71 = .ok (.iload_n 2, 1) := by decide +kernel
theorem dX7_findsFronts_72 : decode cX7_findsFronts 72 = .ok (.iaload, 1) := by decide +kernel
theorem dX7_findsFronts_73 : decode cX7_findsFronts 73 = .ok (.iconst 3, 1) := by decide +kernel
theorem dX7_findsFronts_74 : decode cX7_findsFronts 74 = .ok (.if_icmp .ne 11, 3) := by decide +kernel
theorem dX7_findsFronts_77 : decode cX7_findsFronts 77 = .ok (.aload_n 0, 1) := by decide +kernel
theorem dX7_findsFronts_78 : decode cX7_findsFronts 78 = .ok (.iload_n 2, 1) := by decide +kernel
theorem dX7_findsFronts_79 : decode cX7_findsFronts 79 = .ok (.invokevirtual 159, 3) := by decide +kernel
theorem dX7_findsFronts_82 : decode cX7_findsFronts 82 = .ok (.goto 84, 3) := by decide +kernel
theorem dX7_findsFronts_85 : decode cX7_findsFronts 85 = .ok (.aload_n 0, 1) := by decide +kernel
theorem dX7_findsFronts_86 : decode cX7_findsFronts 86 = .ok (.getfield 17, 3) := by decide +kernel
theorem dX7_findsFronts_89 : decode cX7_findsFronts 89 = .ok (.iload_n 2, 1) := by decide +kernel
theorem dX7_findsFronts_90 : decode cX7_findsFronts 90 = .ok (.iaload, 1) := by decide +kernel
theorem dX7_findsFronts_91 : decode cX7_findsFronts 91 = .ok (.invokestatic 102, 3) := by decide +kernel
theorem dX7_findsFronts_94 : decode cX7_findsFronts 94 = .ok (.ifCond .eq 11, 3) := by decide +kernel
theorem dX7_findsFronts_97 : decode cX7_findsFronts 97 = .ok (.aload_n 0, 1) := by decide +kernel
theorem dX7_findsFronts_98 : decode cX7_findsFronts 98 = .ok (.iload_n 2, 1) := by decide +kernel
theorem dX7_findsFronts_99 : decode cX7_findsFronts 99 = .ok (.invokevirtual 163, 3) := by decide +kernel
theorem dX7_findsFronts_102 : decode cX7_findsFronts 102 = .ok (.goto 64, 3) := by decide +kernel
theorem dX7_findsFronts_105 : decode cX7_findsFronts 105 = .ok (.iconst 0, 1) := by decide +kernel
theorem dX7_findsFronts_106 : decode cX7_findsFronts 106 = .ok (.istore_n 3, 1) := by decide +kernel
theorem dX7_findsFronts_107 : decode cX7_findsFronts 107 = .ok (.iload_n 3, 1) := by decide +kernel
theorem dX7_findsFronts_108 : decode cX7_findsFronts 108 = .ok (.aload_n 0, 1) := by decide +kernel
theorem dX7_findsFronts_109 : decode cX7_findsFronts 109 = .ok (.getfield 41, 3) := by decide +kernel
theorem dX7_findsFronts_112 : decode cX7_findsFronts 112 = .ok (.iload_n 2, 1) := by decide +kernel
theorem dX7_findsFronts_113 : decode cX7_findsFronts 113 = .ok (.iconst 1, 1) := by decide +kernel
theorem dX7_findsFronts_114 : decode cX7_findsFronts 114 = .ok (.iadd, 1) := by decide +kernel
theorem dX7_findsFronts_115 : decode cX7_findsFronts 115 = .ok (.iaload, 1) := by decide +kernel
theorem dX7_findsFronts_116 : decode cX7_findsFronts 116 = .ok (.if_icmp .ge 50, 3) := by decide +kernel
theorem dX7_findsFronts_119 : decode cX7_findsFronts 119 = .ok (.aload_n 0, 1) := by decide +kernel
theorem dX7_findsFronts_120 : decode cX7_findsFronts 120 = .ok (.iload_n 2, 1) := by decide +kernel
theorem dX7_findsFronts_121 : decode cX7_findsFronts 121 = .ok (.aload_n 0, 1) := by decide +kernel
theorem dX7_findsFronts_122 : decode cX7_findsFronts 122 = .ok (.getfield 38, 3) := by decide +kernel
theorem dX7_findsFronts_125 : decode cX7_findsFronts 125 = .ok (.bipush 64, 2) := by decide +kernel
theorem dX7_findsFronts_127 : decode cX7_findsFronts 127 = .ok (.iload_n 2, 1) := by decide +kernel
theorem dX7_findsFronts_128 : decode cX7_findsFronts 128 = .ok (.iconst 1, 1) := by decide +kernel
theorem dX7_findsFronts_129 : decode cX7_findsFronts 129 = .ok (.iadd, 1) := by decide +kernel
theorem dX7_findsFronts_130 : decode cX7_findsFronts 130 = .ok (.imul, 1) := by decide +kernel
theorem dX7_findsFronts_131 : decode cX7_findsFronts 131 = .ok (.iload_n 3, 1) := by decide +kernel
theorem dX7_findsFronts_132 : decode cX7_findsFronts 132 = .ok (.iadd, 1) := by decide +kernel
theorem dX7_findsFronts_133 : decode cX7_findsFronts 133 = .ok (.iaload, 1) := by decide +kernel
theorem dX7_findsFronts_134 : decode cX7_findsFronts 134 = .ok (.aload_n 0, 1) := by decide +kernel
theorem dX7_findsFronts_135 : decode cX7_findsFronts 135 = .ok (.getfield 17, 3) := by decide +kernel
theorem dX7_findsFronts_138 : decode cX7_findsFronts 138 = .ok (.iload_n 2, 1) := by decide +kernel
theorem dX7_findsFronts_139 : decode cX7_findsFronts 139 = .ok (.iaload, 1) := by decide +kernel
theorem dX7_findsFronts_140 : decode cX7_findsFronts 140 = .ok (.iconst 4, 1) := by decide +kernel
theorem dX7_findsFronts_141 : decode cX7_findsFronts 141 = .ok (.if_icmp .ne 12, 3) := by decide +kernel
theorem dX7_findsFronts_144 : decode cX7_findsFronts 144 = .ok (.aload_n 0, 1) := by decide +kernel
theorem dX7_findsFronts_145 : decode cX7_findsFronts 145 = .ok (.getfield 20, 3) := by decide +kernel
theorem dX7_findsFronts_148 : decode cX7_findsFronts 148 = .ok (.iload_n 2, 1) := by decide +kernel
theorem dX7_findsFronts_149 : decode cX7_findsFronts 149 = .ok (.iaload, 1) := by decide +kernel
theorem dX7_findsFronts_150 : decode cX7_findsFronts 150 = .ok (.goto 4, 3) := by decide +kernel
theorem dX7_findsFronts_153 : decode cX7_findsFronts 153 = .ok (.iconst 0, 1) := by decide +kernel
theorem dX7_findsFronts_154 : decode cX7_findsFronts 154 = .ok (.invokestatic 166, 3) := by decide +kernel
theorem dX7_findsFronts_157 : decode cX7_findsFronts 157 = .ok (.invokevirtual 155, 3) := by decide +kernel
theorem dX7_findsFronts_160 : decode cX7_findsFronts 160 = .ok (.iinc 3 1, 3) := by decide +kernel
theorem dX7_findsFronts_163 : decode cX7_findsFronts 163 = .ok (.goto (-56), 3) := by decide +kernel
theorem dX7_findsFronts_166 : decode cX7_findsFronts 166 = .ok (.iinc 2 (-1), 3) := by decide +kernel
theorem dX7_findsFronts_169 : decode cX7_findsFronts 169 = .ok (.goto (-147), 3) := by decide +kernel
theorem dX7_findsFronts_172 : decode cX7_findsFronts 172 = .ok (.return_, 1) := by decide +kernel
theorem dX7_frontsTold_0 : decode cX7_frontsTold 0 = .ok (.aload_n 0, 1) := by decide +kernel
theorem dX7_frontsTold_1 : decode cX7_frontsTold 1 = .ok (.invokevirtual 112, 3) := by decide +kernel
theorem dX7_frontsTold_4 : decode cX7_frontsTold 4 = .ok (.aload_n 0, 1) := by decide +kernel
theorem dX7_frontsTold_5 : decode cX7_frontsTold 5 = .ok (.aload_n 0, 1) := by decide +kernel
theorem dX7_frontsTold_6 : decode cX7_frontsTold 6 = .ok (.getfield 13, 3) := by decide +kernel
theorem dX7_frontsTold_9 : decode cX7_frontsTold 9 = .ok (.invokevirtual 169, 3) := by decide +kernel
theorem dX7_frontsTold_12 : decode cX7_frontsTold 12 = .ok (.return_, 1) := by decide +kernel
theorem dX7_isPart_0 : decode cX7_isPart 0 = .ok (.aload_n 0, 1) := by decide +kernel
theorem dX7_isPart_1 : decode cX7_isPart 1 = .ok (.invokevirtual 112, 3) := by decide +kernel
theorem dX7_isPart_4 : decode cX7_isPart 4 = .ok (.iload_n 1, 1) := by decide +kernel
theorem dX7_isPart_5 : decode cX7_isPart 5 = .ok (.iconst 0, 1) := by decide +kernel
theorem dX7_isPart_6 : decode cX7_isPart 6 = .ok (.aload_n 0, 1) := by decide +kernel
theorem dX7_isPart_7 : decode cX7_isPart 7 = .ok (.getfield 93, 3) := by decide +kernel
theorem dX7_isPart_10 : decode cX7_isPart 10 = .ok (.iconst 1, 1) := by decide +kernel
theorem dX7_isPart_11 : decode cX7_isPart 11 = .ok (.isub, 1) := by decide +kernel
theorem dX7_isPart_12 : decode cX7_isPart 12 = .ok (.invokestatic 75, 3) := by decide +kernel
theorem dX7_isPart_15 : decode cX7_isPart 15 = .ok (.ireturn, 1) := by decide +kernel
theorem dX7_manyOf_0 : decode cX7_manyOf 0 = .ok (.aload_n 0, 1) := by decide +kernel
theorem dX7_manyOf_1 : decode cX7_manyOf 1 = .ok (.invokevirtual 172, 3) := by decide +kernel
theorem dX7_manyOf_4 : decode cX7_manyOf 4 = .ok (.aload_n 0, 1) := by decide +kernel
theorem dX7_manyOf_5 : decode cX7_manyOf 5 = .ok (.getfield 41, 3) := by decide +kernel
theorem dX7_manyOf_8 : decode cX7_manyOf 8 = .ok (.iload_n 1, 1) := by decide +kernel
theorem dX7_manyOf_9 : decode cX7_manyOf 9 = .ok (.iaload, 1) := by decide +kernel
theorem dX7_manyOf_10 : decode cX7_manyOf 10 = .ok (.ireturn, 1) := by decide +kernel
theorem dX7_partOf_0 : decode cX7_partOf 0 = .ok (.iload_n 2, 1) := by decide +kernel
theorem dX7_partOf_1 : decode cX7_partOf 1 = .ok (.ifCond .ne 12, 3) := by decide +kernel
theorem dX7_partOf_4 : decode cX7_partOf 4 = .ok (.aload_n 0, 1) := by decide +kernel
theorem dX7_partOf_5 : decode cX7_partOf 5 = .ok (.getfield 23, 3) := by decide +kernel
theorem dX7_partOf_8 : decode cX7_partOf 8 = .ok (.iload_n 1, 1) := by decide +kernel
theorem dX7_partOf_9 : decode cX7_partOf 9 = .ok (.iaload, 1) := by decide +kernel
theorem dX7_partOf_10 : decode cX7_partOf 10 = .ok (.goto 36, 3) := by decide +kernel
theorem dX7_partOf_13 : decode cX7_partOf 13 = .ok (.iload_n 2, 1) := by decide +kernel
theorem dX7_partOf_14 : decode cX7_partOf 14 = .ok (.iconst 1, 1) := by decide +kernel
theorem dX7_partOf_15 : decode cX7_partOf 15 = .ok (.if_icmp .ne 12, 3) := by decide +kernel
theorem dX7_partOf_18 : decode cX7_partOf 18 = .ok (.aload_n 0, 1) := by decide +kernel
theorem dX7_partOf_19 : decode cX7_partOf 19 = .ok (.getfield 26, 3) := by decide +kernel
theorem dX7_partOf_22 : decode cX7_partOf 22 = .ok (.iload_n 1, 1) := by decide +kernel
theorem dX7_partOf_23 : decode cX7_partOf 23 = .ok (.iaload, 1) := by decide +kernel
theorem dX7_partOf_24 : decode cX7_partOf 24 = .ok (.goto 22, 3) := by decide +kernel
theorem dX7_partOf_27 : decode cX7_partOf 27 = .ok (.iload_n 2, 1) := by decide +kernel
theorem dX7_partOf_28 : decode cX7_partOf 28 = .ok (.iconst 2, 1) := by decide +kernel
theorem dX7_partOf_29 : decode cX7_partOf 29 = .ok (.if_icmp .ne 11, 3) := by decide +kernel
theorem dX7_partOf_32 : decode cX7_partOf 32 = .ok (.aload_n 0, 1) := by decide +kernel
theorem dX7_partOf_33 : decode cX7_partOf 33 = .ok (.iload_n 1, 1) := by decide +kernel
theorem dX7_partOf_34 : decode cX7_partOf 34 = .ok (.invokevirtual 175, 3) := by decide +kernel
theorem dX7_partOf_37 : decode cX7_partOf 37 = .ok (.goto 9, 3) := by decide +kernel
theorem dX7_partOf_40 : decode cX7_partOf 40 = .ok (.aload_n 0, 1) := by decide +kernel
theorem dX7_partOf_41 : decode cX7_partOf 41 = .ok (.getfield 35, 3) := by decide +kernel
theorem dX7_partOf_44 : decode cX7_partOf 44 = .ok (.iload_n 1, 1) := by decide +kernel
theorem dX7_partOf_45 : decode cX7_partOf 45 = .ok (.iaload, 1) := by decide +kernel
theorem dX7_partOf_46 : decode cX7_partOf 46 = .ok (.ireturn, 1) := by decide +kernel
theorem dX7_part_0 : decode cX7_part 0 = .ok (.aload_n 0, 1) := by decide +kernel
theorem dX7_part_1 : decode cX7_part 1 = .ok (.iload_n 1, 1) := by decide +kernel
theorem dX7_part_2 : decode cX7_part 2 = .ok (.invokevirtual 178, 3) := by decide +kernel
theorem dX7_part_5 : decode cX7_part 5 = .ok (.ifCond .eq 21, 3) := by decide +kernel
theorem dX7_part_8 : decode cX7_part 8 = .ok (.iload_n 2, 1) := by decide +kernel
theorem dX7_part_9 : decode cX7_part 9 = .ok (.iconst 0, 1) := by decide +kernel
theorem dX7_part_10 : decode cX7_part 10 = .ok (.iconst 3, 1) := by decide +kernel
theorem dX7_part_11 : decode cX7_part 11 = .ok (.invokestatic 75, 3) := by decide +kernel
theorem dX7_part_14 : decode cX7_part 14 = .ok (.ifCond .eq 12, 3) := by decide +kernel
theorem dX7_part_17 : decode cX7_part 17 = .ok (.aload_n 0, 1) := by decide +kernel
theorem dX7_part_18 : decode cX7_part 18 = .ok (.iload_n 1, 1) := by decide +kernel
theorem dX7_part_19 : decode cX7_part 19 = .ok (.iload_n 2, 1) := by decide +kernel
theorem dX7_part_20 : decode cX7_part 20 = .ok (.invokevirtual 181, 3) := by decide +kernel
theorem dX7_part_23 : decode cX7_part 23 = .ok (.goto 5, 3) := by decide +kernel
theorem dX7_part_26 : decode cX7_part 26 = .ok (.bipush (-2), 2) := by decide +kernel
theorem dX7_part_28 : decode cX7_part 28 = .ok (.ireturn, 1) := by decide +kernel
theorem dX7_tellOf_0 : decode cX7_tellOf 0 = .ok (.iload_n 1, 1) := by decide +kernel
theorem dX7_tellOf_1 : decode cX7_tellOf 1 = .ok (.ifCond .ne 10, 3) := by decide +kernel
theorem dX7_tellOf_4 : decode cX7_tellOf 4 = .ok (.iload_n 0, 1) := by decide +kernel
theorem dX7_tellOf_5 : decode cX7_tellOf 5 = .ok (.invokestatic 121, 3) := by decide +kernel
theorem dX7_tellOf_8 : decode cX7_tellOf 8 = .ok (.goto 31, 3) := by decide +kernel
theorem dX7_tellOf_11 : decode cX7_tellOf 11 = .ok (.iload_n 1, 1) := by decide +kernel
theorem dX7_tellOf_12 : decode cX7_tellOf 12 = .ok (.iconst 1, 1) := by decide +kernel
theorem dX7_tellOf_13 : decode cX7_tellOf 13 = .ok (.if_icmp .ne 10, 3) := by decide +kernel
theorem dX7_tellOf_16 : decode cX7_tellOf 16 = .ok (.iload_n 0, 1) := by decide +kernel
theorem dX7_tellOf_17 : decode cX7_tellOf 17 = .ok (.invokestatic 124, 3) := by decide +kernel
theorem dX7_tellOf_20 : decode cX7_tellOf 20 = .ok (.goto 19, 3) := by decide +kernel
theorem dX7_tellOf_23 : decode cX7_tellOf 23 = .ok (.iload_n 1, 1) := by decide +kernel
theorem dX7_tellOf_24 : decode cX7_tellOf 24 = .ok (.iconst 2, 1) := by decide +kernel
theorem dX7_tellOf_25 : decode cX7_tellOf 25 = .ok (.if_icmp .ne 10, 3) := by decide +kernel
theorem dX7_tellOf_28 : decode cX7_tellOf 28 = .ok (.iload_n 0, 1) := by decide +kernel
theorem dX7_tellOf_29 : decode cX7_tellOf 29 = .ok (.invokestatic 127, 3) := by decide +kernel
theorem dX7_tellOf_32 : decode cX7_tellOf 32 = .ok (.goto 7, 3) := by decide +kernel
theorem dX7_tellOf_35 : decode cX7_tellOf 35 = .ok (.iload_n 0, 1) := by decide +kernel
theorem dX7_tellOf_36 : decode cX7_tellOf 36 = .ok (.invokestatic 118, 3) := by decide +kernel
theorem dX7_tellOf_39 : decode cX7_tellOf 39 = .ok (.ireturn, 1) := by decide +kernel
theorem dX7_frontierOf_0 : decode cX7_frontierOf 0 = .ok (.aload_n 0, 1) := by decide +kernel
theorem dX7_frontierOf_1 : decode cX7_frontierOf 1 = .ok (.invokevirtual 172, 3) := by decide +kernel
theorem dX7_frontierOf_4 : decode cX7_frontierOf 4 = .ok (.iload_n 2, 1) := by decide +kernel
theorem dX7_frontierOf_5 : decode cX7_frontierOf 5 = .ok (.aload_n 0, 1) := by decide +kernel
theorem dX7_frontierOf_6 : decode cX7_frontierOf 6 = .ok (.getfield 41, 3) := by decide +kernel
theorem dX7_frontierOf_9 : decode cX7_frontierOf 9 = .ok (.iload_n 1, 1) := by decide +kernel
theorem dX7_frontierOf_10 : decode cX7_frontierOf 10 = .ok (.iaload, 1) := by decide +kernel
theorem dX7_frontierOf_11 : decode cX7_frontierOf 11 = .ok (.if_icmp .ge 21, 3) := by decide +kernel
theorem dX7_frontierOf_14 : decode cX7_frontierOf 14 = .ok (.aload_n 0, 1) := by decide +kernel
theorem dX7_frontierOf_15 : decode cX7_frontierOf 15 = .ok (.getfield 38, 3) := by decide +kernel
theorem dX7_frontierOf_18 : decode cX7_frontierOf 18 = .ok (.bipush 64, 2) := by decide +kernel
theorem dX7_frontierOf_20 : decode cX7_frontierOf 20 = .ok (.iload_n 1, 1) := by decide +kernel
theorem dX7_frontierOf_21 : decode cX7_frontierOf 21 = .ok (.imul, 1) := by decide +kernel
theorem dX7_frontierOf_22 : decode cX7_frontierOf 22 = .ok (.iload_n 2, 1) := by decide +kernel
theorem dX7_frontierOf_23 : decode cX7_frontierOf 23 = .ok (.iadd, 1) := by decide +kernel
theorem dX7_frontierOf_24 : decode cX7_frontierOf 24 = .ok (.iaload, 1) := by decide +kernel
theorem dX7_frontierOf_25 : decode cX7_frontierOf 25 = .ok (.iload_n 3, 1) := by decide +kernel
theorem dX7_frontierOf_26 : decode cX7_frontierOf 26 = .ok (.invokestatic 184, 3) := by decide +kernel
theorem dX7_frontierOf_29 : decode cX7_frontierOf 29 = .ok (.goto 4, 3) := by decide +kernel
theorem dX7_frontierOf_32 : decode cX7_frontierOf 32 = .ok (.iconst (-1), 1) := by decide +kernel
theorem dX7_frontierOf_33 : decode cX7_frontierOf 33 = .ok (.ireturn, 1) := by decide +kernel
theorem dX7_frontier_0 : decode cX7_frontier 0 = .ok (.aload_n 0, 1) := by decide +kernel
theorem dX7_frontier_1 : decode cX7_frontier 1 = .ok (.iload_n 1, 1) := by decide +kernel
theorem dX7_frontier_2 : decode cX7_frontier 2 = .ok (.invokevirtual 178, 3) := by decide +kernel
theorem dX7_frontier_5 : decode cX7_frontier 5 = .ok (.ifCond .eq 32, 3) := by decide +kernel
theorem dX7_frontier_8 : decode cX7_frontier 8 = .ok (.iload_n 2, 1) := by decide +kernel
theorem dX7_frontier_9 : decode cX7_frontier 9 = .ok (.iconst 0, 1) := by decide +kernel
theorem dX7_frontier_10 : decode cX7_frontier 10 = .ok (.bipush 63, 2) := by decide +kernel
theorem dX7_frontier_12 : decode cX7_frontier 12 = .ok (.invokestatic 75, 3) := by decide +kernel
theorem dX7_frontier_15 : decode cX7_frontier 15 = .ok (.ifCond .eq 22, 3) := by decide +kernel
theorem dX7_frontier_18 : decode cX7_frontier 18 = .ok (.iload_n 3, 1) := by decide +kernel
theorem dX7_frontier_19 : decode cX7_frontier 19 = .ok (.iconst 0, 1) := by decide +kernel
theorem dX7_frontier_20 : decode cX7_frontier 20 = .ok (.iconst 3, 1) := by decide +kernel
theorem dX7_frontier_21 : decode cX7_frontier 21 = .ok (.invokestatic 75, 3) := by decide +kernel
theorem dX7_frontier_24 : decode cX7_frontier 24 = .ok (.ifCond .eq 13, 3) := by decide +kernel
theorem dX7_frontier_27 : decode cX7_frontier 27 = .ok (.aload_n 0, 1) := by decide +kernel
theorem dX7_frontier_28 : decode cX7_frontier 28 = .ok (.iload_n 1, 1) := by decide +kernel
theorem dX7_frontier_29 : decode cX7_frontier 29 = .ok (.iload_n 2, 1) := by decide +kernel
theorem dX7_frontier_30 : decode cX7_frontier 30 = .ok (.iload_n 3, 1) := by decide +kernel
theorem dX7_frontier_31 : decode cX7_frontier 31 = .ok (.invokevirtual 187, 3) := by decide +kernel
theorem dX7_frontier_34 : decode cX7_frontier 34 = .ok (.goto 5, 3) := by decide +kernel
theorem dX7_frontier_37 : decode cX7_frontier 37 = .ok (.bipush (-2), 2) := by decide +kernel
theorem dX7_frontier_39 : decode cX7_frontier 39 = .ok (.ireturn, 1) := by decide +kernel
theorem dX7_triedOf_0 : decode cX7_triedOf 0 = .ok (.aload_n 0, 1) := by decide +kernel
theorem dX7_triedOf_1 : decode cX7_triedOf 1 = .ok (.invokevirtual 172, 3) := by decide +kernel
theorem dX7_triedOf_4 : decode cX7_triedOf 4 = .ok (.iload_n 1, 1) := by decide +kernel
theorem dX7_triedOf_5 : decode cX7_triedOf 5 = .ok (.ifCond .ne 10, 3) := by decide +kernel
theorem dX7_triedOf_8 : decode cX7_triedOf 8 = .ok (.aload_n 0, 1) := by decide +kernel
theorem dX7_triedOf_9 : decode cX7_triedOf 9 = .ok (.getfield 138, 3) := by decide +kernel
theorem dX7_triedOf_12 : decode cX7_triedOf 12 = .ok (.goto 7, 3) := by decide +kernel
theorem dX7_triedOf_15 : decode cX7_triedOf 15 = .ok (.aload_n 0, 1) := by decide +kernel
theorem dX7_triedOf_16 : decode cX7_triedOf 16 = .ok (.getfield 148, 3) := by decide +kernel
theorem dX7_triedOf_19 : decode cX7_triedOf 19 = .ok (.ireturn, 1) := by decide +kernel
theorem dX7_tried_0 : decode cX7_tried 0 = .ok (.iload_n 1, 1) := by decide +kernel
theorem dX7_tried_1 : decode cX7_tried 1 = .ok (.iconst 0, 1) := by decide +kernel
theorem dX7_tried_2 : decode cX7_tried 2 = .ok (.iconst 1, 1) := by decide +kernel
theorem dX7_tried_3 : decode cX7_tried 3 = .ok (.invokestatic 75, 3) := by decide +kernel
theorem dX7_tried_6 : decode cX7_tried 6 = .ok (.ifCond .eq 11, 3) := by decide +kernel
theorem dX7_tried_9 : decode cX7_tried 9 = .ok (.aload_n 0, 1) := by decide +kernel
theorem dX7_tried_10 : decode cX7_tried 10 = .ok (.iload_n 1, 1) := by decide +kernel
theorem dX7_tried_11 : decode cX7_tried 11 = .ok (.invokevirtual 190, 3) := by decide +kernel
theorem dX7_tried_14 : decode cX7_tried 14 = .ok (.goto 5, 3) := by decide +kernel
theorem dX7_tried_17 : decode cX7_tried 17 = .ok (.bipush (-2), 2) := by decide +kernel
theorem dX7_tried_19 : decode cX7_tried 19 = .ok (.ireturn, 1) := by decide +kernel
theorem dX7_isAhead_0 : decode cX7_isAhead 0 = .ok (.aload_n 0, 1) := by decide +kernel
theorem dX7_isAhead_1 : decode cX7_isAhead 1 = .ok (.getfield 193, 3) := by decide +kernel
theorem dX7_isAhead_4 : decode cX7_isAhead 4 = .ok (.ifCond .eq 10, 3) := by decide +kernel
theorem dX7_isAhead_7 : decode cX7_isAhead 7 = .ok (.iload_n 1, 1) := by decide +kernel
theorem dX7_isAhead_8 : decode cX7_isAhead 8 = .ok (.invokestatic 127, 3) := by decide +kernel
theorem dX7_isAhead_11 : decode cX7_isAhead 11 = .ok (.goto 7, 3) := by decide +kernel
theorem dX7_isAhead_14 : decode cX7_isAhead 14 = .ok (.iload_n 1, 1) := by decide +kernel
theorem dX7_isAhead_15 : decode cX7_isAhead 15 = .ok (.invokestatic 121, 3) := by decide +kernel
theorem dX7_isAhead_18 : decode cX7_isAhead 18 = .ok (.istore_n 3, 1) := by decide +kernel
theorem dX7_isAhead_19 : decode cX7_isAhead 19 = .ok (.aload_n 0, 1) := by decide +kernel
theorem dX7_isAhead_20 : decode cX7_isAhead 20 = .ok (.getfield 193, 3) := by decide +kernel
theorem dX7_isAhead_23 : decode cX7_isAhead 23 = .ok (.ifCond .eq 10, 3) := by decide +kernel
theorem dX7_isAhead_26 : decode cX7_isAhead 26 = .ok (.iload_n 2, 1) := by decide +kernel
theorem dX7_isAhead_27 : decode cX7_isAhead 27 = .ok (.invokestatic 127, 3) := by decide +kernel
theorem dX7_isAhead_30 : decode cX7_isAhead 30 = .ok (.goto 7, 3) := by decide +kernel
theorem dX7_isAhead_33 : decode cX7_isAhead 33 = .ok (.iload_n 2, 1) := by decide +kernel
theorem dX7_isAhead_34 : decode cX7_isAhead 34 = .ok (.invokestatic 121, 3) := by decide +kernel
theorem dX7_isAhead_37 : decode cX7_isAhead 37 = .ok (.istore 4, 2) := by decide +kernel
theorem dX7_isAhead_39 : decode cX7_isAhead 39 = .ok (.aload_n 0, 1) := by decide +kernel
theorem dX7_isAhead_40 : decode cX7_isAhead 40 = .ok (.getfield 193, 3) := by decide +kernel
theorem dX7_isAhead_43 : decode cX7_isAhead 43 = .ok (.ifCond .eq 10, 3) := by decide +kernel
theorem dX7_isAhead_46 : decode cX7_isAhead 46 = .ok (.iload_n 1, 1) := by decide +kernel
theorem dX7_isAhead_47 : decode cX7_isAhead 47 = .ok (.invokestatic 121, 3) := by decide +kernel
theorem dX7_isAhead_50 : decode cX7_isAhead 50 = .ok (.goto 7, 3) := by decide +kernel
theorem dX7_isAhead_53 : decode cX7_isAhead 53 = .ok (.iload_n 1, 1) := by decide +kernel
theorem dX7_isAhead_54 : decode cX7_isAhead 54 = .ok (.invokestatic 127, 3) := by decide +kernel
theorem dX7_isAhead_57 : decode cX7_isAhead 57 = .ok (.istore 5, 2) := by decide +kernel
theorem dX7_isAhead_59 : decode cX7_isAhead 59 = .ok (.aload_n 0, 1) := by decide +kernel
theorem dX7_isAhead_60 : decode cX7_isAhead 60 = .ok (.getfield 193, 3) := by decide +kernel
theorem dX7_isAhead_63 : decode cX7_isAhead 63 = .ok (.ifCond .eq 10, 3) := by decide +kernel
theorem dX7_isAhead_66 : decode cX7_isAhead 66 = .ok (.iload_n 2, 1) := by decide +kernel
theorem dX7_isAhead_67 : decode cX7_isAhead 67 = .ok (.invokestatic 121, 3) := by decide +kernel
theorem dX7_isAhead_70 : decode cX7_isAhead 70 = .ok (.goto 7, 3) := by decide +kernel
theorem dX7_isAhead_73 : decode cX7_isAhead 73 = .ok (.iload_n 2, 1) := by decide +kernel
theorem dX7_isAhead_74 : decode cX7_isAhead 74 = .ok (.invokestatic 127, 3) := by decide +kernel
theorem dX7_isAhead_77 : decode cX7_isAhead 77 = .ok (.istore 6, 2) := by decide +kernel
theorem dX7_isAhead_79 : decode cX7_isAhead 79 = .ok (.iload_n 3, 1) := by decide +kernel
theorem dX7_isAhead_80 : decode cX7_isAhead 80 = .ok (.iload 4, 2) := by decide +kernel
theorem dX7_isAhead_82 : decode cX7_isAhead 82 = .ok (.if_icmp .eq 17, 3) := by decide +kernel
theorem dX7_isAhead_85 : decode cX7_isAhead 85 = .ok (.iload_n 3, 1) := by decide +kernel
theorem dX7_isAhead_86 : decode cX7_isAhead 86 = .ok (.iload 4, 2) := by decide +kernel
theorem dX7_isAhead_88 : decode cX7_isAhead 88 = .ok (.if_icmp .ge 7, 3) := by decide +kernel
theorem dX7_isAhead_91 : decode cX7_isAhead 91 = .ok (.iconst 1, 1) := by decide +kernel
theorem dX7_isAhead_92 : decode cX7_isAhead 92 = .ok (.goto 45, 3) := by decide +kernel
theorem dX7_isAhead_95 : decode cX7_isAhead 95 = .ok (.iconst 0, 1) := by decide +kernel
theorem dX7_isAhead_96 : decode cX7_isAhead 96 = .ok (.goto 41, 3) := by decide +kernel
theorem dX7_isAhead_99 : decode cX7_isAhead 99 = .ok (.iload 5, 2) := by decide +kernel
theorem dX7_isAhead_101 : decode cX7_isAhead 101 = .ok (.iload 6, 2) := by decide +kernel
theorem dX7_isAhead_103 : decode cX7_isAhead 103 = .ok (.if_icmp .eq 18, 3) := by decide +kernel
theorem dX7_isAhead_106 : decode cX7_isAhead 106 = .ok (.iload 5, 2) := by decide +kernel
theorem dX7_isAhead_108 : decode cX7_isAhead 108 = .ok (.iload 6, 2) := by decide +kernel
theorem dX7_isAhead_110 : decode cX7_isAhead 110 = .ok (.if_icmp .ge 7, 3) := by decide +kernel
theorem dX7_isAhead_113 : decode cX7_isAhead 113 = .ok (.iconst 1, 1) := by decide +kernel
theorem dX7_isAhead_114 : decode cX7_isAhead 114 = .ok (.goto 23, 3) := by decide +kernel
theorem dX7_isAhead_117 : decode cX7_isAhead 117 = .ok (.iconst 0, 1) := by decide +kernel
theorem dX7_isAhead_118 : decode cX7_isAhead 118 = .ok (.goto 19, 3) := by decide +kernel
theorem dX7_isAhead_121 : decode cX7_isAhead 121 = .ok (.iload_n 1, 1) := by decide +kernel
theorem dX7_isAhead_122 : decode cX7_isAhead 122 = .ok (.invokestatic 124, 3) := by decide +kernel
theorem dX7_isAhead_125 : decode cX7_isAhead 125 = .ok (.iload_n 2, 1) := by decide +kernel
theorem dX7_isAhead_126 : decode cX7_isAhead 126 = .ok (.invokestatic 124, 3) := by decide +kernel
theorem dX7_isAhead_129 : decode cX7_isAhead 129 = .ok (.if_icmp .ge 7, 3) := by decide +kernel
theorem dX7_isAhead_132 : decode cX7_isAhead 132 = .ok (.iconst 1, 1) := by decide +kernel
theorem dX7_isAhead_133 : decode cX7_isAhead 133 = .ok (.goto 4, 3) := by decide +kernel
theorem dX7_isAhead_136 : decode cX7_isAhead 136 = .ok (.iconst 0, 1) := by decide +kernel
theorem dX7_isAhead_137 : decode cX7_isAhead 137 = .ok (.ireturn, 1) := by decide +kernel
theorem dX7_findsBest_0 : decode cX7_findsBest 0 = .ok (.aload_n 0, 1) := by decide +kernel
theorem dX7_findsBest_1 : decode cX7_findsBest 1 = .ok (.invokevirtual 172, 3) := by decide +kernel
theorem dX7_findsBest_4 : decode cX7_findsBest 4 = .ok (.aload_n 0, 1) := by decide +kernel
theorem dX7_findsBest_5 : decode cX7_findsBest 5 = .ok (.iconst (-1), 1) := by decide +kernel
theorem dX7_findsBest_6 : decode cX7_findsBest 6 = .ok (.putfield 197, 3) := by decide +kernel
theorem dX7_findsBest_9 : decode cX7_findsBest 9 = .ok (.aload_n 0, 1) := by decide +kernel
theorem dX7_findsBest_10 : decode cX7_findsBest 10 = .ok (.aload_n 0, 1) := by decide +kernel
theorem dX7_findsBest_11 : decode cX7_findsBest 11 = .ok (.getfield 93, 3) := by decide +kernel
theorem dX7_findsBest_14 : decode cX7_findsBest 14 = .ok (.ifCond .le 16, 3) := by decide +kernel
theorem dX7_findsBest_17 : decode cX7_findsBest 17 = .ok (.aload_n 0, 1) := by decide +kernel
theorem dX7_findsBest_18 : decode cX7_findsBest 18 = .ok (.getfield 41, 3) := by decide +kernel
theorem dX7_findsBest_21 : decode cX7_findsBest 21 = .ok (.iconst 0, 1) := by decide +kernel
theorem dX7_findsBest_22 : decode cX7_findsBest 22 = .ok (.iaload, 1) := by decide +kernel
theorem dX7_findsBest_23 : decode cX7_findsBest 23 = .ok (.ifCond .ne 7, 3) := by decide +kernel
theorem dX7_findsBest_26 : decode cX7_findsBest 26 = .ok (.iconst 1, 1) := by decide +kernel
theorem dX7_findsBest_27 : decode cX7_findsBest 27 = .ok (.goto 4, 3) := by decide +kernel
theorem dX7_findsBest_30 : decode cX7_findsBest 30 = .ok (.iconst 0, 1) := by decide +kernel
theorem dX7_findsBest_31 : decode cX7_findsBest 31 = .ok (.putfield 193, 3) := by decide +kernel
theorem dX7_findsBest_34 : decode cX7_findsBest 34 = .ok (.aload_n 0, 1) := by decide +kernel
theorem dX7_findsBest_35 : decode cX7_findsBest 35 = .ok (.getfield 193, 3) := by decide +kernel
theorem dX7_findsBest_38 : decode cX7_findsBest 38 = .ok (.ifCond .eq 10, 3) := by decide +kernel
theorem dX7_findsBest_41 : decode cX7_findsBest 41 = .ok (.aload_n 0, 1) := by decide +kernel
theorem dX7_findsBest_42 : decode cX7_findsBest 42 = .ok (.sipush 500, 3) := by decide +kernel
theorem dX7_findsBest_45 : decode cX7_findsBest 45 = .ok (.invokevirtual 169, 3) := by decide +kernel
theorem dX7_findsBest_48 : decode cX7_findsBest 48 = .ok (.iconst 0, 1) := by decide +kernel
theorem dX7_findsBest_49 : decode cX7_findsBest 49 = .ok (.istore_n 1, 1) := by decide +kernel
theorem dX7_findsBest_50 : decode cX7_findsBest 50 = .ok (.iload_n 1, 1) := by decide +kernel
theorem dX7_findsBest_51 : decode cX7_findsBest 51 = .ok (.aload_n 0, 1) := by decide +kernel
theorem dX7_findsBest_52 : decode cX7_findsBest 52 = .ok (.getfield 41, 3) := by decide +kernel
theorem dX7_findsBest_55 : decode cX7_findsBest 55 = .ok (.iconst 0, 1) := by decide +kernel
theorem dX7_findsBest_56 : decode cX7_findsBest 56 = .ok (.iaload, 1) := by decide +kernel
theorem dX7_findsBest_57 : decode cX7_findsBest 57 = .ok (.if_icmp .ge 58, 3) := by decide +kernel
theorem dX7_findsBest_60 : decode cX7_findsBest 60 = .ok (.aload_n 0, 1) := by decide +kernel
theorem dX7_findsBest_61 : decode cX7_findsBest 61 = .ok (.getfield 93, 3) := by decide +kernel
theorem dX7_findsBest_64 : decode cX7_findsBest 64 = .ok (.ifCond .le 51, 3) := by decide +kernel
theorem dX7_findsBest_67 : decode cX7_findsBest 67 = .ok (.aload_n 0, 1) := by decide +kernel
theorem dX7_findsBest_68 : decode cX7_findsBest 68 = .ok (.aload_n 0, 1) := by decide +kernel
theorem dX7_findsBest_69 : decode cX7_findsBest 69 = .ok (.getfield 197, 3) := by decide +kernel
theorem dX7_findsBest_72 : decode cX7_findsBest 72 = .ok (.iconst (-1), 1) := by decide +kernel
theorem dX7_findsBest_73 : decode cX7_findsBest 73 = .ok (.if_icmp .eq 20, 3) := by decide +kernel
theorem dX7_findsBest_76 : decode cX7_findsBest 76 = .ok (.aload_n 0, 1) := by decide +kernel
theorem dX7_findsBest_77 : decode cX7_findsBest 77 = .ok (.aload_n 0, 1) := by decide +kernel
theorem dX7_findsBest_78 : decode cX7_findsBest 78 = .ok (.getfield 38, 3) := by decide +kernel
theorem dX7_findsBest_81 : decode cX7_findsBest 81 = .ok (.iload_n 1, 1) := by decide +kernel
theorem dX7_findsBest_82 : decode cX7_findsBest 82 = .ok (.iaload, 1) := by decide +kernel
theorem dX7_findsBest_83 : decode cX7_findsBest 83 = .ok (.aload_n 0, 1) := by decide +kernel
theorem dX7_findsBest_84 : decode cX7_findsBest 84 = .ok (.getfield 197, 3) := by decide +kernel
theorem dX7_findsBest_87 : decode cX7_findsBest 87 = .ok (.invokevirtual 200, 3) := by decide +kernel
theorem dX7_findsBest_90 : decode cX7_findsBest 90 = .ok (.ifCond .eq 12, 3) := by decide +kernel
theorem dX7_findsBest_93 : decode cX7_findsBest 93 = .ok (.aload_n 0, 1) := by decide +kernel
theorem dX7_findsBest_94 : decode cX7_findsBest 94 = .ok (.getfield 38, 3) := by decide +kernel
theorem dX7_findsBest_97 : decode cX7_findsBest 97 = .ok (.iload_n 1, 1) := by decide +kernel
theorem dX7_findsBest_98 : decode cX7_findsBest 98 = .ok (.iaload, 1) := by decide +kernel
theorem dX7_findsBest_99 : decode cX7_findsBest 99 = .ok (.goto 7, 3) := by decide +kernel
theorem dX7_findsBest_102 : decode cX7_findsBest 102 = .ok (.aload_n 0, 1) := by decide +kernel
theorem dX7_findsBest_103 : decode cX7_findsBest 103 = .ok (.getfield 197, 3) := by decide +kernel
theorem dX7_findsBest_106 : decode cX7_findsBest 106 = .ok (.putfield 197, 3) := by decide +kernel
theorem dX7_findsBest_109 : decode cX7_findsBest 109 = .ok (.iinc 1 1, 3) := by decide +kernel
theorem dX7_findsBest_112 : decode cX7_findsBest 112 = .ok (.goto (-62), 3) := by decide +kernel
theorem dX7_findsBest_115 : decode cX7_findsBest 115 = .ok (.return_, 1) := by decide +kernel
theorem dX7_bestOf_0 : decode cX7_bestOf 0 = .ok (.aload_n 0, 1) := by decide +kernel
theorem dX7_bestOf_1 : decode cX7_bestOf 1 = .ok (.invokevirtual 203, 3) := by decide +kernel
theorem dX7_bestOf_4 : decode cX7_bestOf 4 = .ok (.aload_n 0, 1) := by decide +kernel
theorem dX7_bestOf_5 : decode cX7_bestOf 5 = .ok (.getfield 197, 3) := by decide +kernel
theorem dX7_bestOf_8 : decode cX7_bestOf 8 = .ok (.iconst (-1), 1) := by decide +kernel
theorem dX7_bestOf_9 : decode cX7_bestOf 9 = .ok (.if_icmp .ne 7, 3) := by decide +kernel
theorem dX7_bestOf_12 : decode cX7_bestOf 12 = .ok (.iconst (-1), 1) := by decide +kernel
theorem dX7_bestOf_13 : decode cX7_bestOf 13 = .ok (.goto 31, 3) := by decide +kernel
theorem dX7_bestOf_16 : decode cX7_bestOf 16 = .ok (.iload_n 1, 1) := by decide +kernel
theorem dX7_bestOf_17 : decode cX7_bestOf 17 = .ok (.iconst 4, 1) := by decide +kernel
theorem dX7_bestOf_18 : decode cX7_bestOf 18 = .ok (.if_icmp .ne 18, 3) := by decide +kernel
theorem dX7_bestOf_21 : decode cX7_bestOf 21 = .ok (.aload_n 0, 1) := by decide +kernel
theorem dX7_bestOf_22 : decode cX7_bestOf 22 = .ok (.getfield 193, 3) := by decide +kernel
theorem dX7_bestOf_25 : decode cX7_bestOf 25 = .ok (.ifCond .eq 7, 3) := by decide +kernel
theorem dX7_bestOf_28 : decode cX7_bestOf 28 = .ok (.iconst 1, 1) := by decide +kernel
theorem dX7_bestOf_29 : decode cX7_bestOf 29 = .ok (.goto 15, 3) := by decide +kernel
theorem dX7_bestOf_32 : decode cX7_bestOf 32 = .ok (.iconst 0, 1) := by decide +kernel
theorem dX7_bestOf_33 : decode cX7_bestOf 33 = .ok (.goto 11, 3) := by decide +kernel
theorem dX7_bestOf_36 : decode cX7_bestOf 36 = .ok (.aload_n 0, 1) := by decide +kernel
theorem dX7_bestOf_37 : decode cX7_bestOf 37 = .ok (.getfield 197, 3) := by decide +kernel
theorem dX7_bestOf_40 : decode cX7_bestOf 40 = .ok (.iload_n 1, 1) := by decide +kernel
theorem dX7_bestOf_41 : decode cX7_bestOf 41 = .ok (.invokestatic 184, 3) := by decide +kernel
theorem dX7_bestOf_44 : decode cX7_bestOf 44 = .ok (.ireturn, 1) := by decide +kernel
theorem dX7_best_0 : decode cX7_best 0 = .ok (.iload_n 1, 1) := by decide +kernel
theorem dX7_best_1 : decode cX7_best 1 = .ok (.iconst 0, 1) := by decide +kernel
theorem dX7_best_2 : decode cX7_best 2 = .ok (.iconst 4, 1) := by decide +kernel
theorem dX7_best_3 : decode cX7_best 3 = .ok (.invokestatic 75, 3) := by decide +kernel
theorem dX7_best_6 : decode cX7_best 6 = .ok (.ifCond .eq 11, 3) := by decide +kernel
theorem dX7_best_9 : decode cX7_best 9 = .ok (.aload_n 0, 1) := by decide +kernel
theorem dX7_best_10 : decode cX7_best 10 = .ok (.iload_n 1, 1) := by decide +kernel
theorem dX7_best_11 : decode cX7_best 11 = .ok (.invokevirtual 206, 3) := by decide +kernel
theorem dX7_best_14 : decode cX7_best 14 = .ok (.goto 5, 3) := by decide +kernel
theorem dX7_best_17 : decode cX7_best 17 = .ok (.bipush (-2), 2) := by decide +kernel
theorem dX7_best_19 : decode cX7_best 19 = .ok (.ireturn, 1) := by decide +kernel
theorem dX7_shapeBy_0 : decode cX7_shapeBy 0 = .ok (.aload_n 0, 1) := by decide +kernel
theorem dX7_shapeBy_1 : decode cX7_shapeBy 1 = .ok (.getfield 17, 3) := by decide +kernel
theorem dX7_shapeBy_4 : decode cX7_shapeBy 4 = .ok (.iload_n 1, 1) := by decide +kernel
theorem dX7_shapeBy_5 : decode cX7_shapeBy 5 = .ok (.iaload, 1) := by decide +kernel
theorem dX7_shapeBy_6 : decode cX7_shapeBy 6 = .ok (.istore_n 3, 1) := by decide +kernel
theorem dX7_shapeBy_7 : decode cX7_shapeBy 7 = .ok (.iload_n 3, 1) := by decide +kernel
theorem dX7_shapeBy_8 : decode cX7_shapeBy 8 = .ok (.ifCond .ne 7, 3) := by decide +kernel
theorem dX7_shapeBy_11 : decode cX7_shapeBy 11 = .ok (.iconst (-1), 1) := by decide +kernel
theorem dX7_shapeBy_12 : decode cX7_shapeBy 12 = .ok (.goto 11, 3) := by decide +kernel
theorem dX7_shapeBy_15 : decode cX7_shapeBy 15 = .ok (.aload_n 0, 1) := by decide +kernel
theorem dX7_shapeBy_16 : decode cX7_shapeBy 16 = .ok (.getfield 44, 3) := by decide +kernel
theorem dX7_shapeBy_19 : decode cX7_shapeBy 19 = .ok (.iload_n 1, 1) := by decide +kernel
theorem dX7_shapeBy_20 : decode cX7_shapeBy 20 = .ok (.iconst 1, 1) := by decide +kernel
theorem dX7_shapeBy_21 : decode cX7_shapeBy 21 = .ok (.iadd, 1) := by decide +kernel
theorem dX7_shapeBy_22 : decode cX7_shapeBy 22 = .ok (.iaload, 1) := by decide +kernel
theorem dX7_shapeBy_23 : decode cX7_shapeBy 23 = .ok (.istore 4, 2) := by decide +kernel
theorem dX7_shapeBy_25 : decode cX7_shapeBy 25 = .ok (.iload_n 3, 1) := by decide +kernel
theorem dX7_shapeBy_26 : decode cX7_shapeBy 26 = .ok (.invokestatic 102, 3) := by decide +kernel
theorem dX7_shapeBy_29 : decode cX7_shapeBy 29 = .ok (.ifCond .eq 17, 3) := by decide +kernel
theorem dX7_shapeBy_32 : decode cX7_shapeBy 32 = .ok (.aload_n 0, 1) := by decide +kernel
theorem dX7_shapeBy_33 : decode cX7_shapeBy 33 = .ok (.getfield 44, 3) := by decide +kernel
theorem dX7_shapeBy_36 : decode cX7_shapeBy 36 = .ok (.aload_n 0, 1) := by decide +kernel
theorem dX7_shapeBy_37 : decode cX7_shapeBy 37 = .ok (.getfield 32, 3) := by decide +kernel
theorem dX7_shapeBy_40 : decode cX7_shapeBy 40 = .ok (.iload_n 1, 1) := by decide +kernel
theorem dX7_shapeBy_41 : decode cX7_shapeBy 41 = .ok (.iaload, 1) := by decide +kernel
theorem dX7_shapeBy_42 : decode cX7_shapeBy 42 = .ok (.iaload, 1) := by decide +kernel
theorem dX7_shapeBy_43 : decode cX7_shapeBy 43 = .ok (.goto 4, 3) := by decide +kernel
theorem dX7_shapeBy_46 : decode cX7_shapeBy 46 = .ok (.iconst (-1), 1) := by decide +kernel
theorem dX7_shapeBy_47 : decode cX7_shapeBy 47 = .ok (.istore 5, 2) := by decide +kernel
theorem dX7_shapeBy_49 : decode cX7_shapeBy 49 = .ok (.iload_n 3, 1) := by decide +kernel
theorem dX7_shapeBy_50 : decode cX7_shapeBy 50 = .ok (.tableswitch 121 0 5 #[38, 121, 121, 56, 77, 99], 38) := by decide +kernel
theorem dX7_shapeBy_88 : decode cX7_shapeBy 88 = .ok (.iconst 1, 1) := by decide +kernel
theorem dX7_shapeBy_89 : decode cX7_shapeBy 89 = .ok (.aload_n 0, 1) := by decide +kernel
theorem dX7_shapeBy_90 : decode cX7_shapeBy 90 = .ok (.getfield 20, 3) := by decide +kernel
theorem dX7_shapeBy_93 : decode cX7_shapeBy 93 = .ok (.iload_n 1, 1) := by decide +kernel
theorem dX7_shapeBy_94 : decode cX7_shapeBy 94 = .ok (.iaload, 1) := by decide +kernel
theorem dX7_shapeBy_95 : decode cX7_shapeBy 95 = .ok (.aload_n 0, 1) := by decide +kernel
theorem dX7_shapeBy_96 : decode cX7_shapeBy 96 = .ok (.getfield 20, 3) := by decide +kernel
theorem dX7_shapeBy_99 : decode cX7_shapeBy 99 = .ok (.iload_n 1, 1) := by decide +kernel
theorem dX7_shapeBy_100 : decode cX7_shapeBy 100 = .ok (.iaload, 1) := by decide +kernel
theorem dX7_shapeBy_101 : decode cX7_shapeBy 101 = .ok (.iconst 0, 1) := by decide +kernel
theorem dX7_shapeBy_102 : decode cX7_shapeBy 102 = .ok (.invokestatic 134, 3) := by decide +kernel
theorem dX7_shapeBy_105 : decode cX7_shapeBy 105 = .ok (.ireturn, 1) := by decide +kernel
theorem dX7_shapeBy_106 : decode cX7_shapeBy 106 = .ok (.iload_n 2, 1) := by decide +kernel
theorem dX7_shapeBy_107 : decode cX7_shapeBy 107 = .ok (.aload_n 0, 1) := by decide +kernel
theorem dX7_shapeBy_108 : decode cX7_shapeBy 108 = .ok (.getfield 20, 3) := by decide +kernel
theorem dX7_shapeBy_111 : decode cX7_shapeBy 111 = .ok (.iload_n 1, 1) := by decide +kernel
theorem dX7_shapeBy_112 : decode cX7_shapeBy 112 = .ok (.iaload, 1) := by decide +kernel
theorem dX7_shapeBy_113 : decode cX7_shapeBy 113 = .ok (.invokestatic 209, 3) := by decide +kernel
theorem dX7_shapeBy_116 : decode cX7_shapeBy 116 = .ok (.ifCond .eq 8, 3) := by decide +kernel
theorem dX7_shapeBy_119 : decode cX7_shapeBy 119 = .ok (.iload 5, 2) := by decide +kernel
theorem dX7_shapeBy_121 : decode cX7_shapeBy 121 = .ok (.goto 5, 3) := by decide +kernel
theorem dX7_shapeBy_124 : decode cX7_shapeBy 124 = .ok (.iload 4, 2) := by decide +kernel
theorem dX7_shapeBy_126 : decode cX7_shapeBy 126 = .ok (.ireturn, 1) := by decide +kernel
theorem dX7_shapeBy_127 : decode cX7_shapeBy 127 = .ok (.iload 4, 2) := by decide +kernel
theorem dX7_shapeBy_129 : decode cX7_shapeBy 129 = .ok (.iconst (-1), 1) := by decide +kernel
theorem dX7_shapeBy_130 : decode cX7_shapeBy 130 = .ok (.if_icmp .ne 7, 3) := by decide +kernel
theorem dX7_shapeBy_133 : decode cX7_shapeBy 133 = .ok (.iconst (-1), 1) := by decide +kernel
theorem dX7_shapeBy_134 : decode cX7_shapeBy 134 = .ok (.goto 14, 3) := by decide +kernel
theorem dX7_shapeBy_137 : decode cX7_shapeBy 137 = .ok (.iload 4, 2) := by decide +kernel
theorem dX7_shapeBy_139 : decode cX7_shapeBy 139 = .ok (.aload_n 0, 1) := by decide +kernel
theorem dX7_shapeBy_140 : decode cX7_shapeBy 140 = .ok (.getfield 20, 3) := by decide +kernel
theorem dX7_shapeBy_143 : decode cX7_shapeBy 143 = .ok (.iload_n 1, 1) := by decide +kernel
theorem dX7_shapeBy_144 : decode cX7_shapeBy 144 = .ok (.iaload, 1) := by decide +kernel
theorem dX7_shapeBy_145 : decode cX7_shapeBy 145 = .ok (.invokestatic 166, 3) := by decide +kernel
theorem dX7_shapeBy_148 : decode cX7_shapeBy 148 = .ok (.ireturn, 1) := by decide +kernel
theorem dX7_shapeBy_149 : decode cX7_shapeBy 149 = .ok (.iload 4, 2) := by decide +kernel
theorem dX7_shapeBy_151 : decode cX7_shapeBy 151 = .ok (.iconst (-1), 1) := by decide +kernel
theorem dX7_shapeBy_152 : decode cX7_shapeBy 152 = .ok (.if_icmp .eq 12, 3) := by decide +kernel
theorem dX7_shapeBy_155 : decode cX7_shapeBy 155 = .ok (.iload 4, 2) := by decide +kernel
theorem dX7_shapeBy_157 : decode cX7_shapeBy 157 = .ok (.invokestatic 121, 3) := by decide +kernel
theorem dX7_shapeBy_160 : decode cX7_shapeBy 160 = .ok (.iconst 1, 1) := by decide +kernel
theorem dX7_shapeBy_161 : decode cX7_shapeBy 161 = .ok (.if_icmp .le 7, 3) := by decide +kernel
theorem dX7_shapeBy_164 : decode cX7_shapeBy 164 = .ok (.iconst (-1), 1) := by decide +kernel
theorem dX7_shapeBy_165 : decode cX7_shapeBy 165 = .ok (.goto 5, 3) := by decide +kernel
theorem dX7_shapeBy_168 : decode cX7_shapeBy 168 = .ok (.iload 4, 2) := by decide +kernel
theorem dX7_shapeBy_170 : decode cX7_shapeBy 170 = .ok (.ireturn, 1) := by decide +kernel
theorem dX7_shapeBy_171 : decode cX7_shapeBy 171 = .ok (.iload 4, 2) := by decide +kernel
theorem dX7_shapeBy_173 : decode cX7_shapeBy 173 = .ok (.iconst (-1), 1) := by decide +kernel
theorem dX7_shapeBy_174 : decode cX7_shapeBy 174 = .ok (.if_icmp .eq 9, 3) := by decide +kernel
theorem dX7_shapeBy_177 : decode cX7_shapeBy 177 = .ok (.iload 5, 2) := by decide +kernel
theorem dX7_shapeBy_179 : decode cX7_shapeBy 179 = .ok (.iconst (-1), 1) := by decide +kernel
theorem dX7_shapeBy_180 : decode cX7_shapeBy 180 = .ok (.if_icmp .ne 7, 3) := by decide +kernel
theorem dX7_shapeBy_183 : decode cX7_shapeBy 183 = .ok (.iconst (-1), 1) := by decide +kernel
theorem dX7_shapeBy_184 : decode cX7_shapeBy 184 = .ok (.goto 11, 3) := by decide +kernel
theorem dX7_shapeBy_187 : decode cX7_shapeBy 187 = .ok (.iload_n 3, 1) := by decide +kernel
theorem dX7_shapeBy_188 : decode cX7_shapeBy 188 = .ok (.iload 4, 2) := by decide +kernel
theorem dX7_shapeBy_190 : decode cX7_shapeBy 190 = .ok (.iload 5, 2) := by decide +kernel
theorem dX7_shapeBy_192 : decode cX7_shapeBy 192 = .ok (.invokestatic 151, 3) := by decide +kernel
theorem dX7_shapeBy_195 : decode cX7_shapeBy 195 = .ok (.ireturn, 1) := by decide +kernel
theorem dX7_shapeOf_0 : decode cX7_shapeOf 0 = .ok (.aload_n 0, 1) := by decide +kernel
theorem dX7_shapeOf_1 : decode cX7_shapeOf 1 = .ok (.getfield 93, 3) := by decide +kernel
theorem dX7_shapeOf_4 : decode cX7_shapeOf 4 = .ok (.iconst 1, 1) := by decide +kernel
theorem dX7_shapeOf_5 : decode cX7_shapeOf 5 = .ok (.isub, 1) := by decide +kernel
theorem dX7_shapeOf_6 : decode cX7_shapeOf 6 = .ok (.istore_n 2, 1) := by decide +kernel
theorem dX7_shapeOf_7 : decode cX7_shapeOf 7 = .ok (.iload_n 2, 1) := by decide +kernel
theorem dX7_shapeOf_8 : decode cX7_shapeOf 8 = .ok (.ifCond .lt 21, 3) := by decide +kernel
theorem dX7_shapeOf_11 : decode cX7_shapeOf 11 = .ok (.aload_n 0, 1) := by decide +kernel
theorem dX7_shapeOf_12 : decode cX7_shapeOf 12 = .ok (.getfield 44, 3) := by decide +kernel
theorem dX7_shapeOf_15 : decode cX7_shapeOf 15 = .ok (.iload_n 2, 1) := by decide +kernel
theorem dX7_shapeOf_16 : decode cX7_shapeOf 16 = .ok (.aload_n 0, 1) := by decide +kernel
theorem dX7_shapeOf_17 : decode cX7_shapeOf 17 = .ok (.iload_n 2, 1) := by decide +kernel
theorem dX7_shapeOf_18 : decode cX7_shapeOf 18 = .ok (.iload_n 1, 1) := by decide +kernel
theorem dX7_shapeOf_19 : decode cX7_shapeOf 19 = .ok (.invokevirtual 212, 3) := by decide +kernel
theorem dX7_shapeOf_22 : decode cX7_shapeOf 22 = .ok (.iastore, 1) := by decide +kernel
theorem dX7_shapeOf_23 : decode cX7_shapeOf 23 = .ok (.iinc 2 (-1), 3) := by decide +kernel
theorem dX7_shapeOf_26 : decode cX7_shapeOf 26 = .ok (.goto (-19), 3) := by decide +kernel
theorem dX7_shapeOf_29 : decode cX7_shapeOf 29 = .ok (.aload_n 0, 1) := by decide +kernel
theorem dX7_shapeOf_30 : decode cX7_shapeOf 30 = .ok (.getfield 93, 3) := by decide +kernel
theorem dX7_shapeOf_33 : decode cX7_shapeOf 33 = .ok (.ifCond .ne 7, 3) := by decide +kernel
theorem dX7_shapeOf_36 : decode cX7_shapeOf 36 = .ok (.iconst (-1), 1) := by decide +kernel
theorem dX7_shapeOf_37 : decode cX7_shapeOf 37 = .ok (.goto 9, 3) := by decide +kernel
theorem dX7_shapeOf_40 : decode cX7_shapeOf 40 = .ok (.aload_n 0, 1) := by decide +kernel
theorem dX7_shapeOf_41 : decode cX7_shapeOf 41 = .ok (.getfield 44, 3) := by decide +kernel
theorem dX7_shapeOf_44 : decode cX7_shapeOf 44 = .ok (.iconst 0, 1) := by decide +kernel
theorem dX7_shapeOf_45 : decode cX7_shapeOf 45 = .ok (.iaload, 1) := by decide +kernel
theorem dX7_shapeOf_46 : decode cX7_shapeOf 46 = .ok (.ireturn, 1) := by decide +kernel
theorem dX7_findsWays_0 : decode cX7_findsWays 0 = .ok (.aload_n 0, 1) := by decide +kernel
theorem dX7_findsWays_1 : decode cX7_findsWays 1 = .ok (.invokevirtual 112, 3) := by decide +kernel
theorem dX7_findsWays_4 : decode cX7_findsWays 4 = .ok (.iconst 0, 1) := by decide +kernel
theorem dX7_findsWays_5 : decode cX7_findsWays 5 = .ok (.istore_n 1, 1) := by decide +kernel
theorem dX7_findsWays_6 : decode cX7_findsWays 6 = .ok (.iload_n 1, 1) := by decide +kernel
theorem dX7_findsWays_7 : decode cX7_findsWays 7 = .ok (.bipush 64, 2) := by decide +kernel
theorem dX7_findsWays_9 : decode cX7_findsWays 9 = .ok (.if_icmp .ge 20, 3) := by decide +kernel
theorem dX7_findsWays_12 : decode cX7_findsWays 12 = .ok (.aload_n 0, 1) := by decide +kernel
theorem dX7_findsWays_13 : decode cX7_findsWays 13 = .ok (.getfield 47, 3) := by decide +kernel
theorem dX7_findsWays_16 : decode cX7_findsWays 16 = .ok (.iload_n 1, 1) := by decide +kernel
theorem dX7_findsWays_17 : decode cX7_findsWays 17 = .ok (.aload_n 0, 1) := by decide +kernel
theorem dX7_findsWays_18 : decode cX7_findsWays 18 = .ok (.iload_n 1, 1) := by decide +kernel
theorem dX7_findsWays_19 : decode cX7_findsWays 19 = .ok (.invokevirtual 215, 3) := by decide +kernel
theorem dX7_findsWays_22 : decode cX7_findsWays 22 = .ok (.iastore, 1) := by decide +kernel
theorem dX7_findsWays_23 : decode cX7_findsWays 23 = .ok (.iinc 1 1, 3) := by decide +kernel
theorem dX7_findsWays_26 : decode cX7_findsWays 26 = .ok (.goto (-20), 3) := by decide +kernel
theorem dX7_findsWays_29 : decode cX7_findsWays 29 = .ok (.return_, 1) := by decide +kernel
theorem dX7_wayFor_0 : decode cX7_wayFor 0 = .ok (.aload_n 0, 1) := by decide +kernel
theorem dX7_wayFor_1 : decode cX7_wayFor 1 = .ok (.invokevirtual 112, 3) := by decide +kernel
theorem dX7_wayFor_4 : decode cX7_wayFor 4 = .ok (.aload_n 0, 1) := by decide +kernel
theorem dX7_wayFor_5 : decode cX7_wayFor 5 = .ok (.iload_n 1, 1) := by decide +kernel
theorem dX7_wayFor_6 : decode cX7_wayFor 6 = .ok (.invokevirtual 215, 3) := by decide +kernel
theorem dX7_wayFor_9 : decode cX7_wayFor 9 = .ok (.istore_n 3, 1) := by decide +kernel
theorem dX7_wayFor_10 : decode cX7_wayFor 10 = .ok (.iload_n 3, 1) := by decide +kernel
theorem dX7_wayFor_11 : decode cX7_wayFor 11 = .ok (.iconst (-1), 1) := by decide +kernel
theorem dX7_wayFor_12 : decode cX7_wayFor 12 = .ok (.if_icmp .ne 7, 3) := by decide +kernel
theorem dX7_wayFor_15 : decode cX7_wayFor 15 = .ok (.iconst (-1), 1) := by decide +kernel
theorem dX7_wayFor_16 : decode cX7_wayFor 16 = .ok (.goto 8, 3) := by decide +kernel
theorem dX7_wayFor_19 : decode cX7_wayFor 19 = .ok (.iload_n 3, 1) := by decide +kernel
theorem dX7_wayFor_20 : decode cX7_wayFor 20 = .ok (.iload_n 2, 1) := by decide +kernel
theorem dX7_wayFor_21 : decode cX7_wayFor 21 = .ok (.invokestatic 184, 3) := by decide +kernel
theorem dX7_wayFor_24 : decode cX7_wayFor 24 = .ok (.ireturn, 1) := by decide +kernel
theorem dX7_way_0 : decode cX7_way 0 = .ok (.iload_n 1, 1) := by decide +kernel
theorem dX7_way_1 : decode cX7_way 1 = .ok (.iconst 0, 1) := by decide +kernel
theorem dX7_way_2 : decode cX7_way 2 = .ok (.bipush 63, 2) := by decide +kernel
theorem dX7_way_4 : decode cX7_way 4 = .ok (.invokestatic 75, 3) := by decide +kernel
theorem dX7_way_7 : decode cX7_way 7 = .ok (.ifCond .eq 21, 3) := by decide +kernel
theorem dX7_way_10 : decode cX7_way 10 = .ok (.iload_n 2, 1) := by decide +kernel
theorem dX7_way_11 : decode cX7_way 11 = .ok (.iconst 0, 1) := by decide +kernel
theorem dX7_way_12 : decode cX7_way 12 = .ok (.iconst 2, 1) := by decide +kernel
theorem dX7_way_13 : decode cX7_way 13 = .ok (.invokestatic 75, 3) := by decide +kernel
theorem dX7_way_16 : decode cX7_way 16 = .ok (.ifCond .eq 12, 3) := by decide +kernel
theorem dX7_way_19 : decode cX7_way 19 = .ok (.aload_n 0, 1) := by decide +kernel
theorem dX7_way_20 : decode cX7_way 20 = .ok (.iload_n 1, 1) := by decide +kernel
theorem dX7_way_21 : decode cX7_way 21 = .ok (.iload_n 2, 1) := by decide +kernel
theorem dX7_way_22 : decode cX7_way 22 = .ok (.invokevirtual 218, 3) := by decide +kernel
theorem dX7_way_25 : decode cX7_way 25 = .ok (.goto 5, 3) := by decide +kernel
theorem dX7_way_28 : decode cX7_way 28 = .ok (.bipush (-2), 2) := by decide +kernel
theorem dX7_way_30 : decode cX7_way 30 = .ok (.ireturn, 1) := by decide +kernel
theorem dX7_sets_0 : decode cX7_sets 0 = .ok (.aload_n 0, 1) := by decide +kernel
theorem dX7_sets_1 : decode cX7_sets 1 = .ok (.invokevirtual 203, 3) := by decide +kernel
theorem dX7_sets_4 : decode cX7_sets 4 = .ok (.aload_n 0, 1) := by decide +kernel
theorem dX7_sets_5 : decode cX7_sets 5 = .ok (.aload_n 0, 1) := by decide +kernel
theorem dX7_sets_6 : decode cX7_sets 6 = .ok (.getfield 197, 3) := by decide +kernel
theorem dX7_sets_9 : decode cX7_sets 9 = .ok (.iconst (-1), 1) := by decide +kernel
theorem dX7_sets_10 : decode cX7_sets 10 = .ok (.if_icmp .ne 7, 3) := by decide +kernel
theorem dX7_sets_13 : decode cX7_sets 13 = .ok (.iconst 0, 1) := by decide +kernel
theorem dX7_sets_14 : decode cX7_sets 14 = .ok (.goto 10, 3) := by decide +kernel
theorem dX7_sets_17 : decode cX7_sets 17 = .ok (.aload_n 0, 1) := by decide +kernel
theorem dX7_sets_18 : decode cX7_sets 18 = .ok (.getfield 197, 3) := by decide +kernel
theorem dX7_sets_21 : decode cX7_sets 21 = .ok (.invokestatic 118, 3) := by decide +kernel
theorem dX7_sets_24 : decode cX7_sets 24 = .ok (.invokevirtual 215, 3) := by decide +kernel
theorem dX7_sets_27 : decode cX7_sets 27 = .ok (.pop, 1) := by decide +kernel
theorem dX7_sets_28 : decode cX7_sets 28 = .ok (.iconst 0, 1) := by decide +kernel
theorem dX7_sets_29 : decode cX7_sets 29 = .ok (.istore_n 1, 1) := by decide +kernel
theorem dX7_sets_30 : decode cX7_sets 30 = .ok (.iload_n 1, 1) := by decide +kernel
theorem dX7_sets_31 : decode cX7_sets 31 = .ok (.aload_n 0, 1) := by decide +kernel
theorem dX7_sets_32 : decode cX7_sets 32 = .ok (.getfield 93, 3) := by decide +kernel
theorem dX7_sets_35 : decode cX7_sets 35 = .ok (.if_icmp .ge 46, 3) := by decide +kernel
theorem dX7_sets_38 : decode cX7_sets 38 = .ok (.aload_n 0, 1) := by decide +kernel
theorem dX7_sets_39 : decode cX7_sets 39 = .ok (.getfield 56, 3) := by decide +kernel
theorem dX7_sets_42 : decode cX7_sets 42 = .ok (.iload_n 1, 1) := by decide +kernel
theorem dX7_sets_43 : decode cX7_sets 43 = .ok (.iload_n 1, 1) := by decide +kernel
theorem dX7_sets_44 : decode cX7_sets 44 = .ok (.ifCond .ne 15, 3) := by decide +kernel
theorem dX7_sets_47 : decode cX7_sets 47 = .ok (.aload_n 0, 1) := by decide +kernel
theorem dX7_sets_48 : decode cX7_sets 48 = .ok (.getfield 197, 3) := by decide +kernel
theorem dX7_sets_51 : decode cX7_sets 51 = .ok (.iconst (-1), 1) := by decide +kernel
theorem dX7_sets_52 : decode cX7_sets 52 = .ok (.if_icmp .eq 7, 3) := by decide +kernel
theorem dX7_sets_55 : decode cX7_sets 55 = .ok (.iconst 1, 1) := by decide +kernel
theorem dX7_sets_56 : decode cX7_sets 56 = .ok (.goto 4, 3) := by decide +kernel
theorem dX7_sets_59 : decode cX7_sets 59 = .ok (.iconst 0, 1) := by decide +kernel
theorem dX7_sets_60 : decode cX7_sets 60 = .ok (.iastore, 1) := by decide +kernel
theorem dX7_sets_61 : decode cX7_sets 61 = .ok (.aload_n 0, 1) := by decide +kernel
theorem dX7_sets_62 : decode cX7_sets 62 = .ok (.getfield 50, 3) := by decide +kernel
theorem dX7_sets_65 : decode cX7_sets 65 = .ok (.iload_n 1, 1) := by decide +kernel
theorem dX7_sets_66 : decode cX7_sets 66 = .ok (.iconst 0, 1) := by decide +kernel
theorem dX7_sets_67 : decode cX7_sets 67 = .ok (.iastore, 1) := by decide +kernel
theorem dX7_sets_68 : decode cX7_sets 68 = .ok (.aload_n 0, 1) := by decide +kernel
theorem dX7_sets_69 : decode cX7_sets 69 = .ok (.getfield 53, 3) := by decide +kernel
theorem dX7_sets_72 : decode cX7_sets 72 = .ok (.iload_n 1, 1) := by decide +kernel
theorem dX7_sets_73 : decode cX7_sets 73 = .ok (.iconst 0, 1) := by decide +kernel
theorem dX7_sets_74 : decode cX7_sets 74 = .ok (.iastore, 1) := by decide +kernel
theorem dX7_sets_75 : decode cX7_sets 75 = .ok (.iinc 1 1, 3) := by decide +kernel
theorem dX7_sets_78 : decode cX7_sets 78 = .ok (.goto (-48), 3) := by decide +kernel
theorem dX7_sets_81 : decode cX7_sets 81 = .ok (.iconst 0, 1) := by decide +kernel
theorem dX7_sets_82 : decode cX7_sets 82 = .ok (.istore_n 1, 1) := by decide +kernel
theorem dX7_sets_83 : decode cX7_sets 83 = .ok (.iload_n 1, 1) := by decide +kernel
theorem dX7_sets_84 : decode cX7_sets 84 = .ok (.aload_n 0, 1) := by decide +kernel
theorem dX7_sets_85 : decode cX7_sets 85 = .ok (.getfield 93, 3) := by decide +kernel
theorem dX7_sets_88 : decode cX7_sets 88 = .ok (.if_icmp .ge 33, 3) := by decide +kernel
theorem dX7_sets_91 : decode cX7_sets 91 = .ok (.aload_n 0, 1) := by decide +kernel
theorem dX7_sets_92 : decode cX7_sets 92 = .ok (.getfield 56, 3) := by decide +kernel
theorem dX7_sets_95 : decode cX7_sets 95 = .ok (.iload_n 1, 1) := by decide +kernel
theorem dX7_sets_96 : decode cX7_sets 96 = .ok (.iaload, 1) := by decide +kernel
theorem dX7_sets_97 : decode cX7_sets 97 = .ok (.iconst 1, 1) := by decide +kernel
theorem dX7_sets_98 : decode cX7_sets 98 = .ok (.if_icmp .ne 17, 3) := by decide +kernel
theorem dX7_sets_101 : decode cX7_sets 101 = .ok (.aload_n 0, 1) := by decide +kernel
theorem dX7_sets_102 : decode cX7_sets 102 = .ok (.getfield 17, 3) := by decide +kernel
theorem dX7_sets_105 : decode cX7_sets 105 = .ok (.iload_n 1, 1) := by decide +kernel
theorem dX7_sets_106 : decode cX7_sets 106 = .ok (.iaload, 1) := by decide +kernel
theorem dX7_sets_107 : decode cX7_sets 107 = .ok (.ifCond .eq 8, 3) := by decide +kernel
theorem dX7_sets_110 : decode cX7_sets 110 = .ok (.aload_n 0, 1) := by decide +kernel
theorem dX7_sets_111 : decode cX7_sets 111 = .ok (.iload_n 1, 1) := by decide +kernel
theorem dX7_sets_112 : decode cX7_sets 112 = .ok (.invokevirtual 221, 3) := by decide +kernel
theorem dX7_sets_115 : decode cX7_sets 115 = .ok (.iinc 1 1, 3) := by decide +kernel
theorem dX7_sets_118 : decode cX7_sets 118 = .ok (.goto (-35), 3) := by decide +kernel
theorem dX7_sets_121 : decode cX7_sets 121 = .ok (.return_, 1) := by decide +kernel
theorem dX7_puts_0 : decode cX7_puts 0 = .ok (.aload_n 0, 1) := by decide +kernel
theorem dX7_puts_1 : decode cX7_puts 1 = .ok (.getfield 56, 3) := by decide +kernel
theorem dX7_puts_4 : decode cX7_puts 4 = .ok (.iload_n 1, 1) := by decide +kernel
theorem dX7_puts_5 : decode cX7_puts 5 = .ok (.iconst 1, 1) := by decide +kernel
theorem dX7_puts_6 : decode cX7_puts 6 = .ok (.iastore, 1) := by decide +kernel
theorem dX7_puts_7 : decode cX7_puts 7 = .ok (.aload_n 0, 1) := by decide +kernel
theorem dX7_puts_8 : decode cX7_puts 8 = .ok (.getfield 50, 3) := by decide +kernel
theorem dX7_puts_11 : decode cX7_puts 11 = .ok (.iload_n 1, 1) := by decide +kernel
theorem dX7_puts_12 : decode cX7_puts 12 = .ok (.iload_n 2, 1) := by decide +kernel
theorem dX7_puts_13 : decode cX7_puts 13 = .ok (.iastore, 1) := by decide +kernel
theorem dX7_puts_14 : decode cX7_puts 14 = .ok (.aload_n 0, 1) := by decide +kernel
theorem dX7_puts_15 : decode cX7_puts 15 = .ok (.getfield 53, 3) := by decide +kernel
theorem dX7_puts_18 : decode cX7_puts 18 = .ok (.iload_n 1, 1) := by decide +kernel
theorem dX7_puts_19 : decode cX7_puts 19 = .ok (.iload_n 3, 1) := by decide +kernel
theorem dX7_puts_20 : decode cX7_puts 20 = .ok (.iastore, 1) := by decide +kernel
theorem dX7_puts_21 : decode cX7_puts 21 = .ok (.return_, 1) := by decide +kernel
theorem dX7_setsBelow_0 : decode cX7_setsBelow 0 = .ok (.iload_n 1, 1) := by decide +kernel
theorem dX7_setsBelow_1 : decode cX7_setsBelow 1 = .ok (.iconst 1, 1) := by decide +kernel
theorem dX7_setsBelow_2 : decode cX7_setsBelow 2 = .ok (.iadd, 1) := by decide +kernel
theorem dX7_setsBelow_3 : decode cX7_setsBelow 3 = .ok (.istore_n 2, 1) := by decide +kernel
theorem dX7_setsBelow_4 : decode cX7_setsBelow 4 = .ok (.aload_n 0, 1) := by decide +kernel
theorem dX7_setsBelow_5 : decode cX7_setsBelow 5 = .ok (.getfield 50, 3) := by decide +kernel
theorem dX7_setsBelow_8 : decode cX7_setsBelow 8 = .ok (.iload_n 1, 1) := by decide +kernel
theorem dX7_setsBelow_9 : decode cX7_setsBelow 9 = .ok (.iaload, 1) := by decide +kernel
theorem dX7_setsBelow_10 : decode cX7_setsBelow 10 = .ok (.istore_n 3, 1) := by decide +kernel
theorem dX7_setsBelow_11 : decode cX7_setsBelow 11 = .ok (.aload_n 0, 1) := by decide +kernel
theorem dX7_setsBelow_12 : decode cX7_setsBelow 12 = .ok (.getfield 53, 3) := by decide +kernel
theorem dX7_setsBelow_15 : decode cX7_setsBelow 15 = .ok (.iload_n 1, 1) := by decide +kernel
theorem dX7_setsBelow_16 : decode cX7_setsBelow 16 = .ok (.iaload, 1) := by decide +kernel
theorem dX7_setsBelow_17 : decode cX7_setsBelow 17 = .ok (.istore 4, 2) := by decide +kernel
theorem dX7_setsBelow_19 : decode cX7_setsBelow 19 = .ok (.aload_n 0, 1) := by decide +kernel
theorem dX7_setsBelow_20 : decode cX7_setsBelow 20 = .ok (.getfield 17, 3) := by decide +kernel
theorem dX7_setsBelow_23 : decode cX7_setsBelow 23 = .ok (.iload_n 1, 1) := by decide +kernel
theorem dX7_setsBelow_24 : decode cX7_setsBelow 24 = .ok (.iaload, 1) := by decide +kernel
theorem dX7_setsBelow_25 : decode cX7_setsBelow 25 = .ok (.tableswitch 146 1 3 #[66, 112, 27], 27) := by decide +kernel
theorem dX7_setsBelow_52 : decode cX7_setsBelow 52 = .ok (.aload_n 0, 1) := by decide +kernel
theorem dX7_setsBelow_53 : decode cX7_setsBelow 53 = .ok (.aload_n 0, 1) := by decide +kernel
theorem dX7_setsBelow_54 : decode cX7_setsBelow 54 = .ok (.getfield 197, 3) := by decide +kernel
theorem dX7_setsBelow_57 : decode cX7_setsBelow 57 = .ok (.invokestatic 118, 3) := by decide +kernel
theorem dX7_setsBelow_60 : decode cX7_setsBelow 60 = .ok (.aload_n 0, 1) := by decide +kernel
theorem dX7_setsBelow_61 : decode cX7_setsBelow 61 = .ok (.getfield 20, 3) := by decide +kernel
theorem dX7_setsBelow_64 : decode cX7_setsBelow 64 = .ok (.iload_n 1, 1) := by decide +kernel
theorem dX7_setsBelow_65 : decode cX7_setsBelow 65 = .ok (.iaload, 1) := by decide +kernel
theorem dX7_setsBelow_66 : decode cX7_setsBelow 66 = .ok (.invokestatic 209, 3) := by decide +kernel
theorem dX7_setsBelow_69 : decode cX7_setsBelow 69 = .ok (.ifCond .eq 12, 3) := by decide +kernel
theorem dX7_setsBelow_72 : decode cX7_setsBelow 72 = .ok (.aload_n 0, 1) := by decide +kernel
theorem dX7_setsBelow_73 : decode cX7_setsBelow 73 = .ok (.getfield 32, 3) := by decide +kernel
theorem dX7_setsBelow_76 : decode cX7_setsBelow 76 = .ok (.iload_n 1, 1) := by decide +kernel
theorem dX7_setsBelow_77 : decode cX7_setsBelow 77 = .ok (.iaload, 1) := by decide +kernel
theorem dX7_setsBelow_78 : decode cX7_setsBelow 78 = .ok (.goto 4, 3) := by decide +kernel
theorem dX7_setsBelow_81 : decode cX7_setsBelow 81 = .ok (.iload_n 2, 1) := by decide +kernel
theorem dX7_setsBelow_82 : decode cX7_setsBelow 82 = .ok (.iload_n 3, 1) := by decide +kernel
theorem dX7_setsBelow_83 : decode cX7_setsBelow 83 = .ok (.iload 4, 2) := by decide +kernel
theorem dX7_setsBelow_85 : decode cX7_setsBelow 85 = .ok (.invokevirtual 224, 3) := by decide +kernel
theorem dX7_setsBelow_88 : decode cX7_setsBelow 88 = .ok (.goto 112, 3) := by decide +kernel
theorem dX7_setsBelow_91 : decode cX7_setsBelow 91 = .ok (.aload_n 0, 1) := by decide +kernel
theorem dX7_setsBelow_92 : decode cX7_setsBelow 92 = .ok (.iload_n 2, 1) := by decide +kernel
theorem dX7_setsBelow_93 : decode cX7_setsBelow 93 = .ok (.iload_n 3, 1) := by decide +kernel
theorem dX7_setsBelow_94 : decode cX7_setsBelow 94 = .ok (.iload 4, 2) := by decide +kernel
theorem dX7_setsBelow_96 : decode cX7_setsBelow 96 = .ok (.invokevirtual 224, 3) := by decide +kernel
theorem dX7_setsBelow_99 : decode cX7_setsBelow 99 = .ok (.aload_n 0, 1) := by decide +kernel
theorem dX7_setsBelow_100 : decode cX7_setsBelow 100 = .ok (.aload_n 0, 1) := by decide +kernel
theorem dX7_setsBelow_101 : decode cX7_setsBelow 101 = .ok (.getfield 32, 3) := by decide +kernel
theorem dX7_setsBelow_104 : decode cX7_setsBelow 104 = .ok (.iload_n 1, 1) := by decide +kernel
theorem dX7_setsBelow_105 : decode cX7_setsBelow 105 = .ok (.iaload, 1) := by decide +kernel
theorem dX7_setsBelow_106 : decode cX7_setsBelow 106 = .ok (.iload_n 3, 1) := by decide +kernel
theorem dX7_setsBelow_107 : decode cX7_setsBelow 107 = .ok (.aload_n 0, 1) := by decide +kernel
theorem dX7_setsBelow_108 : decode cX7_setsBelow 108 = .ok (.getfield 44, 3) := by decide +kernel
theorem dX7_setsBelow_111 : decode cX7_setsBelow 111 = .ok (.iload_n 2, 1) := by decide +kernel
theorem dX7_setsBelow_112 : decode cX7_setsBelow 112 = .ok (.iaload, 1) := by decide +kernel
theorem dX7_setsBelow_113 : decode cX7_setsBelow 113 = .ok (.invokestatic 121, 3) := by decide +kernel
theorem dX7_setsBelow_116 : decode cX7_setsBelow 116 = .ok (.iadd, 1) := by decide +kernel
theorem dX7_setsBelow_117 : decode cX7_setsBelow 117 = .ok (.iconst 1, 1) := by decide +kernel
theorem dX7_setsBelow_118 : decode cX7_setsBelow 118 = .ok (.isub, 1) := by decide +kernel
theorem dX7_setsBelow_119 : decode cX7_setsBelow 119 = .ok (.iload 4, 2) := by decide +kernel
theorem dX7_setsBelow_121 : decode cX7_setsBelow 121 = .ok (.aload_n 0, 1) := by decide +kernel
theorem dX7_setsBelow_122 : decode cX7_setsBelow 122 = .ok (.getfield 44, 3) := by decide +kernel
theorem dX7_setsBelow_125 : decode cX7_setsBelow 125 = .ok (.iload_n 2, 1) := by decide +kernel
theorem dX7_setsBelow_126 : decode cX7_setsBelow 126 = .ok (.iaload, 1) := by decide +kernel
theorem dX7_setsBelow_127 : decode cX7_setsBelow 127 = .ok (.invokestatic 124, 3) := by decide +kernel
theorem dX7_setsBelow_130 : decode cX7_setsBelow 130 = .ok (.iadd, 1) := by decide +kernel
theorem dX7_setsBelow_131 : decode cX7_setsBelow 131 = .ok (.invokevirtual 224, 3) := by decide +kernel
theorem dX7_setsBelow_134 : decode cX7_setsBelow 134 = .ok (.goto 66, 3) := by decide +kernel
theorem dX7_setsBelow_137 : decode cX7_setsBelow 137 = .ok (.aload_n 0, 1) := by decide +kernel
theorem dX7_setsBelow_138 : decode cX7_setsBelow 138 = .ok (.iload_n 2, 1) := by decide +kernel
theorem dX7_setsBelow_139 : decode cX7_setsBelow 139 = .ok (.iload_n 3, 1) := by decide +kernel
theorem dX7_setsBelow_140 : decode cX7_setsBelow 140 = .ok (.iload 4, 2) := by decide +kernel
theorem dX7_setsBelow_142 : decode cX7_setsBelow 142 = .ok (.invokevirtual 224, 3) := by decide +kernel
theorem dX7_setsBelow_145 : decode cX7_setsBelow 145 = .ok (.aload_n 0, 1) := by decide +kernel
theorem dX7_setsBelow_146 : decode cX7_setsBelow 146 = .ok (.aload_n 0, 1) := by decide +kernel
theorem dX7_setsBelow_147 : decode cX7_setsBelow 147 = .ok (.getfield 32, 3) := by decide +kernel
theorem dX7_setsBelow_150 : decode cX7_setsBelow 150 = .ok (.iload_n 1, 1) := by decide +kernel
theorem dX7_setsBelow_151 : decode cX7_setsBelow 151 = .ok (.iaload, 1) := by decide +kernel
theorem dX7_setsBelow_152 : decode cX7_setsBelow 152 = .ok (.iload_n 3, 1) := by decide +kernel
theorem dX7_setsBelow_153 : decode cX7_setsBelow 153 = .ok (.aload_n 0, 1) := by decide +kernel
theorem dX7_setsBelow_154 : decode cX7_setsBelow 154 = .ok (.getfield 44, 3) := by decide +kernel
theorem dX7_setsBelow_157 : decode cX7_setsBelow 157 = .ok (.iload_n 2, 1) := by decide +kernel
theorem dX7_setsBelow_158 : decode cX7_setsBelow 158 = .ok (.iaload, 1) := by decide +kernel
theorem dX7_setsBelow_159 : decode cX7_setsBelow 159 = .ok (.invokestatic 121, 3) := by decide +kernel
theorem dX7_setsBelow_162 : decode cX7_setsBelow 162 = .ok (.iadd, 1) := by decide +kernel
theorem dX7_setsBelow_163 : decode cX7_setsBelow 163 = .ok (.iload 4, 2) := by decide +kernel
theorem dX7_setsBelow_165 : decode cX7_setsBelow 165 = .ok (.invokevirtual 224, 3) := by decide +kernel
theorem dX7_setsBelow_168 : decode cX7_setsBelow 168 = .ok (.goto 32, 3) := by decide +kernel
theorem dX7_setsBelow_171 : decode cX7_setsBelow 171 = .ok (.aload_n 0, 1) := by decide +kernel
theorem dX7_setsBelow_172 : decode cX7_setsBelow 172 = .ok (.iload_n 2, 1) := by decide +kernel
theorem dX7_setsBelow_173 : decode cX7_setsBelow 173 = .ok (.iload_n 3, 1) := by decide +kernel
theorem dX7_setsBelow_174 : decode cX7_setsBelow 174 = .ok (.iload 4, 2) := by decide +kernel
theorem dX7_setsBelow_176 : decode cX7_setsBelow 176 = .ok (.aload_n 0, 1) := by decide +kernel
theorem dX7_setsBelow_177 : decode cX7_setsBelow 177 = .ok (.getfield 17, 3) := by decide +kernel
theorem dX7_setsBelow_180 : decode cX7_setsBelow 180 = .ok (.iload_n 1, 1) := by decide +kernel
theorem dX7_setsBelow_181 : decode cX7_setsBelow 181 = .ok (.iaload, 1) := by decide +kernel
theorem dX7_setsBelow_182 : decode cX7_setsBelow 182 = .ok (.iconst 4, 1) := by decide +kernel
theorem dX7_setsBelow_183 : decode cX7_setsBelow 183 = .ok (.if_icmp .ne 12, 3) := by decide +kernel
theorem dX7_setsBelow_186 : decode cX7_setsBelow 186 = .ok (.aload_n 0, 1) := by decide +kernel
theorem dX7_setsBelow_187 : decode cX7_setsBelow 187 = .ok (.getfield 20, 3) := by decide +kernel
theorem dX7_setsBelow_190 : decode cX7_setsBelow 190 = .ok (.iload_n 1, 1) := by decide +kernel
theorem dX7_setsBelow_191 : decode cX7_setsBelow 191 = .ok (.iaload, 1) := by decide +kernel
theorem dX7_setsBelow_192 : decode cX7_setsBelow 192 = .ok (.goto 4, 3) := by decide +kernel
theorem dX7_setsBelow_195 : decode cX7_setsBelow 195 = .ok (.iconst 0, 1) := by decide +kernel
theorem dX7_setsBelow_196 : decode cX7_setsBelow 196 = .ok (.iadd, 1) := by decide +kernel
theorem dX7_setsBelow_197 : decode cX7_setsBelow 197 = .ok (.invokevirtual 224, 3) := by decide +kernel
theorem dX7_setsBelow_200 : decode cX7_setsBelow 200 = .ok (.return_, 1) := by decide +kernel
theorem dX7_columnsIn_0 : decode cX7_columnsIn 0 = .ok (.iconst (-1), 1) := by decide +kernel
theorem dX7_columnsIn_1 : decode cX7_columnsIn 1 = .ok (.istore_n 2, 1) := by decide +kernel
theorem dX7_columnsIn_2 : decode cX7_columnsIn 2 = .ok (.iconst 0, 1) := by decide +kernel
theorem dX7_columnsIn_3 : decode cX7_columnsIn 3 = .ok (.istore_n 3, 1) := by decide +kernel
theorem dX7_columnsIn_4 : decode cX7_columnsIn 4 = .ok (.iload_n 3, 1) := by decide +kernel
theorem dX7_columnsIn_5 : decode cX7_columnsIn 5 = .ok (.aload_n 0, 1) := by decide +kernel
theorem dX7_columnsIn_6 : decode cX7_columnsIn 6 = .ok (.getfield 93, 3) := by decide +kernel
theorem dX7_columnsIn_9 : decode cX7_columnsIn 9 = .ok (.if_icmp .ge 72, 3) := by decide +kernel
theorem dX7_columnsIn_12 : decode cX7_columnsIn 12 = .ok (.aload_n 0, 1) := by decide +kernel
theorem dX7_columnsIn_13 : decode cX7_columnsIn 13 = .ok (.getfield 17, 3) := by decide +kernel
theorem dX7_columnsIn_16 : decode cX7_columnsIn 16 = .ok (.iload_n 3, 1) := by decide +kernel
theorem dX7_columnsIn_17 : decode cX7_columnsIn 17 = .ok (.iaload, 1) := by decide +kernel
theorem dX7_columnsIn_18 : decode cX7_columnsIn 18 = .ok (.ifCond .ne 27, 3) := by decide +kernel
theorem dX7_columnsIn_21 : decode cX7_columnsIn 21 = .ok (.aload_n 0, 1) := by decide +kernel
theorem dX7_columnsIn_22 : decode cX7_columnsIn 22 = .ok (.getfield 56, 3) := by decide +kernel
theorem dX7_columnsIn_25 : decode cX7_columnsIn 25 = .ok (.iload_n 3, 1) := by decide +kernel
theorem dX7_columnsIn_26 : decode cX7_columnsIn 26 = .ok (.iaload, 1) := by decide +kernel
theorem dX7_columnsIn_27 : decode cX7_columnsIn 27 = .ok (.iconst 1, 1) := by decide +kernel
theorem dX7_columnsIn_28 : decode cX7_columnsIn 28 = .ok (.if_icmp .ne 17, 3) := by decide +kernel
theorem dX7_columnsIn_31 : decode cX7_columnsIn 31 = .ok (.aload_n 0, 1) := by decide +kernel
theorem dX7_columnsIn_32 : decode cX7_columnsIn 32 = .ok (.getfield 50, 3) := by decide +kernel
theorem dX7_columnsIn_35 : decode cX7_columnsIn 35 = .ok (.iload_n 3, 1) := by decide +kernel
theorem dX7_columnsIn_36 : decode cX7_columnsIn 36 = .ok (.iaload, 1) := by decide +kernel
theorem dX7_columnsIn_37 : decode cX7_columnsIn 37 = .ok (.iload_n 1, 1) := by decide +kernel
theorem dX7_columnsIn_38 : decode cX7_columnsIn 38 = .ok (.if_icmp .ne 7, 3) := by decide +kernel
theorem dX7_columnsIn_41 : decode cX7_columnsIn 41 = .ok (.iconst 1, 1) := by decide +kernel
theorem dX7_columnsIn_42 : decode cX7_columnsIn 42 = .ok (.goto 4, 3) := by decide +kernel
theorem dX7_columnsIn_45 : decode cX7_columnsIn 45 = .ok (.iconst 0, 1) := by decide +kernel
theorem dX7_columnsIn_46 : decode cX7_columnsIn 46 = .ok (.istore 4, 2) := by decide +kernel
theorem dX7_columnsIn_48 : decode cX7_columnsIn 48 = .ok (.iload 4, 2) := by decide +kernel
theorem dX7_columnsIn_50 : decode cX7_columnsIn 50 = .ok (.ifCond .eq 23, 3) := by decide +kernel
theorem dX7_columnsIn_53 : decode cX7_columnsIn 53 = .ok (.iload_n 2, 1) := by decide +kernel
theorem dX7_columnsIn_54 : decode cX7_columnsIn 54 = .ok (.aload_n 0, 1) := by decide +kernel
theorem dX7_columnsIn_55 : decode cX7_columnsIn 55 = .ok (.getfield 53, 3) := by decide +kernel
theorem dX7_columnsIn_58 : decode cX7_columnsIn 58 = .ok (.iload_n 3, 1) := by decide +kernel
theorem dX7_columnsIn_59 : decode cX7_columnsIn 59 = .ok (.iaload, 1) := by decide +kernel
theorem dX7_columnsIn_60 : decode cX7_columnsIn 60 = .ok (.aload_n 0, 1) := by decide +kernel
theorem dX7_columnsIn_61 : decode cX7_columnsIn 61 = .ok (.getfield 20, 3) := by decide +kernel
theorem dX7_columnsIn_64 : decode cX7_columnsIn 64 = .ok (.iload_n 3, 1) := by decide +kernel
theorem dX7_columnsIn_65 : decode cX7_columnsIn 65 = .ok (.iaload, 1) := by decide +kernel
theorem dX7_columnsIn_66 : decode cX7_columnsIn 66 = .ok (.iadd, 1) := by decide +kernel
theorem dX7_columnsIn_67 : decode cX7_columnsIn 67 = .ok (.invokestatic 130, 3) := by decide +kernel
theorem dX7_columnsIn_70 : decode cX7_columnsIn 70 = .ok (.goto 4, 3) := by decide +kernel
theorem dX7_columnsIn_73 : decode cX7_columnsIn 73 = .ok (.iload_n 2, 1) := by decide +kernel
theorem dX7_columnsIn_74 : decode cX7_columnsIn 74 = .ok (.istore_n 2, 1) := by decide +kernel
theorem dX7_columnsIn_75 : decode cX7_columnsIn 75 = .ok (.iinc 3 1, 3) := by decide +kernel
theorem dX7_columnsIn_78 : decode cX7_columnsIn 78 = .ok (.goto (-74), 3) := by decide +kernel
theorem dX7_columnsIn_81 : decode cX7_columnsIn 81 = .ok (.iload_n 2, 1) := by decide +kernel
theorem dX7_columnsIn_82 : decode cX7_columnsIn 82 = .ok (.ireturn, 1) := by decide +kernel
theorem dX7_byteIn_0 : decode cX7_byteIn 0 = .ok (.bipush 32, 2) := by decide +kernel
theorem dX7_byteIn_2 : decode cX7_byteIn 2 = .ok (.istore_n 3, 1) := by decide +kernel
theorem dX7_byteIn_3 : decode cX7_byteIn 3 = .ok (.iconst 0, 1) := by decide +kernel
theorem dX7_byteIn_4 : decode cX7_byteIn 4 = .ok (.istore 4, 2) := by decide +kernel
theorem dX7_byteIn_6 : decode cX7_byteIn 6 = .ok (.iload 4, 2) := by decide +kernel
theorem dX7_byteIn_8 : decode cX7_byteIn 8 = .ok (.aload_n 0, 1) := by decide +kernel
theorem dX7_byteIn_9 : decode cX7_byteIn 9 = .ok (.getfield 93, 3) := by decide +kernel
theorem dX7_byteIn_12 : decode cX7_byteIn 12 = .ok (.if_icmp .ge 101, 3) := by decide +kernel
theorem dX7_byteIn_15 : decode cX7_byteIn 15 = .ok (.aload_n 0, 1) := by decide +kernel
theorem dX7_byteIn_16 : decode cX7_byteIn 16 = .ok (.getfield 17, 3) := by decide +kernel
theorem dX7_byteIn_19 : decode cX7_byteIn 19 = .ok (.iload 4, 2) := by decide +kernel
theorem dX7_byteIn_21 : decode cX7_byteIn 21 = .ok (.iaload, 1) := by decide +kernel
theorem dX7_byteIn_22 : decode cX7_byteIn 22 = .ok (.ifCond .ne 60, 3) := by decide +kernel
theorem dX7_byteIn_25 : decode cX7_byteIn 25 = .ok (.aload_n 0, 1) := by decide +kernel
theorem dX7_byteIn_26 : decode cX7_byteIn 26 = .ok (.getfield 56, 3) := by decide +kernel
theorem dX7_byteIn_29 : decode cX7_byteIn 29 = .ok (.iload 4, 2) := by decide +kernel
theorem dX7_byteIn_31 : decode cX7_byteIn 31 = .ok (.iaload, 1) := by decide +kernel
theorem dX7_byteIn_32 : decode cX7_byteIn 32 = .ok (.iconst 1, 1) := by decide +kernel
theorem dX7_byteIn_33 : decode cX7_byteIn 33 = .ok (.if_icmp .ne 49, 3) := by decide +kernel
theorem dX7_byteIn_36 : decode cX7_byteIn 36 = .ok (.aload_n 0, 1) := by decide +kernel
theorem dX7_byteIn_37 : decode cX7_byteIn 37 = .ok (.getfield 50, 3) := by decide +kernel
theorem dX7_byteIn_40 : decode cX7_byteIn 40 = .ok (.iload 4, 2) := by decide +kernel
theorem dX7_byteIn_42 : decode cX7_byteIn 42 = .ok (.iaload, 1) := by decide +kernel
theorem dX7_byteIn_43 : decode cX7_byteIn 43 = .ok (.iload_n 1, 1) := by decide +kernel
theorem dX7_byteIn_44 : decode cX7_byteIn 44 = .ok (.if_icmp .ne 38, 3) := by decide +kernel
theorem dX7_byteIn_47 : decode cX7_byteIn 47 = .ok (.iload_n 2, 1) := by decide +kernel
theorem dX7_byteIn_48 : decode cX7_byteIn 48 = .ok (.aload_n 0, 1) := by decide +kernel
theorem dX7_byteIn_49 : decode cX7_byteIn 49 = .ok (.getfield 53, 3) := by decide +kernel
theorem dX7_byteIn_52 : decode cX7_byteIn 52 = .ok (.iload 4, 2) := by decide +kernel
theorem dX7_byteIn_54 : decode cX7_byteIn 54 = .ok (.iaload, 1) := by decide +kernel
theorem dX7_byteIn_55 : decode cX7_byteIn 55 = .ok (.aload_n 0, 1) := by decide +kernel
theorem dX7_byteIn_56 : decode cX7_byteIn 56 = .ok (.getfield 53, 3) := by decide +kernel
theorem dX7_byteIn_59 : decode cX7_byteIn 59 = .ok (.iload 4, 2) := by decide +kernel
theorem dX7_byteIn_61 : decode cX7_byteIn 61 = .ok (.iaload, 1) := by decide +kernel
theorem dX7_byteIn_62 : decode cX7_byteIn 62 = .ok (.aload_n 0, 1) := by decide +kernel
theorem dX7_byteIn_63 : decode cX7_byteIn 63 = .ok (.getfield 20, 3) := by decide +kernel
theorem dX7_byteIn_66 : decode cX7_byteIn 66 = .ok (.iload 4, 2) := by decide +kernel
theorem dX7_byteIn_68 : decode cX7_byteIn 68 = .ok (.iaload, 1) := by decide +kernel
theorem dX7_byteIn_69 : decode cX7_byteIn 69 = .ok (.iadd, 1) := by decide +kernel
theorem dX7_byteIn_70 : decode cX7_byteIn 70 = .ok (.iconst 1, 1) := by decide +kernel
theorem dX7_byteIn_71 : decode cX7_byteIn 71 = .ok (.isub, 1) := by decide +kernel
theorem dX7_byteIn_72 : decode cX7_byteIn 72 = .ok (.invokestatic 75, 3) := by decide +kernel
theorem dX7_byteIn_75 : decode cX7_byteIn 75 = .ok (.ifCond .eq 7, 3) := by decide +kernel
theorem dX7_byteIn_78 : decode cX7_byteIn 78 = .ok (.iconst 1, 1) := by decide +kernel
theorem dX7_byteIn_79 : decode cX7_byteIn 79 = .ok (.goto 4, 3) := by decide +kernel
theorem dX7_byteIn_82 : decode cX7_byteIn 82 = .ok (.iconst 0, 1) := by decide +kernel
theorem dX7_byteIn_83 : decode cX7_byteIn 83 = .ok (.istore 5, 2) := by decide +kernel
theorem dX7_byteIn_85 : decode cX7_byteIn 85 = .ok (.iload 5, 2) := by decide +kernel
theorem dX7_byteIn_87 : decode cX7_byteIn 87 = .ok (.ifCond .eq 18, 3) := by decide +kernel
theorem dX7_byteIn_90 : decode cX7_byteIn 90 = .ok (.bipush 97, 2) := by decide +kernel
theorem dX7_byteIn_92 : decode cX7_byteIn 92 = .ok (.aload_n 0, 1) := by decide +kernel
theorem dX7_byteIn_93 : decode cX7_byteIn 93 = .ok (.getfield 20, 3) := by decide +kernel
theorem dX7_byteIn_96 : decode cX7_byteIn 96 = .ok (.iload 4, 2) := by decide +kernel
theorem dX7_byteIn_98 : decode cX7_byteIn 98 = .ok (.iaload, 1) := by decide +kernel
theorem dX7_byteIn_99 : decode cX7_byteIn 99 = .ok (.iadd, 1) := by decide +kernel
theorem dX7_byteIn_100 : decode cX7_byteIn 100 = .ok (.iconst 1, 1) := by decide +kernel
theorem dX7_byteIn_101 : decode cX7_byteIn 101 = .ok (.isub, 1) := by decide +kernel
theorem dX7_byteIn_102 : decode cX7_byteIn 102 = .ok (.goto 4, 3) := by decide +kernel
theorem dX7_byteIn_105 : decode cX7_byteIn 105 = .ok (.iload_n 3, 1) := by decide +kernel
theorem dX7_byteIn_106 : decode cX7_byteIn 106 = .ok (.istore_n 3, 1) := by decide +kernel
theorem dX7_byteIn_107 : decode cX7_byteIn 107 = .ok (.iinc 4 1, 3) := by decide +kernel
theorem dX7_byteIn_110 : decode cX7_byteIn 110 = .ok (.goto (-104), 3) := by decide +kernel
theorem dX7_byteIn_113 : decode cX7_byteIn 113 = .ok (.iload_n 3, 1) := by decide +kernel
theorem dX7_byteIn_114 : decode cX7_byteIn 114 = .ok (.ireturn, 1) := by decide +kernel
theorem dX7_lineOf_0 : decode cX7_lineOf 0 = .ok (.aload_n 0, 1) := by decide +kernel
theorem dX7_lineOf_1 : decode cX7_lineOf 1 = .ok (.invokevirtual 228, 3) := by decide +kernel
theorem dX7_lineOf_4 : decode cX7_lineOf 4 = .ok (.aload_n 0, 1) := by decide +kernel
theorem dX7_lineOf_5 : decode cX7_lineOf 5 = .ok (.iload_n 1, 1) := by decide +kernel
theorem dX7_lineOf_6 : decode cX7_lineOf 6 = .ok (.invokevirtual 231, 3) := by decide +kernel
theorem dX7_lineOf_9 : decode cX7_lineOf 9 = .ok (.istore_n 3, 1) := by decide +kernel
theorem dX7_lineOf_10 : decode cX7_lineOf 10 = .ok (.iload_n 2, 1) := by decide +kernel
theorem dX7_lineOf_11 : decode cX7_lineOf 11 = .ok (.iconst (-1), 1) := by decide +kernel
theorem dX7_lineOf_12 : decode cX7_lineOf 12 = .ok (.if_icmp .ne 7, 3) := by decide +kernel
theorem dX7_lineOf_15 : decode cX7_lineOf 15 = .ok (.iload_n 3, 1) := by decide +kernel
theorem dX7_lineOf_16 : decode cX7_lineOf 16 = .ok (.goto 18, 3) := by decide +kernel
theorem dX7_lineOf_19 : decode cX7_lineOf 19 = .ok (.iload_n 2, 1) := by decide +kernel
theorem dX7_lineOf_20 : decode cX7_lineOf 20 = .ok (.iload_n 3, 1) := by decide +kernel
theorem dX7_lineOf_21 : decode cX7_lineOf 21 = .ok (.if_icmp .ge 12, 3) := by decide +kernel
theorem dX7_lineOf_24 : decode cX7_lineOf 24 = .ok (.aload_n 0, 1) := by decide +kernel
theorem dX7_lineOf_25 : decode cX7_lineOf 25 = .ok (.iload_n 1, 1) := by decide +kernel
theorem dX7_lineOf_26 : decode cX7_lineOf 26 = .ok (.iload_n 2, 1) := by decide +kernel
theorem dX7_lineOf_27 : decode cX7_lineOf 27 = .ok (.invokevirtual 234, 3) := by decide +kernel
theorem dX7_lineOf_30 : decode cX7_lineOf 30 = .ok (.goto 4, 3) := by decide +kernel
theorem dX7_lineOf_33 : decode cX7_lineOf 33 = .ok (.iconst (-1), 1) := by decide +kernel
theorem dX7_lineOf_34 : decode cX7_lineOf 34 = .ok (.ireturn, 1) := by decide +kernel
theorem dX7_line_0 : decode cX7_line 0 = .ok (.iload_n 1, 1) := by decide +kernel
theorem dX7_line_1 : decode cX7_line 1 = .ok (.iconst 0, 1) := by decide +kernel
theorem dX7_line_2 : decode cX7_line 2 = .ok (.bipush 99, 2) := by decide +kernel
theorem dX7_line_4 : decode cX7_line 4 = .ok (.invokestatic 75, 3) := by decide +kernel
theorem dX7_line_7 : decode cX7_line 7 = .ok (.ifCond .eq 23, 3) := by decide +kernel
