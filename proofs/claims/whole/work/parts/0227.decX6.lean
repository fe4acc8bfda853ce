theorem dX6_digestWays_49 : decode cX6_digestWays 49 = .ok (.iconst 0, 1) := by decide +kernel
theorem dX6_digestWays_50 : decode cX6_digestWays 50 = .ok (.istore 5, 2) := by decide +kernel
theorem dX6_digestWays_52 : decode cX6_digestWays 52 = .ok (.iload 5, 2) := by decide +kernel
theorem dX6_digestWays_54 : decode cX6_digestWays 54 = .ok (.iconst 2, 1) := by decide +kernel
theorem dX6_digestWays_55 : decode cX6_digestWays 55 = .ok (.if_icmp .gt 23, 3) := by decide +kernel
theorem dX6_digestWays_58 : decode cX6_digestWays 58 = .ok (.ldc2_w 210, 3) := by decide +kernel
theorem dX6_digestWays_61 : decode cX6_digestWays 61 = .ok (.lload_n 3, 1) := by decide +kernel
theorem dX6_digestWays_62 : decode cX6_digestWays 62 = .ok (.lmul, 1) := by decide +kernel
theorem dX6_digestWays_63 : decode cX6_digestWays 63 = .ok (.aload_n 0, 1) := by decide +kernel
theorem dX6_digestWays_64 : decode cX6_digestWays 64 = .ok (.iload 5, 2) := by decide +kernel
theorem dX6_digestWays_66 : decode cX6_digestWays 66 = .ok (.invokevirtual 245, 3) := by decide +kernel
theorem dX6_digestWays_69 : decode cX6_digestWays 69 = .ok (.i2l, 1) := by decide +kernel
theorem dX6_digestWays_70 : decode cX6_digestWays 70 = .ok (.ladd, 1) := by decide +kernel
theorem dX6_digestWays_71 : decode cX6_digestWays 71 = .ok (.lstore_n 3, 1) := by decide +kernel
theorem dX6_digestWays_72 : decode cX6_digestWays 72 = .ok (.iinc 5 1, 3) := by decide +kernel
theorem dX6_digestWays_75 : decode cX6_digestWays 75 = .ok (.goto (-23), 3) := by decide +kernel
theorem dX6_digestWays_78 : decode cX6_digestWays 78 = .ok (.ldc2_w 210, 3) := by decide +kernel
theorem dX6_digestWays_81 : decode cX6_digestWays 81 = .ok (.lload_n 3, 1) := by decide +kernel
theorem dX6_digestWays_82 : decode cX6_digestWays 82 = .ok (.lmul, 1) := by decide +kernel
theorem dX6_digestWays_83 : decode cX6_digestWays 83 = .ok (.aload_n 0, 1) := by decide +kernel
theorem dX6_digestWays_84 : decode cX6_digestWays 84 = .ok (.invokevirtual 248, 3) := by decide +kernel
theorem dX6_digestWays_87 : decode cX6_digestWays 87 = .ok (.i2l, 1) := by decide +kernel
theorem dX6_digestWays_88 : decode cX6_digestWays 88 = .ok (.ladd, 1) := by decide +kernel
theorem dX6_digestWays_89 : decode cX6_digestWays 89 = .ok (.lstore_n 3, 1) := by decide +kernel
theorem dX6_digestWays_90 : decode cX6_digestWays 90 = .ok (.ldc2_w 210, 3) := by decide +kernel
theorem dX6_digestWays_93 : decode cX6_digestWays 93 = .ok (.lload_n 3, 1) := by decide +kernel
theorem dX6_digestWays_94 : decode cX6_digestWays 94 = .ok (.lmul, 1) := by decide +kernel
theorem dX6_digestWays_95 : decode cX6_digestWays 95 = .ok (.aload_n 0, 1) := by decide +kernel
theorem dX6_digestWays_96 : decode cX6_digestWays 96 = .ok (.iconst (-1), 1) := by decide +kernel
theorem dX6_digestWays_97 : decode cX6_digestWays 97 = .ok (.invokevirtual 251, 3) := by decide +kernel
theorem dX6_digestWays_100 : decode cX6_digestWays 100 = .ok (.i2l, 1) := by decide +kernel
theorem dX6_digestWays_101 : decode cX6_digestWays 101 = .ok (.ladd, 1) := by decide +kernel
theorem dX6_digestWays_102 : decode cX6_digestWays 102 = .ok (.lstore_n 3, 1) := by decide +kernel
theorem dX6_digestWays_103 : decode cX6_digestWays 103 = .ok (.ldc2_w 210, 3) := by decide +kernel
theorem dX6_digestWays_106 : decode cX6_digestWays 106 = .ok (.lload_n 3, 1) := by decide +kernel
theorem dX6_digestWays_107 : decode cX6_digestWays 107 = .ok (.lmul, 1) := by decide +kernel
theorem dX6_digestWays_108 : decode cX6_digestWays 108 = .ok (.aload_n 0, 1) := by decide +kernel
theorem dX6_digestWays_109 : decode cX6_digestWays 109 = .ok (.iconst 0, 1) := by decide +kernel
theorem dX6_digestWays_110 : decode cX6_digestWays 110 = .ok (.invokevirtual 251, 3) := by decide +kernel
theorem dX6_digestWays_113 : decode cX6_digestWays 113 = .ok (.i2l, 1) := by decide +kernel
theorem dX6_digestWays_114 : decode cX6_digestWays 114 = .ok (.ladd, 1) := by decide +kernel
theorem dX6_digestWays_115 : decode cX6_digestWays 115 = .ok (.lstore_n 3, 1) := by decide +kernel
theorem dX6_digestWays_116 : decode cX6_digestWays 116 = .ok (.ldc2_w 210, 3) := by decide +kernel
theorem dX6_digestWays_119 : decode cX6_digestWays 119 = .ok (.lload_n 3, 1) := by decide +kernel
theorem dX6_digestWays_120 : decode cX6_digestWays 120 = .ok (.lmul, 1) := by decide +kernel
theorem dX6_digestWays_121 : decode cX6_digestWays 121 = .ok (.aload_n 0, 1) := by decide +kernel
theorem dX6_digestWays_122 : decode cX6_digestWays 122 = .ok (.iconst 1, 1) := by decide +kernel
theorem dX6_digestWays_123 : decode cX6_digestWays 123 = .ok (.invokevirtual 251, 3) := by decide +kernel
theorem dX6_digestWays_126 : decode cX6_digestWays 126 = .ok (.i2l, 1) := by decide +kernel
theorem dX6_digestWays_127 : decode cX6_digestWays 127 = .ok (.ladd, 1) := by decide +kernel
theorem dX6_digestWays_128 : decode cX6_digestWays 128 = .ok (.lstore_n 3, 1) := by decide +kernel
theorem dX6_digestWays_129 : decode cX6_digestWays 129 = .ok (.ldc2_w 210, 3) := by decide +kernel
theorem dX6_digestWays_132 : decode cX6_digestWays 132 = .ok (.lload_n 3, 1) := by decide +kernel
theorem dX6_digestWays_133 : decode cX6_digestWays 133 = .ok (.lmul, 1) := by decide +kernel
theorem dX6_digestWays_134 : decode cX6_digestWays 134 = .ok (.aload_n 0, 1) := by decide +kernel
theorem dX6_digestWays_135 : decode cX6_digestWays 135 = .ok (.invokevirtual 254, 3) := by decide +kernel
theorem dX6_digestWays_138 : decode cX6_digestWays 138 = .ok (.i2l, 1) := by decide +kernel
theorem dX6_digestWays_139 : decode cX6_digestWays 139 = .ok (.ladd, 1) := by decide +kernel
theorem dX6_digestWays_140 : decode cX6_digestWays 140 = .ok (.lreturn, 1) := by decide +kernel
theorem dX6_readDoc_0 : decode cX6_readDoc 0 = .ok (.aload_n 0, 1) := by decide +kernel
theorem dX6_readDoc_1 : decode cX6_readDoc 1 = .ok (.getfield 10, 3) := by decide +kernel
theorem dX6_readDoc_4 : decode cX6_readDoc 4 = .ok (.invokevirtual 257, 3) := by decide +kernel
theorem dX6_readDoc_7 : decode cX6_readDoc 7 = .ok (.aload_n 0, 1) := by decide +kernel
theorem dX6_readDoc_8 : decode cX6_readDoc 8 = .ok (.getfield 35, 3) := by decide +kernel
theorem dX6_readDoc_11 : decode cX6_readDoc 11 = .ok (.aload_n 0, 1) := by decide +kernel
theorem dX6_readDoc_12 : decode cX6_readDoc 12 = .ok (.getfield 10, 3) := by decide +kernel
theorem dX6_readDoc_15 : decode cX6_readDoc 15 = .ok (.invokevirtual 260, 3) := by decide +kernel
theorem dX6_readDoc_18 : decode cX6_readDoc 18 = .ok (.return_, 1) := by decide +kernel
theorem dX6_chooseBest_0 : decode cX6_chooseBest 0 = .ok (.aload_n 0, 1) := by decide +kernel
theorem dX6_chooseBest_1 : decode cX6_chooseBest 1 = .ok (.getfield 19, 3) := by decide +kernel
theorem dX6_chooseBest_4 : decode cX6_chooseBest 4 = .ok (.aload_n 0, 1) := by decide +kernel
theorem dX6_chooseBest_5 : decode cX6_chooseBest 5 = .ok (.getfield 10, 3) := by decide +kernel
theorem dX6_chooseBest_8 : decode cX6_chooseBest 8 = .ok (.aload_n 0, 1) := by decide +kernel
theorem dX6_chooseBest_9 : decode cX6_chooseBest 9 = .ok (.getfield 53, 3) := by decide +kernel
theorem dX6_chooseBest_12 : decode cX6_chooseBest 12 = .ok (.invokevirtual 264, 3) := by decide +kernel
theorem dX6_chooseBest_15 : decode cX6_chooseBest 15 = .ok (.aload_n 0, 1) := by decide +kernel
theorem dX6_chooseBest_16 : decode cX6_chooseBest 16 = .ok (.getfield 19, 3) := by decide +kernel
theorem dX6_chooseBest_19 : decode cX6_chooseBest 19 = .ok (.invokevirtual 267, 3) := by decide +kernel
theorem dX6_chooseBest_22 : decode cX6_chooseBest 22 = .ok (.istore_n 1, 1) := by decide +kernel
theorem dX6_chooseBest_23 : decode cX6_chooseBest 23 = .ok (.aload_n 0, 1) := by decide +kernel
theorem dX6_chooseBest_24 : decode cX6_chooseBest 24 = .ok (.aload_n 0, 1) := by decide +kernel
theorem dX6_chooseBest_25 : decode cX6_chooseBest 25 = .ok (.getfield 10, 3) := by decide +kernel
theorem dX6_chooseBest_28 : decode cX6_chooseBest 28 = .ok (.getfield 196, 3) := by decide +kernel
theorem dX6_chooseBest_31 : decode cX6_chooseBest 31 = .ok (.ifCond .le 12, 3) := by decide +kernel
theorem dX6_chooseBest_34 : decode cX6_chooseBest 34 = .ok (.iload_n 1, 1) := by decide +kernel
theorem dX6_chooseBest_35 : decode cX6_chooseBest 35 = .ok (.iconst (-1), 1) := by decide +kernel
theorem dX6_chooseBest_36 : decode cX6_chooseBest 36 = .ok (.if_icmp .ne 7, 3) := by decide +kernel
theorem dX6_chooseBest_39 : decode cX6_chooseBest 39 = .ok (.iconst 1, 1) := by decide +kernel
theorem dX6_chooseBest_40 : decode cX6_chooseBest 40 = .ok (.goto 4, 3) := by decide +kernel
theorem dX6_chooseBest_43 : decode cX6_chooseBest 43 = .ok (.iconst 0, 1) := by decide +kernel
theorem dX6_chooseBest_44 : decode cX6_chooseBest 44 = .ok (.putfield 126, 3) := by decide +kernel
theorem dX6_chooseBest_47 : decode cX6_chooseBest 47 = .ok (.aload_n 0, 1) := by decide +kernel
theorem dX6_chooseBest_48 : decode cX6_chooseBest 48 = .ok (.getfield 126, 3) := by decide +kernel
theorem dX6_chooseBest_51 : decode cX6_chooseBest 51 = .ok (.ifCond .eq 25, 3) := by decide +kernel
theorem dX6_chooseBest_54 : decode cX6_chooseBest 54 = .ok (.aload_n 0, 1) := by decide +kernel
theorem dX6_chooseBest_55 : decode cX6_chooseBest 55 = .ok (.getfield 19, 3) := by decide +kernel
theorem dX6_chooseBest_58 : decode cX6_chooseBest 58 = .ok (.aload_n 0, 1) := by decide +kernel
theorem dX6_chooseBest_59 : decode cX6_chooseBest 59 = .ok (.getfield 10, 3) := by decide +kernel
theorem dX6_chooseBest_62 : decode cX6_chooseBest 62 = .ok (.sipush 1000, 3) := by decide +kernel
theorem dX6_chooseBest_65 : decode cX6_chooseBest 65 = .ok (.invokevirtual 264, 3) := by decide +kernel
theorem dX6_chooseBest_68 : decode cX6_chooseBest 68 = .ok (.aload_n 0, 1) := by decide +kernel
theorem dX6_chooseBest_69 : decode cX6_chooseBest 69 = .ok (.getfield 19, 3) := by decide +kernel
theorem dX6_chooseBest_72 : decode cX6_chooseBest 72 = .ok (.invokevirtual 269, 3) := by decide +kernel
theorem dX6_chooseBest_75 : decode cX6_chooseBest 75 = .ok (.istore_n 1, 1) := by decide +kernel
theorem dX6_chooseBest_76 : decode cX6_chooseBest 76 = .ok (.aload_n 0, 1) := by decide +kernel
theorem dX6_chooseBest_77 : decode cX6_chooseBest 77 = .ok (.iload_n 1, 1) := by decide +kernel
theorem dX6_chooseBest_78 : decode cX6_chooseBest 78 = .ok (.iconst (-1), 1) := by decide +kernel
theorem dX6_chooseBest_79 : decode cX6_chooseBest 79 = .ok (.if_icmp .eq 7, 3) := by decide +kernel
theorem dX6_chooseBest_82 : decode cX6_chooseBest 82 = .ok (.iconst 1, 1) := by decide +kernel
theorem dX6_chooseBest_83 : decode cX6_chooseBest 83 = .ok (.goto 4, 3) := by decide +kernel
theorem dX6_chooseBest_86 : decode cX6_chooseBest 86 = .ok (.iconst 0, 1) := by decide +kernel
theorem dX6_chooseBest_87 : decode cX6_chooseBest 87 = .ok (.putfield 122, 3) := by decide +kernel
theorem dX6_chooseBest_90 : decode cX6_chooseBest 90 = .ok (.aload_n 0, 1) := by decide +kernel
theorem dX6_chooseBest_91 : decode cX6_chooseBest 91 = .ok (.getfield 42, 3) := by decide +kernel
theorem dX6_chooseBest_94 : decode cX6_chooseBest 94 = .ok (.invokevirtual 272, 3) := by decide +kernel
theorem dX6_chooseBest_97 : decode cX6_chooseBest 97 = .ok (.aload_n 0, 1) := by decide +kernel
theorem dX6_chooseBest_98 : decode cX6_chooseBest 98 = .ok (.getfield 122, 3) := by decide +kernel
theorem dX6_chooseBest_101 : decode cX6_chooseBest 101 = .ok (.ifCond .eq 8, 3) := by decide +kernel
theorem dX6_chooseBest_104 : decode cX6_chooseBest 104 = .ok (.aload_n 0, 1) := by decide +kernel
theorem dX6_chooseBest_105 : decode cX6_chooseBest 105 = .ok (.iload_n 1, 1) := by decide +kernel
theorem dX6_chooseBest_106 : decode cX6_chooseBest 106 = .ok (.invokevirtual 275, 3) := by decide +kernel
theorem dX6_chooseBest_109 : decode cX6_chooseBest 109 = .ok (.aload_n 0, 1) := by decide +kernel
theorem dX6_chooseBest_110 : decode cX6_chooseBest 110 = .ok (.getfield 126, 3) := by decide +kernel
theorem dX6_chooseBest_113 : decode cX6_chooseBest 113 = .ok (.ifCond .eq 18, 3) := by decide +kernel
theorem dX6_chooseBest_116 : decode cX6_chooseBest 116 = .ok (.aload_n 0, 1) := by decide +kernel
theorem dX6_chooseBest_117 : decode cX6_chooseBest 117 = .ok (.getfield 19, 3) := by decide +kernel
theorem dX6_chooseBest_120 : decode cX6_chooseBest 120 = .ok (.aload_n 0, 1) := by decide +kernel
theorem dX6_chooseBest_121 : decode cX6_chooseBest 121 = .ok (.getfield 10, 3) := by decide +kernel
theorem dX6_chooseBest_124 : decode cX6_chooseBest 124 = .ok (.aload_n 0, 1) := by decide +kernel
theorem dX6_chooseBest_125 : decode cX6_chooseBest 125 = .ok (.getfield 53, 3) := by decide +kernel
theorem dX6_chooseBest_128 : decode cX6_chooseBest 128 = .ok (.invokevirtual 264, 3) := by decide +kernel
theorem dX6_chooseBest_131 : decode cX6_chooseBest 131 = .ok (.return_, 1) := by decide +kernel
theorem dX6_keepBest_0 : decode cX6_keepBest 0 = .ok (.aload_n 0, 1) := by decide +kernel
theorem dX6_keepBest_1 : decode cX6_keepBest 1 = .ok (.getfield 19, 3) := by decide +kernel
theorem dX6_keepBest_4 : decode cX6_keepBest 4 = .ok (.getfield 109, 3) := by decide +kernel
theorem dX6_keepBest_7 : decode cX6_keepBest 7 = .ok (.astore_n 2, 1) := by decide +kernel
theorem dX6_keepBest_8 : decode cX6_keepBest 8 = .ok (.aload_n 0, 1) := by decide +kernel
theorem dX6_keepBest_9 : decode cX6_keepBest 9 = .ok (.getfield 28, 3) := by decide +kernel
theorem dX6_keepBest_12 : decode cX6_keepBest 12 = .ok (.iconst 0, 1) := by decide +kernel
theorem dX6_keepBest_13 : decode cX6_keepBest 13 = .ok (.aload_n 2, 1) := by decide +kernel
theorem dX6_keepBest_14 : decode cX6_keepBest 14 = .ok (.iload_n 1, 1) := by decide +kernel
theorem dX6_keepBest_15 : decode cX6_keepBest 15 = .ok (.iconst 0, 1) := by decide +kernel
theorem dX6_keepBest_16 : decode cX6_keepBest 16 = .ok (.invokevirtual 112, 3) := by decide +kernel
theorem dX6_keepBest_19 : decode cX6_keepBest 19 = .ok (.aload_n 2, 1) := by decide +kernel
theorem dX6_keepBest_20 : decode cX6_keepBest 20 = .ok (.iload_n 1, 1) := by decide +kernel
theorem dX6_keepBest_21 : decode cX6_keepBest 21 = .ok (.iconst 1, 1) := by decide +kernel
theorem dX6_keepBest_22 : decode cX6_keepBest 22 = .ok (.invokevirtual 112, 3) := by decide +kernel
theorem dX6_keepBest_25 : decode cX6_keepBest 25 = .ok (.aload_n 2, 1) := by decide +kernel
theorem dX6_keepBest_26 : decode cX6_keepBest 26 = .ok (.iload_n 1, 1) := by decide +kernel
theorem dX6_keepBest_27 : decode cX6_keepBest 27 = .ok (.iconst 2, 1) := by decide +kernel
theorem dX6_keepBest_28 : decode cX6_keepBest 28 = .ok (.invokevirtual 112, 3) := by decide +kernel
theorem dX6_keepBest_31 : decode cX6_keepBest 31 = .ok (.aload_n 2, 1) := by decide +kernel
theorem dX6_keepBest_32 : decode cX6_keepBest 32 = .ok (.iload_n 1, 1) := by decide +kernel
theorem dX6_keepBest_33 : decode cX6_keepBest 33 = .ok (.iconst 3, 1) := by decide +kernel
theorem dX6_keepBest_34 : decode cX6_keepBest 34 = .ok (.invokevirtual 112, 3) := by decide +kernel
theorem dX6_keepBest_37 : decode cX6_keepBest 37 = .ok (.invokevirtual 278, 3) := by decide +kernel
theorem dX6_keepBest_40 : decode cX6_keepBest 40 = .ok (.aload_n 0, 1) := by decide +kernel
theorem dX6_keepBest_41 : decode cX6_keepBest 41 = .ok (.getfield 35, 3) := by decide +kernel
theorem dX6_keepBest_44 : decode cX6_keepBest 44 = .ok (.aload_n 0, 1) := by decide +kernel
theorem dX6_keepBest_45 : decode cX6_keepBest 45 = .ok (.getfield 10, 3) := by decide +kernel
theorem dX6_keepBest_48 : decode cX6_keepBest 48 = .ok (.aload_n 0, 1) := by decide +kernel
theorem dX6_keepBest_49 : decode cX6_keepBest 49 = .ok (.getfield 28, 3) := by decide +kernel
theorem dX6_keepBest_52 : decode cX6_keepBest 52 = .ok (.iconst 0, 1) := by decide +kernel
theorem dX6_keepBest_53 : decode cX6_keepBest 53 = .ok (.iconst 3, 1) := by decide +kernel
theorem dX6_keepBest_54 : decode cX6_keepBest 54 = .ok (.invokevirtual 112, 3) := by decide +kernel
theorem dX6_keepBest_57 : decode cX6_keepBest 57 = .ok (.invokevirtual 282, 3) := by decide +kernel
theorem dX6_keepBest_60 : decode cX6_keepBest 60 = .ok (.aload_n 0, 1) := by decide +kernel
theorem dX6_keepBest_61 : decode cX6_keepBest 61 = .ok (.getfield 42, 3) := by decide +kernel
theorem dX6_keepBest_64 : decode cX6_keepBest 64 = .ok (.aload_n 0, 1) := by decide +kernel
theorem dX6_keepBest_65 : decode cX6_keepBest 65 = .ok (.getfield 10, 3) := by decide +kernel
theorem dX6_keepBest_68 : decode cX6_keepBest 68 = .ok (.aload_n 0, 1) := by decide +kernel
theorem dX6_keepBest_69 : decode cX6_keepBest 69 = .ok (.getfield 35, 3) := by decide +kernel
theorem dX6_keepBest_72 : decode cX6_keepBest 72 = .ok (.getfield 285, 3) := by decide +kernel
theorem dX6_keepBest_75 : decode cX6_keepBest 75 = .ok (.invokevirtual 287, 3) := by decide +kernel
theorem dX6_keepBest_78 : decode cX6_keepBest 78 = .ok (.return_, 1) := by decide +kernel
theorem dX6_sheetOf_0 : decode cX6_sheetOf 0 = .ok (.iload_n 1, 1) := by decide +kernel
theorem dX6_sheetOf_1 : decode cX6_sheetOf 1 = .ok (.ifCond .lt 12, 3) := by decide +kernel
theorem dX6_sheetOf_4 : decode cX6_sheetOf 4 = .ok (.iload_n 1, 1) := by decide +kernel
theorem dX6_sheetOf_5 : decode cX6_sheetOf 5 = .ok (.aload_n 0, 1) := by decide +kernel
theorem dX6_sheetOf_6 : decode cX6_sheetOf 6 = .ok (.getfield 48, 3) := by decide +kernel
theorem dX6_sheetOf_9 : decode cX6_sheetOf 9 = .ok (.arraylength, 1) := by decide +kernel
theorem dX6_sheetOf_10 : decode cX6_sheetOf 10 = .ok (.if_icmp .lt 7, 3) := by decide +kernel
theorem dX6_sheetOf_13 : decode cX6_sheetOf 13 = .ok (.aconst_null, 1) := by decide +kernel
theorem dX6_sheetOf_14 : decode cX6_sheetOf 14 = .ok (.goto 9, 3) := by decide +kernel
theorem dX6_sheetOf_17 : decode cX6_sheetOf 17 = .ok (.aload_n 0, 1) := by decide +kernel
theorem dX6_sheetOf_18 : decode cX6_sheetOf 18 = .ok (.getfield 48, 3) := by decide +kernel
theorem dX6_sheetOf_21 : decode cX6_sheetOf 21 = .ok (.iload_n 1, 1) := by decide +kernel
theorem dX6_sheetOf_22 : decode cX6_sheetOf 22 = .ok (.aaload, 1) := by decide +kernel
theorem dX6_sheetOf_23 : decode cX6_sheetOf 23 = .ok (.areturn, 1) := by decide +kernel
theorem dX6_isByte_0 : decode cX6_isByte 0 = .ok (.iload_n 0, 1) := by decide +kernel
theorem dX6_isByte_1 : decode cX6_isByte 1 = .ok (.ifCond .lt 14, 3) := by decide +kernel
theorem dX6_isByte_4 : decode cX6_isByte 4 = .ok (.iload_n 0, 1) := by decide +kernel
theorem dX6_isByte_5 : decode cX6_isByte 5 = .ok (.sipush 255, 3) := by decide +kernel
theorem dX6_isByte_8 : decode cX6_isByte 8 = .ok (.if_icmp .gt 7, 3) := by decide +kernel
theorem dX6_isByte_11 : decode cX6_isByte 11 = .ok (.iconst 1, 1) := by decide +kernel
theorem dX6_isByte_12 : decode cX6_isByte 12 = .ok (.goto 4, 3) := by decide +kernel
theorem dX6_isByte_15 : decode cX6_isByte 15 = .ok (.iconst 0, 1) := by decide +kernel
theorem dX6_isByte_16 : decode cX6_isByte 16 = .ok (.ireturn, 1) := by decide +kernel
theorem dX6_isForm_0 : decode cX6_isForm 0 = .ok (.iload_n 0, 1) := by decide +kernel
theorem dX6_isForm_1 : decode cX6_isForm 1 = .ok (.ifCond .lt 12, 3) := by decide +kernel
theorem dX6_isForm_4 : decode cX6_isForm 4 = .ok (.iload_n 0, 1) := by decide +kernel
theorem dX6_isForm_5 : decode cX6_isForm 5 = .ok (.iconst 3, 1) := by decide +kernel
theorem dX6_isForm_6 : decode cX6_isForm 6 = .ok (.if_icmp .ge 7, 3) := by decide +kernel
theorem dX6_isForm_9 : decode cX6_isForm 9 = .ok (.iconst 1, 1) := by decide +kernel
theorem dX6_isForm_10 : decode cX6_isForm 10 = .ok (.goto 4, 3) := by decide +kernel
theorem dX6_isForm_13 : decode cX6_isForm 13 = .ok (.iconst 0, 1) := by decide +kernel
theorem dX6_isForm_14 : decode cX6_isForm 14 = .ok (.ireturn, 1) := by decide +kernel
theorem dX6_wrongItem_0 : decode cX6_wrongItem 0 = .ok (.aload_n 0, 1) := by decide +kernel
theorem dX6_wrongItem_1 : decode cX6_wrongItem 1 = .ok (.invokevirtual 80, 3) := by decide +kernel
theorem dX6_wrongItem_4 : decode cX6_wrongItem 4 = .ok (.ifCond .eq 5, 3) := by decide +kernel
theorem dX6_wrongItem_7 : decode cX6_wrongItem 7 = .ok (.iconst 1, 1) := by decide +kernel
theorem dX6_wrongItem_8 : decode cX6_wrongItem 8 = .ok (.ireturn, 1) := by decide +kernel
theorem dX6_wrongItem_9 : decode cX6_wrongItem 9 = .ok (.aload_n 0, 1) := by decide +kernel
theorem dX6_wrongItem_10 : decode cX6_wrongItem 10 = .ok (.getfield 172, 3) := by decide +kernel
theorem dX6_wrongItem_13 : decode cX6_wrongItem 13 = .ok (.iload_n 1, 1) := by decide +kernel
theorem dX6_wrongItem_14 : decode cX6_wrongItem 14 = .ok (.if_icmp .eq 5, 3) := by decide +kernel
theorem dX6_wrongItem_17 : decode cX6_wrongItem 17 = .ok (.iconst 3, 1) := by decide +kernel
theorem dX6_wrongItem_18 : decode cX6_wrongItem 18 = .ok (.ireturn, 1) := by decide +kernel
theorem dX6_wrongItem_19 : decode cX6_wrongItem 19 = .ok (.aload_n 0, 1) := by decide +kernel
theorem dX6_wrongItem_20 : decode cX6_wrongItem 20 = .ok (.iload_n 2, 1) := by decide +kernel
theorem dX6_wrongItem_21 : decode cX6_wrongItem 21 = .ok (.iconst 1, 1) := by decide +kernel
theorem dX6_wrongItem_22 : decode cX6_wrongItem 22 = .ok (.invokevirtual 175, 3) := by decide +kernel
theorem dX6_wrongItem_25 : decode cX6_wrongItem 25 = .ok (.ifCond .eq 7, 3) := by decide +kernel
theorem dX6_wrongItem_28 : decode cX6_wrongItem 28 = .ok (.iconst 0, 1) := by decide +kernel
theorem dX6_wrongItem_29 : decode cX6_wrongItem 29 = .ok (.goto 4, 3) := by decide +kernel
theorem dX6_wrongItem_32 : decode cX6_wrongItem 32 = .ok (.iconst 2, 1) := by decide +kernel
theorem dX6_wrongItem_33 : decode cX6_wrongItem 33 = .ok (.ireturn, 1) := by decide +kernel
theorem dX6_found_0 : decode cX6_found 0 = .ok (.aload_n 0, 1) := by decide +kernel
theorem dX6_found_1 : decode cX6_found 1 = .ok (.iload_n 1, 1) := by decide +kernel
theorem dX6_found_2 : decode cX6_found 2 = .ok (.putfield 205, 3) := by decide +kernel
theorem dX6_found_5 : decode cX6_found 5 = .ok (.bipush (-10), 2) := by decide +kernel
theorem dX6_found_7 : decode cX6_found 7 = .ok (.iload_n 1, 1) := by decide +kernel
theorem dX6_found_8 : decode cX6_found 8 = .ok (.isub, 1) := by decide +kernel
theorem dX6_found_9 : decode cX6_found 9 = .ok (.ireturn, 1) := by decide +kernel
