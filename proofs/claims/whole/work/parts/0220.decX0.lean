theorem dX0_init_0 : decode cX0_init 0 = .ok (.aload_n 0, 1) := by decide +kernel
theorem dX0_init_1 : decode cX0_init 1 = .ok (.invokespecial 3, 3) := by decide +kernel
theorem dX0_init_4 : decode cX0_init 4 = .ok (.aload_n 0, 1) := by decide +kernel
theorem dX0_init_5 : decode cX0_init 5 = .ok (.bipush 40, 2) := by decide +kernel
theorem dX0_init_7 : decode cX0_init 7 = .ok (.newarray .int, 2) := by decide +kernel
theorem dX0_init_9 : decode cX0_init 9 = .ok (.putfield 9, 3) := by decide +kernel
theorem dX0_init_12 : decode cX0_init 12 = .ok (.aload_n 0, 1) := by decide +kernel
theorem dX0_init_13 : decode cX0_init 13 = .ok (.bipush 40, 2) := by decide +kernel
theorem dX0_init_15 : decode cX0_init 15 = .ok (.newarray .int, 2) := by decide +kernel
theorem dX0_init_17 : decode cX0_init 17 = .ok (.putfield 15, 3) := by decide +kernel
theorem dX0_init_20 : decode cX0_init 20 = .ok (.aload_n 0, 1) := by decide +kernel
theorem dX0_init_21 : decode cX0_init 21 = .ok (.bipush 40, 2) := by decide +kernel
theorem dX0_init_23 : decode cX0_init 23 = .ok (.newarray .int, 2) := by decide +kernel
theorem dX0_init_25 : decode cX0_init 25 = .ok (.putfield 18, 3) := by decide +kernel
theorem dX0_init_28 : decode cX0_init 28 = .ok (.aload_n 0, 1) := by decide +kernel
theorem dX0_init_29 : decode cX0_init 29 = .ok (.bipush 40, 2) := by decide +kernel
theorem dX0_init_31 : decode cX0_init 31 = .ok (.newarray .int, 2) := by decide +kernel
theorem dX0_init_33 : decode cX0_init 33 = .ok (.putfield 21, 3) := by decide +kernel
theorem dX0_init_36 : decode cX0_init 36 = .ok (.aload_n 0, 1) := by decide +kernel
theorem dX0_init_37 : decode cX0_init 37 = .ok (.bipush 40, 2) := by decide +kernel
theorem dX0_init_39 : decode cX0_init 39 = .ok (.newarray .int, 2) := by decide +kernel
theorem dX0_init_41 : decode cX0_init 41 = .ok (.putfield 24, 3) := by decide +kernel
theorem dX0_init_44 : decode cX0_init 44 = .ok (.aload_n 0, 1) := by decide +kernel
theorem dX0_init_45 : decode cX0_init 45 = .ok (.bipush 40, 2) := by decide +kernel
theorem dX0_init_47 : decode cX0_init 47 = .ok (.newarray .int, 2) := by decide +kernel
theorem dX0_init_49 : decode cX0_init 49 = .ok (.putfield 27, 3) := by decide +kernel
theorem dX0_init_52 : decode cX0_init 52 = .ok (.aload_n 0, 1) := by decide +kernel
theorem dX0_init_53 : decode cX0_init 53 = .ok (.bipush 40, 2) := by decide +kernel
theorem dX0_init_55 : decode cX0_init 55 = .ok (.newarray .int, 2) := by decide +kernel
theorem dX0_init_57 : decode cX0_init 57 = .ok (.putfield 30, 3) := by decide +kernel
theorem dX0_init_60 : decode cX0_init 60 = .ok (.aload_n 0, 1) := by decide +kernel
theorem dX0_init_61 : decode cX0_init 61 = .ok (.bipush 40, 2) := by decide +kernel
theorem dX0_init_63 : decode cX0_init 63 = .ok (.newarray .int, 2) := by decide +kernel
theorem dX0_init_65 : decode cX0_init 65 = .ok (.putfield 33, 3) := by decide +kernel
theorem dX0_init_68 : decode cX0_init 68 = .ok (.aload_n 0, 1) := by decide +kernel
theorem dX0_init_69 : decode cX0_init 69 = .ok (.iconst (-1), 1) := by decide +kernel
theorem dX0_init_70 : decode cX0_init 70 = .ok (.putfield 36, 3) := by decide +kernel
theorem dX0_init_73 : decode cX0_init 73 = .ok (.aload_n 0, 1) := by decide +kernel
theorem dX0_init_74 : decode cX0_init 74 = .ok (.iconst (-1), 1) := by decide +kernel
theorem dX0_init_75 : decode cX0_init 75 = .ok (.putfield 40, 3) := by decide +kernel
theorem dX0_init_78 : decode cX0_init 78 = .ok (.return_, 1) := by decide +kernel
theorem dX0_append_0 : decode cX0_append 0 = .ok (.aload_n 0, 1) := by decide +kernel
theorem dX0_append_1 : decode cX0_append 1 = .ok (.getfield 43, 3) := by decide +kernel
theorem dX0_append_4 : decode cX0_append 4 = .ok (.ifCond .lt 15, 3) := by decide +kernel
theorem dX0_append_7 : decode cX0_append 7 = .ok (.aload_n 0, 1) := by decide +kernel
theorem dX0_append_8 : decode cX0_append 8 = .ok (.getfield 43, 3) := by decide +kernel
theorem dX0_append_11 : decode cX0_append 11 = .ok (.aload_n 0, 1) := by decide +kernel
theorem dX0_append_12 : decode cX0_append 12 = .ok (.getfield 9, 3) := by decide +kernel
theorem dX0_append_15 : decode cX0_append 15 = .ok (.arraylength, 1) := by decide +kernel
theorem dX0_append_16 : decode cX0_append 16 = .ok (.if_icmp .lt 5, 3) := by decide +kernel
theorem dX0_append_19 : decode cX0_append 19 = .ok (.iconst 0, 1) := by decide +kernel
theorem dX0_append_20 : decode cX0_append 20 = .ok (.ireturn, 1) := by decide +kernel
theorem dX0_append_21 : decode cX0_append 21 = .ok (.aload_n 0, 1) := by decide +kernel
theorem dX0_append_22 : decode cX0_append 22 = .ok (.getfield 9, 3) := by decide +kernel
theorem dX0_append_25 : decode cX0_append 25 = .ok (.aload_n 0, 1) := by decide +kernel
theorem dX0_append_26 : decode cX0_append 26 = .ok (.getfield 43, 3) := by decide +kernel
theorem dX0_append_29 : decode cX0_append 29 = .ok (.iload_n 1, 1) := by decide +kernel
theorem dX0_append_30 : decode cX0_append 30 = .ok (.iastore, 1) := by decide +kernel
theorem dX0_append_31 : decode cX0_append 31 = .ok (.aload_n 0, 1) := by decide +kernel
theorem dX0_append_32 : decode cX0_append 32 = .ok (.dup, 1) := by decide +kernel
theorem dX0_append_33 : decode cX0_append 33 = .ok (.getfield 43, 3) := by decide +kernel
theorem dX0_append_36 : decode cX0_append 36 = .ok (.iconst 1, 1) := by decide +kernel
theorem dX0_append_37 : decode cX0_append 37 = .ok (.iadd, 1) := by decide +kernel
theorem dX0_append_38 : decode cX0_append 38 = .ok (.putfield 43, 3) := by decide +kernel
theorem dX0_append_41 : decode cX0_append 41 = .ok (.iconst 1, 1) := by decide +kernel
theorem dX0_append_42 : decode cX0_append 42 = .ok (.ireturn, 1) := by decide +kernel
theorem dX0_hasPart_0 : decode cX0_hasPart 0 = .ok (.iload_n 1, 1) := by decide +kernel
theorem dX0_hasPart_1 : decode cX0_hasPart 1 = .ok (.ifCond .lt 21, 3) := by decide +kernel
theorem dX0_hasPart_4 : decode cX0_hasPart 4 = .ok (.iload_n 1, 1) := by decide +kernel
theorem dX0_hasPart_5 : decode cX0_hasPart 5 = .ok (.aload_n 0, 1) := by decide +kernel
theorem dX0_hasPart_6 : decode cX0_hasPart 6 = .ok (.getfield 46, 3) := by decide +kernel
theorem dX0_hasPart_9 : decode cX0_hasPart 9 = .ok (.if_icmp .ge 13, 3) := by decide +kernel
theorem dX0_hasPart_12 : decode cX0_hasPart 12 = .ok (.iload_n 1, 1) := by decide +kernel
theorem dX0_hasPart_13 : decode cX0_hasPart 13 = .ok (.bipush 40, 2) := by decide +kernel
theorem dX0_hasPart_15 : decode cX0_hasPart 15 = .ok (.if_icmp .ge 7, 3) := by decide +kernel
theorem dX0_hasPart_18 : decode cX0_hasPart 18 = .ok (.iconst 1, 1) := by decide +kernel
theorem dX0_hasPart_19 : decode cX0_hasPart 19 = .ok (.goto 4, 3) := by decide +kernel
theorem dX0_hasPart_22 : decode cX0_hasPart 22 = .ok (.iconst 0, 1) := by decide +kernel
theorem dX0_hasPart_23 : decode cX0_hasPart 23 = .ok (.ireturn, 1) := by decide +kernel
theorem dX0_parse_0 : decode cX0_parse 0 = .ok (.aload_n 0, 1) := by decide +kernel
theorem dX0_parse_1 : decode cX0_parse 1 = .ok (.iconst 0, 1) := by decide +kernel
theorem dX0_parse_2 : decode cX0_parse 2 = .ok (.putfield 46, 3) := by decide +kernel
theorem dX0_parse_5 : decode cX0_parse 5 = .ok (.aload_n 0, 1) := by decide +kernel
theorem dX0_parse_6 : decode cX0_parse 6 = .ok (.iconst 0, 1) := by decide +kernel
theorem dX0_parse_7 : decode cX0_parse 7 = .ok (.putfield 49, 3) := by decide +kernel
theorem dX0_parse_10 : decode cX0_parse 10 = .ok (.aload_n 0, 1) := by decide +kernel
theorem dX0_parse_11 : decode cX0_parse 11 = .ok (.iconst (-1), 1) := by decide +kernel
theorem dX0_parse_12 : decode cX0_parse 12 = .ok (.putfield 36, 3) := by decide +kernel
theorem dX0_parse_15 : decode cX0_parse 15 = .ok (.aload_n 0, 1) := by decide +kernel
theorem dX0_parse_16 : decode cX0_parse 16 = .ok (.iconst (-1), 1) := by decide +kernel
theorem dX0_parse_17 : decode cX0_parse 17 = .ok (.putfield 40, 3) := by decide +kernel
theorem dX0_parse_20 : decode cX0_parse 20 = .ok (.iconst 0, 1) := by decide +kernel
theorem dX0_parse_21 : decode cX0_parse 21 = .ok (.istore_n 1, 1) := by decide +kernel
theorem dX0_parse_22 : decode cX0_parse 22 = .ok (.iload_n 1, 1) := by decide +kernel
theorem dX0_parse_23 : decode cX0_parse 23 = .ok (.aload_n 0, 1) := by decide +kernel
theorem dX0_parse_24 : decode cX0_parse 24 = .ok (.getfield 43, 3) := by decide +kernel
theorem dX0_parse_27 : decode cX0_parse 27 = .ok (.if_icmp .ge 45, 3) := by decide +kernel
theorem dX0_parse_30 : decode cX0_parse 30 = .ok (.iload_n 1, 1) := by decide +kernel
theorem dX0_parse_31 : decode cX0_parse 31 = .ok (.aload_n 0, 1) := by decide +kernel
theorem dX0_parse_32 : decode cX0_parse 32 = .ok (.getfield 9, 3) := by decide +kernel
theorem dX0_parse_35 : decode cX0_parse 35 = .ok (.arraylength, 1) := by decide +kernel
theorem dX0_parse_36 : decode cX0_parse 36 = .ok (.if_icmp .ge 36, 3) := by decide +kernel
theorem dX0_parse_39 : decode cX0_parse 39 = .ok (.aload_n 0, 1) := by decide +kernel
theorem dX0_parse_40 : decode cX0_parse 40 = .ok (.getfield 36, 3) := by decide +kernel
theorem dX0_parse_43 : decode cX0_parse 43 = .ok (.iconst (-1), 1) := by decide +kernel
theorem dX0_parse_44 : decode cX0_parse 44 = .ok (.if_icmp .ne 28, 3) := by decide +kernel
theorem dX0_parse_47 : decode cX0_parse 47 = .ok (.aload_n 0, 1) := by decide +kernel
theorem dX0_parse_48 : decode cX0_parse 48 = .ok (.iload_n 1, 1) := by decide +kernel
theorem dX0_parse_49 : decode cX0_parse 49 = .ok (.aload_n 0, 1) := by decide +kernel
theorem dX0_parse_50 : decode cX0_parse 50 = .ok (.getfield 9, 3) := by decide +kernel
theorem dX0_parse_53 : decode cX0_parse 53 = .ok (.iload_n 1, 1) := by decide +kernel
theorem dX0_parse_54 : decode cX0_parse 54 = .ok (.iaload, 1) := by decide +kernel
theorem dX0_parse_55 : decode cX0_parse 55 = .ok (.invokevirtual 52, 3) := by decide +kernel
theorem dX0_parse_58 : decode cX0_parse 58 = .ok (.ifCond .ne 8, 3) := by decide +kernel
theorem dX0_parse_61 : decode cX0_parse 61 = .ok (.aload_n 0, 1) := by decide +kernel
theorem dX0_parse_62 : decode cX0_parse 62 = .ok (.iload_n 1, 1) := by decide +kernel
theorem dX0_parse_63 : decode cX0_parse 63 = .ok (.putfield 36, 3) := by decide +kernel
theorem dX0_parse_66 : decode cX0_parse 66 = .ok (.iinc 1 1, 3) := by decide +kernel
theorem dX0_parse_69 : decode cX0_parse 69 = .ok (.goto (-47), 3) := by decide +kernel
theorem dX0_parse_72 : decode cX0_parse 72 = .ok (.aload_n 0, 1) := by decide +kernel
theorem dX0_parse_73 : decode cX0_parse 73 = .ok (.getfield 36, 3) := by decide +kernel
theorem dX0_parse_76 : decode cX0_parse 76 = .ok (.iconst (-1), 1) := by decide +kernel
theorem dX0_parse_77 : decode cX0_parse 77 = .ok (.if_icmp .ne 19, 3) := by decide +kernel
theorem dX0_parse_80 : decode cX0_parse 80 = .ok (.aload_n 0, 1) := by decide +kernel
theorem dX0_parse_81 : decode cX0_parse 81 = .ok (.getfield 40, 3) := by decide +kernel
theorem dX0_parse_84 : decode cX0_parse 84 = .ok (.iconst (-1), 1) := by decide +kernel
theorem dX0_parse_85 : decode cX0_parse 85 = .ok (.if_icmp .eq 11, 3) := by decide +kernel
theorem dX0_parse_88 : decode cX0_parse 88 = .ok (.aload_n 0, 1) := by decide +kernel
theorem dX0_parse_89 : decode cX0_parse 89 = .ok (.aload_n 0, 1) := by decide +kernel
theorem dX0_parse_90 : decode cX0_parse 90 = .ok (.getfield 43, 3) := by decide +kernel
theorem dX0_parse_93 : decode cX0_parse 93 = .ok (.putfield 36, 3) := by decide +kernel
theorem dX0_parse_96 : decode cX0_parse 96 = .ok (.aload_n 0, 1) := by decide +kernel
theorem dX0_parse_97 : decode cX0_parse 97 = .ok (.getfield 36, 3) := by decide +kernel
theorem dX0_parse_100 : decode cX0_parse 100 = .ok (.iconst (-1), 1) := by decide +kernel
theorem dX0_parse_101 : decode cX0_parse 101 = .ok (.if_icmp .eq 13, 3) := by decide +kernel
theorem dX0_parse_104 : decode cX0_parse 104 = .ok (.aload_n 0, 1) := by decide +kernel
theorem dX0_parse_105 : decode cX0_parse 105 = .ok (.iconst 0, 1) := by decide +kernel
theorem dX0_parse_106 : decode cX0_parse 106 = .ok (.putfield 46, 3) := by decide +kernel
theorem dX0_parse_109 : decode cX0_parse 109 = .ok (.aload_n 0, 1) := by decide +kernel
theorem dX0_parse_110 : decode cX0_parse 110 = .ok (.iconst 0, 1) := by decide +kernel
theorem dX0_parse_111 : decode cX0_parse 111 = .ok (.putfield 49, 3) := by decide +kernel
theorem dX0_parse_114 : decode cX0_parse 114 = .ok (.aload_n 0, 1) := by decide +kernel
theorem dX0_parse_115 : decode cX0_parse 115 = .ok (.invokevirtual 56, 3) := by decide +kernel
theorem dX0_parse_118 : decode cX0_parse 118 = .ok (.return_, 1) := by decide +kernel
theorem dX0_goesOn_0 : decode cX0_goesOn 0 = .ok (.aload_n 0, 1) := by decide +kernel
theorem dX0_goesOn_1 : decode cX0_goesOn 1 = .ok (.getfield 46, 3) := by decide +kernel
theorem dX0_goesOn_4 : decode cX0_goesOn 4 = .ok (.ifCond .le 15, 3) := by decide +kernel
theorem dX0_goesOn_7 : decode cX0_goesOn 7 = .ok (.aload_n 0, 1) := by decide +kernel
theorem dX0_goesOn_8 : decode cX0_goesOn 8 = .ok (.getfield 40, 3) := by decide +kernel
theorem dX0_goesOn_11 : decode cX0_goesOn 11 = .ok (.iconst (-1), 1) := by decide +kernel
theorem dX0_goesOn_12 : decode cX0_goesOn 12 = .ok (.if_icmp .ne 7, 3) := by decide +kernel
theorem dX0_goesOn_15 : decode cX0_goesOn 15 = .ok (.iconst 1, 1) := by decide +kernel
theorem dX0_goesOn_16 : decode cX0_goesOn 16 = .ok (.goto 4, 3) := by decide +kernel
theorem dX0_goesOn_19 : decode cX0_goesOn 19 = .ok (.iconst 0, 1) := by decide +kernel
theorem dX0_goesOn_20 : decode cX0_goesOn 20 = .ok (.istore_n 3, 1) := by decide +kernel
theorem dX0_goesOn_21 : decode cX0_goesOn 21 = .ok (.iload_n 3, 1) := by decide +kernel
theorem dX0_goesOn_22 : decode cX0_goesOn 22 = .ok (.ifCond .eq 5, 3) := by decide +kernel
theorem dX0_goesOn_25 : decode cX0_goesOn 25 = .ok (.iconst 0, 1) := by decide +kernel
theorem dX0_goesOn_26 : decode cX0_goesOn 26 = .ok (.ireturn, 1) := by decide +kernel
theorem dX0_goesOn_27 : decode cX0_goesOn 27 = .ok (.aload_n 0, 1) := by decide +kernel
theorem dX0_goesOn_28 : decode cX0_goesOn 28 = .ok (.aload_n 0, 1) := by decide +kernel
theorem dX0_goesOn_29 : decode cX0_goesOn 29 = .ok (.getfield 40, 3) := by decide +kernel
theorem dX0_goesOn_32 : decode cX0_goesOn 32 = .ok (.invokevirtual 59, 3) := by decide +kernel
theorem dX0_goesOn_35 : decode cX0_goesOn 35 = .ok (.ifCond .eq 34, 3) := by decide +kernel
theorem dX0_goesOn_38 : decode cX0_goesOn 38 = .ok (.aload_n 0, 1) := by decide +kernel
theorem dX0_goesOn_39 : decode cX0_goesOn 39 = .ok (.getfield 15, 3) := by decide +kernel
theorem dX0_goesOn_42 : decode cX0_goesOn 42 = .ok (.aload_n 0, 1) := by decide +kernel
theorem dX0_goesOn_43 : decode cX0_goesOn 43 = .ok (.getfield 40, 3) := by decide +kernel
theorem dX0_goesOn_46 : decode cX0_goesOn 46 = .ok (.iaload, 1) := by decide +kernel
theorem dX0_goesOn_47 : decode cX0_goesOn 47 = .ok (.iconst 4, 1) := by decide +kernel
theorem dX0_goesOn_48 : decode cX0_goesOn 48 = .ok (.if_icmp .ne 21, 3) := by decide +kernel
theorem dX0_goesOn_51 : decode cX0_goesOn 51 = .ok (.aload_n 0, 1) := by decide +kernel
theorem dX0_goesOn_52 : decode cX0_goesOn 52 = .ok (.getfield 33, 3) := by decide +kernel
theorem dX0_goesOn_55 : decode cX0_goesOn 55 = .ok (.aload_n 0, 1) := by decide +kernel
theorem dX0_goesOn_56 : decode cX0_goesOn 56 = .ok (.getfield 40, 3) := by decide +kernel
theorem dX0_goesOn_59 : decode cX0_goesOn 59 = .ok (.iaload, 1) := by decide +kernel
theorem dX0_goesOn_60 : decode cX0_goesOn 60 = .ok (.ifCond .ne 9, 3) := by decide +kernel
theorem dX0_goesOn_63 : decode cX0_goesOn 63 = .ok (.aload_n 0, 1) := by decide +kernel
theorem dX0_goesOn_64 : decode cX0_goesOn 64 = .ok (.iload_n 2, 1) := by decide +kernel
theorem dX0_goesOn_65 : decode cX0_goesOn 65 = .ok (.invokevirtual 63, 3) := by decide +kernel
theorem dX0_goesOn_68 : decode cX0_goesOn 68 = .ok (.ireturn, 1) := by decide +kernel
theorem dX0_goesOn_69 : decode cX0_goesOn 69 = .ok (.iload_n 2, 1) := by decide +kernel
theorem dX0_goesOn_70 : decode cX0_goesOn 70 = .ok (.invokestatic 66, 3) := by decide +kernel
theorem dX0_goesOn_73 : decode cX0_goesOn 73 = .ok (.istore 4, 2) := by decide +kernel
theorem dX0_goesOn_75 : decode cX0_goesOn 75 = .ok (.iload 4, 2) := by decide +kernel
theorem dX0_goesOn_77 : decode cX0_goesOn 77 = .ok (.iconst (-1), 1) := by decide +kernel
theorem dX0_goesOn_78 : decode cX0_goesOn 78 = .ok (.if_icmp .eq 27, 3) := by decide +kernel
theorem dX0_goesOn_81 : decode cX0_goesOn 81 = .ok (.aload_n 0, 1) := by decide +kernel
theorem dX0_goesOn_82 : decode cX0_goesOn 82 = .ok (.getfield 46, 3) := by decide +kernel
theorem dX0_goesOn_85 : decode cX0_goesOn 85 = .ok (.bipush 40, 2) := by decide +kernel
theorem dX0_goesOn_87 : decode cX0_goesOn 87 = .ok (.if_icmp .ge 18, 3) := by decide +kernel
theorem dX0_goesOn_90 : decode cX0_goesOn 90 = .ok (.iload 4, 2) := by decide +kernel
theorem dX0_goesOn_92 : decode cX0_goesOn 92 = .ok (.iconst 3, 1) := by decide +kernel
theorem dX0_goesOn_93 : decode cX0_goesOn 93 = .ok (.if_icmp .ne 14, 3) := by decide +kernel
theorem dX0_goesOn_96 : decode cX0_goesOn 96 = .ok (.aload_n 0, 1) := by decide +kernel
theorem dX0_goesOn_97 : decode cX0_goesOn 97 = .ok (.getfield 49, 3) := by decide +kernel
theorem dX0_goesOn_100 : decode cX0_goesOn 100 = .ok (.bipush 6, 2) := by decide +kernel
theorem dX0_goesOn_102 : decode cX0_goesOn 102 = .ok (.if_icmp .ne 5, 3) := by decide +kernel
theorem dX0_goesOn_105 : decode cX0_goesOn 105 = .ok (.iconst 0, 1) := by decide +kernel
theorem dX0_goesOn_106 : decode cX0_goesOn 106 = .ok (.ireturn, 1) := by decide +kernel
theorem dX0_goesOn_107 : decode cX0_goesOn 107 = .ok (.aload_n 0, 1) := by decide +kernel
theorem dX0_goesOn_108 : decode cX0_goesOn 108 = .ok (.iload_n 1, 1) := by decide +kernel
theorem dX0_goesOn_109 : decode cX0_goesOn 109 = .ok (.iload 4, 2) := by decide +kernel
theorem dX0_goesOn_111 : decode cX0_goesOn 111 = .ok (.iload_n 2, 1) := by decide +kernel
theorem dX0_goesOn_112 : decode cX0_goesOn 112 = .ok (.invokevirtual 70, 3) := by decide +kernel
theorem dX0_goesOn_115 : decode cX0_goesOn 115 = .ok (.iconst 1, 1) := by decide +kernel
theorem dX0_goesOn_116 : decode cX0_goesOn 116 = .ok (.ireturn, 1) := by decide +kernel
theorem dX0_takesFigure_0 : decode cX0_takesFigure 0 = .ok (.iload_n 1, 1) := by decide +kernel
theorem dX0_takesFigure_1 : decode cX0_takesFigure 1 = .ok (.bipush 49, 2) := by decide +kernel
theorem dX0_takesFigure_3 : decode cX0_takesFigure 3 = .ok (.if_icmp .lt 9, 3) := by decide +kernel
theorem dX0_takesFigure_6 : decode cX0_takesFigure 6 = .ok (.iload_n 1, 1) := by decide +kernel
theorem dX0_takesFigure_7 : decode cX0_takesFigure 7 = .ok (.bipush 57, 2) := by decide +kernel
theorem dX0_takesFigure_9 : decode cX0_takesFigure 9 = .ok (.if_icmp .le 5, 3) := by decide +kernel
theorem dX0_takesFigure_12 : decode cX0_takesFigure 12 = .ok (.iconst 0, 1) := by decide +kernel
theorem dX0_takesFigure_13 : decode cX0_takesFigure 13 = .ok (.ireturn, 1) := by decide +kernel
theorem dX0_takesFigure_14 : decode cX0_takesFigure 14 = .ok (.aload_n 0, 1) := by decide +kernel
theorem dX0_takesFigure_15 : decode cX0_takesFigure 15 = .ok (.getfield 33, 3) := by decide +kernel
theorem dX0_takesFigure_18 : decode cX0_takesFigure 18 = .ok (.aload_n 0, 1) := by decide +kernel
theorem dX0_takesFigure_19 : decode cX0_takesFigure 19 = .ok (.getfield 40, 3) := by decide +kernel
theorem dX0_takesFigure_22 : decode cX0_takesFigure 22 = .ok (.iload_n 1, 1) := by decide +kernel
theorem dX0_takesFigure_23 : decode cX0_takesFigure 23 = .ok (.bipush 48, 2) := by decide +kernel
theorem dX0_takesFigure_25 : decode cX0_takesFigure 25 = .ok (.isub, 1) := by decide +kernel
theorem dX0_takesFigure_26 : decode cX0_takesFigure 26 = .ok (.iastore, 1) := by decide +kernel
theorem dX0_takesFigure_27 : decode cX0_takesFigure 27 = .ok (.iconst 1, 1) := by decide +kernel
theorem dX0_takesFigure_28 : decode cX0_takesFigure 28 = .ok (.ireturn, 1) := by decide +kernel
theorem dX0_kindOf_0 : decode cX0_kindOf 0 = .ok (.iload_n 0, 1) := by decide +kernel
theorem dX0_kindOf_1 : decode cX0_kindOf 1 = .ok (.lookupswitch 61 #[(67, 55), (70, 59), (72, 51), (78, 57), (86, 53)], 51) := by decide +kernel
theorem dX0_kindOf_52 : decode cX0_kindOf 52 = .ok (.iconst 1, 1) := by decide +kernel
theorem dX0_kindOf_53 : decode cX0_kindOf 53 = .ok (.ireturn, 1) := by decide +kernel
theorem dX0_kindOf_54 : decode cX0_kindOf 54 = .ok (.iconst 2, 1) := by decide +kernel
theorem dX0_kindOf_55 : decode cX0_kindOf 55 = .ok (.ireturn, 1) := by decide +kernel
theorem dX0_kindOf_56 : decode cX0_kindOf 56 = .ok (.iconst 3, 1) := by decide +kernel
theorem dX0_kindOf_57 : decode cX0_kindOf 57 = .ok (.ireturn, 1) := by decide +kernel
theorem dX0_kindOf_58 : decode cX0_kindOf 58 = .ok (.iconst 4, 1) := by decide +kernel
theorem dX0_kindOf_59 : decode cX0_kindOf 59 = .ok (.ireturn, 1) := by decide +kernel
theorem dX0_kindOf_60 : decode cX0_kindOf 60 = .ok (.iconst 5, 1) := by decide +kernel
theorem dX0_kindOf_61 : decode cX0_kindOf 61 = .ok (.ireturn, 1) := by decide +kernel
theorem dX0_kindOf_62 : decode cX0_kindOf 62 = .ok (.iload_n 0, 1) := by decide +kernel
theorem dX0_kindOf_63 : decode cX0_kindOf 63 = .ok (.bipush 97, 2) := by decide +kernel
theorem dX0_kindOf_65 : decode cX0_kindOf 65 = .ok (.if_icmp .lt 13, 3) := by decide +kernel
theorem dX0_kindOf_68 : decode cX0_kindOf 68 = .ok (.iload_n 0, 1) := by decide +kernel
theorem dX0_kindOf_69 : decode cX0_kindOf 69 = .ok (.bipush 105, 2) := by decide +kernel
theorem dX0_kindOf_71 : decode cX0_kindOf 71 = .ok (.if_icmp .gt 7, 3) := by decide +kernel
theorem dX0_kindOf_74 : decode cX0_kindOf 74 = .ok (.iconst 0, 1) := by decide +kernel
theorem dX0_kindOf_75 : decode cX0_kindOf 75 = .ok (.goto 4, 3) := by decide +kernel
theorem dX0_kindOf_78 : decode cX0_kindOf 78 = .ok (.iconst (-1), 1) := by decide +kernel
theorem dX0_kindOf_79 : decode cX0_kindOf 79 = .ok (.ireturn, 1) := by decide +kernel
theorem dX0_begin_0 : decode cX0_begin 0 = .ok (.aload_n 0, 1) := by decide +kernel
theorem dX0_begin_1 : decode cX0_begin 1 = .ok (.getfield 46, 3) := by decide +kernel
theorem dX0_begin_4 : decode cX0_begin 4 = .ok (.istore 4, 2) := by decide +kernel
theorem dX0_begin_6 : decode cX0_begin 6 = .ok (.aload_n 0, 1) := by decide +kernel
theorem dX0_begin_7 : decode cX0_begin 7 = .ok (.dup, 1) := by decide +kernel
theorem dX0_begin_8 : decode cX0_begin 8 = .ok (.getfield 46, 3) := by decide +kernel
theorem dX0_begin_11 : decode cX0_begin 11 = .ok (.iconst 1, 1) := by decide +kernel
theorem dX0_begin_12 : decode cX0_begin 12 = .ok (.iadd, 1) := by decide +kernel
theorem dX0_begin_13 : decode cX0_begin 13 = .ok (.putfield 46, 3) := by decide +kernel
theorem dX0_begin_16 : decode cX0_begin 16 = .ok (.aload_n 0, 1) := by decide +kernel
theorem dX0_begin_17 : decode cX0_begin 17 = .ok (.getfield 15, 3) := by decide +kernel
theorem dX0_begin_20 : decode cX0_begin 20 = .ok (.iload 4, 2) := by decide +kernel
theorem dX0_begin_22 : decode cX0_begin 22 = .ok (.iload_n 2, 1) := by decide +kernel
theorem dX0_begin_23 : decode cX0_begin 23 = .ok (.iastore, 1) := by decide +kernel
theorem dX0_begin_24 : decode cX0_begin 24 = .ok (.aload_n 0, 1) := by decide +kernel
theorem dX0_begin_25 : decode cX0_begin 25 = .ok (.getfield 18, 3) := by decide +kernel
theorem dX0_begin_28 : decode cX0_begin 28 = .ok (.iload 4, 2) := by decide +kernel
theorem dX0_begin_30 : decode cX0_begin 30 = .ok (.iload_n 1, 1) := by decide +kernel
theorem dX0_begin_31 : decode cX0_begin 31 = .ok (.iastore, 1) := by decide +kernel
theorem dX0_begin_32 : decode cX0_begin 32 = .ok (.aload_n 0, 1) := by decide +kernel
theorem dX0_begin_33 : decode cX0_begin 33 = .ok (.getfield 24, 3) := by decide +kernel
theorem dX0_begin_36 : decode cX0_begin 36 = .ok (.iload 4, 2) := by decide +kernel
theorem dX0_begin_38 : decode cX0_begin 38 = .ok (.aload_n 0, 1) := by decide +kernel
theorem dX0_begin_39 : decode cX0_begin 39 = .ok (.getfield 40, 3) := by decide +kernel
theorem dX0_begin_42 : decode cX0_begin 42 = .ok (.iastore, 1) := by decide +kernel
theorem dX0_begin_43 : decode cX0_begin 43 = .ok (.aload_n 0, 1) := by decide +kernel
theorem dX0_begin_44 : decode cX0_begin 44 = .ok (.getfield 27, 3) := by decide +kernel
theorem dX0_begin_47 : decode cX0_begin 47 = .ok (.iload 4, 2) := by decide +kernel
theorem dX0_begin_49 : decode cX0_begin 49 = .ok (.iconst (-1), 1) := by decide +kernel
theorem dX0_begin_50 : decode cX0_begin 50 = .ok (.iastore, 1) := by decide +kernel
theorem dX0_begin_51 : decode cX0_begin 51 = .ok (.aload_n 0, 1) := by decide +kernel
theorem dX0_begin_52 : decode cX0_begin 52 = .ok (.getfield 30, 3) := by decide +kernel
theorem dX0_begin_55 : decode cX0_begin 55 = .ok (.iload 4, 2) := by decide +kernel
theorem dX0_begin_57 : decode cX0_begin 57 = .ok (.iconst (-1), 1) := by decide +kernel
theorem dX0_begin_58 : decode cX0_begin 58 = .ok (.iastore, 1) := by decide +kernel
theorem dX0_begin_59 : decode cX0_begin 59 = .ok (.aload_n 0, 1) := by decide +kernel
theorem dX0_begin_60 : decode cX0_begin 60 = .ok (.getfield 33, 3) := by decide +kernel
theorem dX0_begin_63 : decode cX0_begin 63 = .ok (.iload 4, 2) := by decide +kernel
theorem dX0_begin_65 : decode cX0_begin 65 = .ok (.iconst 0, 1) := by decide +kernel
theorem dX0_begin_66 : decode cX0_begin 66 = .ok (.iastore, 1) := by decide +kernel
theorem dX0_begin_67 : decode cX0_begin 67 = .ok (.iload_n 2, 1) := by decide +kernel
theorem dX0_begin_68 : decode cX0_begin 68 = .ok (.ifCond .ne 16, 3) := by decide +kernel
theorem dX0_begin_71 : decode cX0_begin 71 = .ok (.aload_n 0, 1) := by decide +kernel
theorem dX0_begin_72 : decode cX0_begin 72 = .ok (.getfield 33, 3) := by decide +kernel
theorem dX0_begin_75 : decode cX0_begin 75 = .ok (.iload 4, 2) := by decide +kernel
theorem dX0_begin_77 : decode cX0_begin 77 = .ok (.iload_n 3, 1) := by decide +kernel
theorem dX0_begin_78 : decode cX0_begin 78 = .ok (.bipush 97, 2) := by decide +kernel
theorem dX0_begin_80 : decode cX0_begin 80 = .ok (.isub, 1) := by decide +kernel
theorem dX0_begin_81 : decode cX0_begin 81 = .ok (.iconst 1, 1) := by decide +kernel
theorem dX0_begin_82 : decode cX0_begin 82 = .ok (.iadd, 1) := by decide +kernel
theorem dX0_begin_83 : decode cX0_begin 83 = .ok (.iastore, 1) := by decide +kernel
theorem dX0_begin_84 : decode cX0_begin 84 = .ok (.iload_n 2, 1) := by decide +kernel
theorem dX0_begin_85 : decode cX0_begin 85 = .ok (.iconst 3, 1) := by decide +kernel
theorem dX0_begin_86 : decode cX0_begin 86 = .ok (.if_icmp .ne 24, 3) := by decide +kernel
theorem dX0_begin_89 : decode cX0_begin 89 = .ok (.aload_n 0, 1) := by decide +kernel
theorem dX0_begin_90 : decode cX0_begin 90 = .ok (.getfield 33, 3) := by decide +kernel
theorem dX0_begin_93 : decode cX0_begin 93 = .ok (.iload 4, 2) := by decide +kernel
theorem dX0_begin_95 : decode cX0_begin 95 = .ok (.aload_n 0, 1) := by decide +kernel
theorem dX0_begin_96 : decode cX0_begin 96 = .ok (.getfield 49, 3) := by decide +kernel
theorem dX0_begin_99 : decode cX0_begin 99 = .ok (.iastore, 1) := by decide +kernel
theorem dX0_begin_100 : decode cX0_begin 100 = .ok (.aload_n 0, 1) := by decide +kernel
theorem dX0_begin_101 : decode cX0_begin 101 = .ok (.dup, 1) := by decide +kernel
theorem dX0_begin_102 : decode cX0_begin 102 = .ok (.getfield 49, 3) := by decide +kernel
theorem dX0_begin_105 : decode cX0_begin 105 = .ok (.iconst 1, 1) := by decide +kernel
theorem dX0_begin_106 : decode cX0_begin 106 = .ok (.iadd, 1) := by decide +kernel
theorem dX0_begin_107 : decode cX0_begin 107 = .ok (.putfield 49, 3) := by decide +kernel
theorem dX0_begin_110 : decode cX0_begin 110 = .ok (.aload_n 0, 1) := by decide +kernel
theorem dX0_begin_111 : decode cX0_begin 111 = .ok (.iload 4, 2) := by decide +kernel
theorem dX0_begin_113 : decode cX0_begin 113 = .ok (.invokevirtual 74, 3) := by decide +kernel
theorem dX0_begin_116 : decode cX0_begin 116 = .ok (.iload_n 2, 1) := by decide +kernel
theorem dX0_begin_117 : decode cX0_begin 117 = .ok (.ifCond .eq 12, 3) := by decide +kernel
theorem dX0_begin_120 : decode cX0_begin 120 = .ok (.aload_n 0, 1) := by decide +kernel
theorem dX0_begin_121 : decode cX0_begin 121 = .ok (.iload 4, 2) := by decide +kernel
theorem dX0_begin_123 : decode cX0_begin 123 = .ok (.putfield 40, 3) := by decide +kernel
theorem dX0_begin_126 : decode cX0_begin 126 = .ok (.goto 7, 3) := by decide +kernel
theorem dX0_begin_129 : decode cX0_begin 129 = .ok (.aload_n 0, 1) := by decide +kernel
theorem dX0_begin_130 : decode cX0_begin 130 = .ok (.invokevirtual 78, 3) := by decide +kernel
theorem dX0_begin_133 : decode cX0_begin 133 = .ok (.return_, 1) := by decide +kernel
theorem dX0_hangBelowOpen_0 : decode cX0_hangBelowOpen 0 = .ok (.aload_n 0, 1) := by decide +kernel
theorem dX0_hangBelowOpen_1 : decode cX0_hangBelowOpen 1 = .ok (.aload_n 0, 1) := by decide +kernel
theorem dX0_hangBelowOpen_2 : decode cX0_hangBelowOpen 2 = .ok (.getfield 40, 3) := by decide +kernel
theorem dX0_hangBelowOpen_5 : decode cX0_hangBelowOpen 5 = .ok (.invokevirtual 59, 3) := by decide +kernel
theorem dX0_hangBelowOpen_8 : decode cX0_hangBelowOpen 8 = .ok (.ifCond .ne 4, 3) := by decide +kernel
theorem dX0_hangBelowOpen_11 : decode cX0_hangBelowOpen 11 = .ok (.return_, 1) := by decide +kernel
theorem dX0_hangBelowOpen_12 : decode cX0_hangBelowOpen 12 = .ok (.aload_n 0, 1) := by decide +kernel
theorem dX0_hangBelowOpen_13 : decode cX0_hangBelowOpen 13 = .ok (.getfield 27, 3) := by decide +kernel
theorem dX0_hangBelowOpen_16 : decode cX0_hangBelowOpen 16 = .ok (.aload_n 0, 1) := by decide +kernel
theorem dX0_hangBelowOpen_17 : decode cX0_hangBelowOpen 17 = .ok (.getfield 40, 3) := by decide +kernel
theorem dX0_hangBelowOpen_20 : decode cX0_hangBelowOpen 20 = .ok (.iaload, 1) := by decide +kernel
theorem dX0_hangBelowOpen_21 : decode cX0_hangBelowOpen 21 = .ok (.iconst (-1), 1) := by decide +kernel
theorem dX0_hangBelowOpen_22 : decode cX0_hangBelowOpen 22 = .ok (.if_icmp .ne 16, 3) := by decide +kernel
theorem dX0_hangBelowOpen_25 : decode cX0_hangBelowOpen 25 = .ok (.aload_n 0, 1) := by decide +kernel
theorem dX0_hangBelowOpen_26 : decode cX0_hangBelowOpen 26 = .ok (.getfield 27, 3) := by decide +kernel
theorem dX0_hangBelowOpen_29 : decode cX0_hangBelowOpen 29 = .ok (.aload_n 0, 1) := by decide +kernel
theorem dX0_hangBelowOpen_30 : decode cX0_hangBelowOpen 30 = .ok (.getfield 40, 3) := by decide +kernel
theorem dX0_hangBelowOpen_33 : decode cX0_hangBelowOpen 33 = .ok (.iload_n 1, 1) := by decide +kernel
theorem dX0_hangBelowOpen_34 : decode cX0_hangBelowOpen 34 = .ok (.iastore, 1) := by decide +kernel
theorem dX0_hangBelowOpen_35 : decode cX0_hangBelowOpen 35 = .ok (.goto 13, 3) := by decide +kernel
theorem dX0_hangBelowOpen_38 : decode cX0_hangBelowOpen 38 = .ok (.aload_n 0, 1) := by decide +kernel
theorem dX0_hangBelowOpen_39 : decode cX0_hangBelowOpen 39 = .ok (.getfield 30, 3) := by decide +kernel
theorem dX0_hangBelowOpen_42 : decode cX0_hangBelowOpen 42 = .ok (.aload_n 0, 1) := by decide +kernel
theorem dX0_hangBelowOpen_43 : decode cX0_hangBelowOpen 43 = .ok (.getfield 40, 3) := by decide +kernel
theorem dX0_hangBelowOpen_46 : decode cX0_hangBelowOpen 46 = .ok (.iload_n 1, 1) := by decide +kernel
theorem dX0_hangBelowOpen_47 : decode cX0_hangBelowOpen 47 = .ok (.iastore, 1) := by decide +kernel
theorem dX0_hangBelowOpen_48 : decode cX0_hangBelowOpen 48 = .ok (.return_, 1) := by decide +kernel
theorem dX0_closeFull_0 : decode cX0_closeFull 0 = .ok (.iconst 0, 1) := by decide +kernel
theorem dX0_closeFull_1 : decode cX0_closeFull 1 = .ok (.istore_n 1, 1) := by decide +kernel
theorem dX0_closeFull_2 : decode cX0_closeFull 2 = .ok (.iload_n 1, 1) := by decide +kernel
theorem dX0_closeFull_3 : decode cX0_closeFull 3 = .ok (.bipush 40, 2) := by decide +kernel
theorem dX0_closeFull_5 : decode cX0_closeFull 5 = .ok (.if_icmp .ge 72, 3) := by decide +kernel
theorem dX0_closeFull_8 : decode cX0_closeFull 8 = .ok (.aload_n 0, 1) := by decide +kernel
theorem dX0_closeFull_9 : decode cX0_closeFull 9 = .ok (.aload_n 0, 1) := by decide +kernel
theorem dX0_closeFull_10 : decode cX0_closeFull 10 = .ok (.getfield 40, 3) := by decide +kernel
theorem dX0_closeFull_13 : decode cX0_closeFull 13 = .ok (.invokevirtual 59, 3) := by decide +kernel
theorem dX0_closeFull_16 : decode cX0_closeFull 16 = .ok (.ifCond .eq 61, 3) := by decide +kernel
theorem dX0_closeFull_19 : decode cX0_closeFull 19 = .ok (.aload_n 0, 1) := by decide +kernel
theorem dX0_closeFull_20 : decode cX0_closeFull 20 = .ok (.aload_n 0, 1) := by decide +kernel
theorem dX0_closeFull_21 : decode cX0_closeFull 21 = .ok (.getfield 40, 3) := by decide +kernel
theorem dX0_closeFull_24 : decode cX0_closeFull 24 = .ok (.invokevirtual 81, 3) := by decide +kernel
theorem dX0_closeFull_27 : decode cX0_closeFull 27 = .ok (.ifCond .eq 15, 3) := by decide +kernel
theorem dX0_closeFull_30 : decode cX0_closeFull 30 = .ok (.aload_n 0, 1) := by decide +kernel
theorem dX0_closeFull_31 : decode cX0_closeFull 31 = .ok (.getfield 30, 3) := by decide +kernel
theorem dX0_closeFull_34 : decode cX0_closeFull 34 = .ok (.aload_n 0, 1) := by decide +kernel
theorem dX0_closeFull_35 : decode cX0_closeFull 35 = .ok (.getfield 40, 3) := by decide +kernel
theorem dX0_closeFull_38 : decode cX0_closeFull 38 = .ok (.iaload, 1) := by decide +kernel
theorem dX0_closeFull_39 : decode cX0_closeFull 39 = .ok (.goto 12, 3) := by decide +kernel
theorem dX0_closeFull_42 : decode cX0_closeFull 42 = .ok (.aload_n 0, 1) := by decide +kernel
theorem dX0_closeFull_43 : decode cX0_closeFull 43 = .ok (.getfield 27, 3) := by decide +kernel
theorem dX0_closeFull_46 : decode cX0_closeFull 46 = .ok (.aload_n 0, 1) := by decide +kernel
theorem dX0_closeFull_47 : decode cX0_closeFull 47 = .ok (.getfield 40, 3) := by decide +kernel
theorem dX0_closeFull_50 : decode cX0_closeFull 50 = .ok (.iaload, 1) := by decide +kernel
theorem dX0_closeFull_51 : decode cX0_closeFull 51 = .ok (.istore_n 2, 1) := by decide +kernel
theorem dX0_closeFull_52 : decode cX0_closeFull 52 = .ok (.iload_n 2, 1) := by decide +kernel
theorem dX0_closeFull_53 : decode cX0_closeFull 53 = .ok (.iconst (-1), 1) := by decide +kernel
theorem dX0_closeFull_54 : decode cX0_closeFull 54 = .ok (.if_icmp .ne 4, 3) := by decide +kernel
theorem dX0_closeFull_57 : decode cX0_closeFull 57 = .ok (.return_, 1) := by decide +kernel
theorem dX0_closeFull_58 : decode cX0_closeFull 58 = .ok (.aload_n 0, 1) := by decide +kernel
theorem dX0_closeFull_59 : decode cX0_closeFull 59 = .ok (.aload_n 0, 1) := by decide +kernel
theorem dX0_closeFull_60 : decode cX0_closeFull 60 = .ok (.getfield 24, 3) := by decide +kernel
theorem dX0_closeFull_63 : decode cX0_closeFull 63 = .ok (.aload_n 0, 1) := by decide +kernel
theorem dX0_closeFull_64 : decode cX0_closeFull 64 = .ok (.getfield 40, 3) := by decide +kernel
theorem dX0_closeFull_67 : decode cX0_closeFull 67 = .ok (.iaload, 1) := by decide +kernel
theorem dX0_closeFull_68 : decode cX0_closeFull 68 = .ok (.putfield 40, 3) := by decide +kernel
theorem dX0_closeFull_71 : decode cX0_closeFull 71 = .ok (.iinc 1 1, 3) := by decide +kernel
theorem dX0_closeFull_74 : decode cX0_closeFull 74 = .ok (.goto (-72), 3) := by decide +kernel
theorem dX0_closeFull_77 : decode cX0_closeFull 77 = .ok (.return_, 1) := by decide +kernel
theorem dX0_hasTwo_0 : decode cX0_hasTwo 0 = .ok (.aload_n 0, 1) := by decide +kernel
theorem dX0_hasTwo_1 : decode cX0_hasTwo 1 = .ok (.getfield 15, 3) := by decide +kernel
theorem dX0_hasTwo_4 : decode cX0_hasTwo 4 = .ok (.iload_n 1, 1) := by decide +kernel
theorem dX0_hasTwo_5 : decode cX0_hasTwo 5 = .ok (.iaload, 1) := by decide +kernel
theorem dX0_hasTwo_6 : decode cX0_hasTwo 6 = .ok (.iconst 1, 1) := by decide +kernel
theorem dX0_hasTwo_7 : decode cX0_hasTwo 7 = .ok (.if_icmp .eq 23, 3) := by decide +kernel
theorem dX0_hasTwo_10 : decode cX0_hasTwo 10 = .ok (.aload_n 0, 1) := by decide +kernel
theorem dX0_hasTwo_11 : decode cX0_hasTwo 11 = .ok (.getfield 15, 3) := by decide +kernel
theorem dX0_hasTwo_14 : decode cX0_hasTwo 14 = .ok (.iload_n 1, 1) := by decide +kernel
theorem dX0_hasTwo_15 : decode cX0_hasTwo 15 = .ok (.iaload, 1) := by decide +kernel
theorem dX0_hasTwo_16 : decode cX0_hasTwo 16 = .ok (.iconst 2, 1) := by decide +kernel
theorem dX0_hasTwo_17 : decode cX0_hasTwo 17 = .ok (.if_icmp .eq 13, 3) := by decide +kernel
theorem dX0_hasTwo_20 : decode cX0_hasTwo 20 = .ok (.aload_n 0, 1) := by decide +kernel
theorem dX0_hasTwo_21 : decode cX0_hasTwo 21 = .ok (.getfield 15, 3) := by decide +kernel
theorem dX0_hasTwo_24 : decode cX0_hasTwo 24 = .ok (.iload_n 1, 1) := by decide +kernel
theorem dX0_hasTwo_25 : decode cX0_hasTwo 25 = .ok (.iaload, 1) := by decide +kernel
theorem dX0_hasTwo_26 : decode cX0_hasTwo 26 = .ok (.iconst 3, 1) := by decide +kernel
theorem dX0_hasTwo_27 : decode cX0_hasTwo 27 = .ok (.if_icmp .ne 7, 3) := by decide +kernel
theorem dX0_hasTwo_30 : decode cX0_hasTwo 30 = .ok (.iconst 1, 1) := by decide +kernel
theorem dX0_hasTwo_31 : decode cX0_hasTwo 31 = .ok (.goto 4, 3) := by decide +kernel
theorem dX0_hasTwo_34 : decode cX0_hasTwo 34 = .ok (.iconst 0, 1) := by decide +kernel
theorem dX0_hasTwo_35 : decode cX0_hasTwo 35 = .ok (.ireturn, 1) := by decide +kernel
theorem dX0_measure_0 : decode cX0_measure 0 = .ok (.aload_n 0, 1) := by decide +kernel
theorem dX0_measure_1 : decode cX0_measure 1 = .ok (.getfield 46, 3) := by decide +kernel
theorem dX0_measure_4 : decode cX0_measure 4 = .ok (.iconst 1, 1) := by decide +kernel
theorem dX0_measure_5 : decode cX0_measure 5 = .ok (.isub, 1) := by decide +kernel
theorem dX0_measure_6 : decode cX0_measure 6 = .ok (.istore_n 1, 1) := by decide +kernel
theorem dX0_measure_7 : decode cX0_measure 7 = .ok (.iload_n 1, 1) := by decide +kernel
theorem dX0_measure_8 : decode cX0_measure 8 = .ok (.ifCond .lt 54, 3) := by decide +kernel
theorem dX0_measure_11 : decode cX0_measure 11 = .ok (.aload_n 0, 1) := by decide +kernel
theorem dX0_measure_12 : decode cX0_measure 12 = .ok (.getfield 15, 3) := by decide +kernel
theorem dX0_measure_15 : decode cX0_measure 15 = .ok (.iload_n 1, 1) := by decide +kernel
theorem dX0_measure_16 : decode cX0_measure 16 = .ok (.iaload, 1) := by decide +kernel
theorem dX0_measure_17 : decode cX0_measure 17 = .ok (.iconst 4, 1) := by decide +kernel
theorem dX0_measure_18 : decode cX0_measure 18 = .ok (.if_icmp .ne 7, 3) := by decide +kernel
theorem dX0_measure_21 : decode cX0_measure 21 = .ok (.iconst 2, 1) := by decide +kernel
theorem dX0_measure_22 : decode cX0_measure 22 = .ok (.goto 4, 3) := by decide +kernel
theorem dX0_measure_25 : decode cX0_measure 25 = .ok (.iconst 1, 1) := by decide +kernel
theorem dX0_measure_26 : decode cX0_measure 26 = .ok (.istore_n 2, 1) := by decide +kernel
theorem dX0_measure_27 : decode cX0_measure 27 = .ok (.aload_n 0, 1) := by decide +kernel
theorem dX0_measure_28 : decode cX0_measure 28 = .ok (.getfield 21, 3) := by decide +kernel
theorem dX0_measure_31 : decode cX0_measure 31 = .ok (.iload_n 1, 1) := by decide +kernel
theorem dX0_measure_32 : decode cX0_measure 32 = .ok (.iload_n 2, 1) := by decide +kernel
theorem dX0_measure_33 : decode cX0_measure 33 = .ok (.aload_n 0, 1) := by decide +kernel
theorem dX0_measure_34 : decode cX0_measure 34 = .ok (.aload_n 0, 1) := by decide +kernel
theorem dX0_measure_35 : decode cX0_measure 35 = .ok (.getfield 27, 3) := by decide +kernel
theorem dX0_measure_38 : decode cX0_measure 38 = .ok (.iload_n 1, 1) := by decide +kernel
theorem dX0_measure_39 : decode cX0_measure 39 = .ok (.iaload, 1) := by decide +kernel
theorem dX0_measure_40 : decode cX0_measure 40 = .ok (.invokevirtual 84, 3) := by decide +kernel
theorem dX0_measure_43 : decode cX0_measure 43 = .ok (.iadd, 1) := by decide +kernel
theorem dX0_measure_44 : decode cX0_measure 44 = .ok (.aload_n 0, 1) := by decide +kernel
theorem dX0_measure_45 : decode cX0_measure 45 = .ok (.aload_n 0, 1) := by decide +kernel
theorem dX0_measure_46 : decode cX0_measure 46 = .ok (.getfield 30, 3) := by decide +kernel
theorem dX0_measure_49 : decode cX0_measure 49 = .ok (.iload_n 1, 1) := by decide +kernel
theorem dX0_measure_50 : decode cX0_measure 50 = .ok (.iaload, 1) := by decide +kernel
theorem dX0_measure_51 : decode cX0_measure 51 = .ok (.invokevirtual 84, 3) := by decide +kernel
theorem dX0_measure_54 : decode cX0_measure 54 = .ok (.iadd, 1) := by decide +kernel
theorem dX0_measure_55 : decode cX0_measure 55 = .ok (.iastore, 1) := by decide +kernel
theorem dX0_measure_56 : decode cX0_measure 56 = .ok (.iinc 1 (-1), 3) := by decide +kernel
theorem dX0_measure_59 : decode cX0_measure 59 = .ok (.goto (-52), 3) := by decide +kernel
theorem dX0_measure_62 : decode cX0_measure 62 = .ok (.return_, 1) := by decide +kernel
theorem dX0_sizeBelow_0 : decode cX0_sizeBelow 0 = .ok (.aload_n 0, 1) := by decide +kernel
theorem dX0_sizeBelow_1 : decode cX0_sizeBelow 1 = .ok (.iload_n 1, 1) := by decide +kernel
theorem dX0_sizeBelow_2 : decode cX0_sizeBelow 2 = .ok (.invokevirtual 59, 3) := by decide +kernel
theorem dX0_sizeBelow_5 : decode cX0_sizeBelow 5 = .ok (.ifCond .eq 12, 3) := by decide +kernel
theorem dX0_sizeBelow_8 : decode cX0_sizeBelow 8 = .ok (.aload_n 0, 1) := by decide +kernel
theorem dX0_sizeBelow_9 : decode cX0_sizeBelow 9 = .ok (.getfield 21, 3) := by decide +kernel
theorem dX0_sizeBelow_12 : decode cX0_sizeBelow 12 = .ok (.iload_n 1, 1) := by decide +kernel
theorem dX0_sizeBelow_13 : decode cX0_sizeBelow 13 = .ok (.iaload, 1) := by decide +kernel
theorem dX0_sizeBelow_14 : decode cX0_sizeBelow 14 = .ok (.goto 4, 3) := by decide +kernel
theorem dX0_sizeBelow_17 : decode cX0_sizeBelow 17 = .ok (.iconst 0, 1) := by decide +kernel
theorem dX0_sizeBelow_18 : decode cX0_sizeBelow 18 = .ok (.ireturn, 1) := by decide +kernel
