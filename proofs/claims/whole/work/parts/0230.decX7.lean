theorem dX7_line_10 : decode cX7_line 10 = .ok (.iload_n 2, 1) := by decide +kernel
theorem dX7_line_11 : decode cX7_line 11 = .ok (.iconst (-1), 1) := by decide +kernel
theorem dX7_line_12 : decode cX7_line 12 = .ok (.sipush 399, 3) := by decide +kernel
theorem dX7_line_15 : decode cX7_line 15 = .ok (.invokestatic 75, 3) := by decide +kernel
theorem dX7_line_18 : decode cX7_line 18 = .ok (.ifCond .eq 12, 3) := by decide +kernel
theorem dX7_line_21 : decode cX7_line 21 = .ok (.aload_n 0, 1) := by decide +kernel
theorem dX7_line_22 : decode cX7_line 22 = .ok (.iload_n 1, 1) := by decide +kernel
theorem dX7_line_23 : decode cX7_line 23 = .ok (.iload_n 2, 1) := by decide +kernel
theorem dX7_line_24 : decode cX7_line 24 = .ok (.invokevirtual 237, 3) := by decide +kernel
theorem dX7_line_27 : decode cX7_line 27 = .ok (.goto 5, 3) := by decide +kernel
theorem dX7_line_30 : decode cX7_line 30 = .ok (.bipush (-2), 2) := by decide +kernel
theorem dX7_line_32 : decode cX7_line 32 = .ok (.ireturn, 1) := by decide +kernel
theorem dX7_isAllowed_0 : decode cX7_isAllowed 0 = .ok (.aload_n 0, 1) := by decide +kernel
theorem dX7_isAllowed_1 : decode cX7_isAllowed 1 = .ok (.getfield 47, 3) := by decide +kernel
theorem dX7_isAllowed_4 : decode cX7_isAllowed 4 = .ok (.iload_n 1, 1) := by decide +kernel
theorem dX7_isAllowed_5 : decode cX7_isAllowed 5 = .ok (.iaload, 1) := by decide +kernel
theorem dX7_isAllowed_6 : decode cX7_isAllowed 6 = .ok (.iconst (-1), 1) := by decide +kernel
theorem dX7_isAllowed_7 : decode cX7_isAllowed 7 = .ok (.if_icmp .eq 20, 3) := by decide +kernel
theorem dX7_isAllowed_10 : decode cX7_isAllowed 10 = .ok (.aload_n 0, 1) := by decide +kernel
theorem dX7_isAllowed_11 : decode cX7_isAllowed 11 = .ok (.getfield 47, 3) := by decide +kernel
theorem dX7_isAllowed_14 : decode cX7_isAllowed 14 = .ok (.iload_n 1, 1) := by decide +kernel
theorem dX7_isAllowed_15 : decode cX7_isAllowed 15 = .ok (.iaload, 1) := by decide +kernel
theorem dX7_isAllowed_16 : decode cX7_isAllowed 16 = .ok (.invokestatic 127, 3) := by decide +kernel
theorem dX7_isAllowed_19 : decode cX7_isAllowed 19 = .ok (.iload_n 2, 1) := by decide +kernel
theorem dX7_isAllowed_20 : decode cX7_isAllowed 20 = .ok (.if_icmp .gt 7, 3) := by decide +kernel
theorem dX7_isAllowed_23 : decode cX7_isAllowed 23 = .ok (.iconst 1, 1) := by decide +kernel
theorem dX7_isAllowed_24 : decode cX7_isAllowed 24 = .ok (.goto 4, 3) := by decide +kernel
theorem dX7_isAllowed_27 : decode cX7_isAllowed 27 = .ok (.iconst 0, 1) := by decide +kernel
theorem dX7_isAllowed_28 : decode cX7_isAllowed 28 = .ok (.ireturn, 1) := by decide +kernel
theorem dX7_isAny_0 : decode cX7_isAny 0 = .ok (.iconst 0, 1) := by decide +kernel
theorem dX7_isAny_1 : decode cX7_isAny 1 = .ok (.istore_n 3, 1) := by decide +kernel
theorem dX7_isAny_2 : decode cX7_isAny 2 = .ok (.iconst 0, 1) := by decide +kernel
theorem dX7_isAny_3 : decode cX7_isAny 3 = .ok (.istore 4, 2) := by decide +kernel
theorem dX7_isAny_5 : decode cX7_isAny 5 = .ok (.iload 4, 2) := by decide +kernel
theorem dX7_isAny_7 : decode cX7_isAny 7 = .ok (.bipush 64, 2) := by decide +kernel
theorem dX7_isAny_9 : decode cX7_isAny 9 = .ok (.if_icmp .ge 44, 3) := by decide +kernel
theorem dX7_isAny_12 : decode cX7_isAny 12 = .ok (.iload_n 3, 1) := by decide +kernel
theorem dX7_isAny_13 : decode cX7_isAny 13 = .ok (.ifCond .ne 28, 3) := by decide +kernel
theorem dX7_isAny_16 : decode cX7_isAny 16 = .ok (.iload 4, 2) := by decide +kernel
theorem dX7_isAny_18 : decode cX7_isAny 18 = .ok (.iconst 1, 1) := by decide +kernel
theorem dX7_isAny_19 : decode cX7_isAny 19 = .ok (.iload_n 2, 1) := by decide +kernel
theorem dX7_isAny_20 : decode cX7_isAny 20 = .ok (.ishl, 1) := by decide +kernel
theorem dX7_isAny_21 : decode cX7_isAny 21 = .ok (.iconst 1, 1) := by decide +kernel
theorem dX7_isAny_22 : decode cX7_isAny 22 = .ok (.isub, 1) := by decide +kernel
theorem dX7_isAny_23 : decode cX7_isAny 23 = .ok (.iand, 1) := by decide +kernel
theorem dX7_isAny_24 : decode cX7_isAny 24 = .ok (.iload_n 1, 1) := by decide +kernel
theorem dX7_isAny_25 : decode cX7_isAny 25 = .ok (.if_icmp .ne 20, 3) := by decide +kernel
theorem dX7_isAny_28 : decode cX7_isAny 28 = .ok (.aload_n 0, 1) := by decide +kernel
theorem dX7_isAny_29 : decode cX7_isAny 29 = .ok (.iload 4, 2) := by decide +kernel
theorem dX7_isAny_31 : decode cX7_isAny 31 = .ok (.aload_n 0, 1) := by decide +kernel
theorem dX7_isAny_32 : decode cX7_isAny 32 = .ok (.getfield 13, 3) := by decide +kernel
theorem dX7_isAny_35 : decode cX7_isAny 35 = .ok (.invokevirtual 240, 3) := by decide +kernel
theorem dX7_isAny_38 : decode cX7_isAny 38 = .ok (.ifCond .eq 7, 3) := by decide +kernel
theorem dX7_isAny_41 : decode cX7_isAny 41 = .ok (.iconst 1, 1) := by decide +kernel
theorem dX7_isAny_42 : decode cX7_isAny 42 = .ok (.goto 4, 3) := by decide +kernel
theorem dX7_isAny_45 : decode cX7_isAny 45 = .ok (.iconst 0, 1) := by decide +kernel
theorem dX7_isAny_46 : decode cX7_isAny 46 = .ok (.istore_n 3, 1) := by decide +kernel
theorem dX7_isAny_47 : decode cX7_isAny 47 = .ok (.iinc 4 1, 3) := by decide +kernel
theorem dX7_isAny_50 : decode cX7_isAny 50 = .ok (.goto (-45), 3) := by decide +kernel
theorem dX7_isAny_53 : decode cX7_isAny 53 = .ok (.iload_n 3, 1) := by decide +kernel
theorem dX7_isAny_54 : decode cX7_isAny 54 = .ok (.ireturn, 1) := by decide +kernel
theorem dX7_hasteOf_0 : decode cX7_hasteOf 0 = .ok (.aload_n 0, 1) := by decide +kernel
theorem dX7_hasteOf_1 : decode cX7_hasteOf 1 = .ok (.invokevirtual 243, 3) := by decide +kernel
theorem dX7_hasteOf_4 : decode cX7_hasteOf 4 = .ok (.iconst 0, 1) := by decide +kernel
theorem dX7_hasteOf_5 : decode cX7_hasteOf 5 = .ok (.istore_n 2, 1) := by decide +kernel
theorem dX7_hasteOf_6 : decode cX7_hasteOf 6 = .ok (.aload_n 0, 1) := by decide +kernel
theorem dX7_hasteOf_7 : decode cX7_hasteOf 7 = .ok (.iconst 0, 1) := by decide +kernel
theorem dX7_hasteOf_8 : decode cX7_hasteOf 8 = .ok (.iconst 0, 1) := by decide +kernel
theorem dX7_hasteOf_9 : decode cX7_hasteOf 9 = .ok (.invokevirtual 246, 3) := by decide +kernel
theorem dX7_hasteOf_12 : decode cX7_hasteOf 12 = .ok (.ifCond .ne 5, 3) := by decide +kernel
theorem dX7_hasteOf_15 : decode cX7_hasteOf 15 = .ok (.iconst (-1), 1) := by decide +kernel
theorem dX7_hasteOf_16 : decode cX7_hasteOf 16 = .ok (.ireturn, 1) := by decide +kernel
theorem dX7_hasteOf_17 : decode cX7_hasteOf 17 = .ok (.iconst 0, 1) := by decide +kernel
theorem dX7_hasteOf_18 : decode cX7_hasteOf 18 = .ok (.istore_n 3, 1) := by decide +kernel
theorem dX7_hasteOf_19 : decode cX7_hasteOf 19 = .ok (.iload_n 3, 1) := by decide +kernel
theorem dX7_hasteOf_20 : decode cX7_hasteOf 20 = .ok (.aload_n 0, 1) := by decide +kernel
theorem dX7_hasteOf_21 : decode cX7_hasteOf 21 = .ok (.getfield 96, 3) := by decide +kernel
theorem dX7_hasteOf_24 : decode cX7_hasteOf 24 = .ok (.if_icmp .ge 30, 3) := by decide +kernel
theorem dX7_hasteOf_27 : decode cX7_hasteOf 27 = .ok (.iload_n 2, 1) := by decide +kernel
theorem dX7_hasteOf_28 : decode cX7_hasteOf 28 = .ok (.aload_n 0, 1) := by decide +kernel
theorem dX7_hasteOf_29 : decode cX7_hasteOf 29 = .ok (.iload_n 2, 1) := by decide +kernel
theorem dX7_hasteOf_30 : decode cX7_hasteOf 30 = .ok (.iload_n 3, 1) := by decide +kernel
theorem dX7_hasteOf_31 : decode cX7_hasteOf 31 = .ok (.iconst 1, 1) := by decide +kernel
theorem dX7_hasteOf_32 : decode cX7_hasteOf 32 = .ok (.iadd, 1) := by decide +kernel
theorem dX7_hasteOf_33 : decode cX7_hasteOf 33 = .ok (.invokevirtual 246, 3) := by decide +kernel
theorem dX7_hasteOf_36 : decode cX7_hasteOf 36 = .ok (.ifCond .eq 7, 3) := by decide +kernel
theorem dX7_hasteOf_39 : decode cX7_hasteOf 39 = .ok (.iconst 0, 1) := by decide +kernel
theorem dX7_hasteOf_40 : decode cX7_hasteOf 40 = .ok (.goto 6, 3) := by decide +kernel
theorem dX7_hasteOf_43 : decode cX7_hasteOf 43 = .ok (.iconst 1, 1) := by decide +kernel
theorem dX7_hasteOf_44 : decode cX7_hasteOf 44 = .ok (.iload_n 3, 1) := by decide +kernel
theorem dX7_hasteOf_45 : decode cX7_hasteOf 45 = .ok (.ishl, 1) := by decide +kernel
theorem dX7_hasteOf_46 : decode cX7_hasteOf 46 = .ok (.ior, 1) := by decide +kernel
theorem dX7_hasteOf_47 : decode cX7_hasteOf 47 = .ok (.istore_n 2, 1) := by decide +kernel
theorem dX7_hasteOf_48 : decode cX7_hasteOf 48 = .ok (.iinc 3 1, 3) := by decide +kernel
theorem dX7_hasteOf_51 : decode cX7_hasteOf 51 = .ok (.goto (-32), 3) := by decide +kernel
theorem dX7_hasteOf_54 : decode cX7_hasteOf 54 = .ok (.iload_n 1, 1) := by decide +kernel
theorem dX7_hasteOf_55 : decode cX7_hasteOf 55 = .ok (.ifCond .ne 7, 3) := by decide +kernel
theorem dX7_hasteOf_58 : decode cX7_hasteOf 58 = .ok (.iload_n 2, 1) := by decide +kernel
theorem dX7_hasteOf_59 : decode cX7_hasteOf 59 = .ok (.goto 29, 3) := by decide +kernel
theorem dX7_hasteOf_62 : decode cX7_hasteOf 62 = .ok (.iload_n 1, 1) := by decide +kernel
theorem dX7_hasteOf_63 : decode cX7_hasteOf 63 = .ok (.iconst 1, 1) := by decide +kernel
theorem dX7_hasteOf_64 : decode cX7_hasteOf 64 = .ok (.if_icmp .ne 15, 3) := by decide +kernel
theorem dX7_hasteOf_67 : decode cX7_hasteOf 67 = .ok (.aload_n 0, 1) := by decide +kernel
theorem dX7_hasteOf_68 : decode cX7_hasteOf 68 = .ok (.getfield 47, 3) := by decide +kernel
theorem dX7_hasteOf_71 : decode cX7_hasteOf 71 = .ok (.iload_n 2, 1) := by decide +kernel
theorem dX7_hasteOf_72 : decode cX7_hasteOf 72 = .ok (.iaload, 1) := by decide +kernel
theorem dX7_hasteOf_73 : decode cX7_hasteOf 73 = .ok (.invokestatic 121, 3) := by decide +kernel
theorem dX7_hasteOf_76 : decode cX7_hasteOf 76 = .ok (.goto 12, 3) := by decide +kernel
theorem dX7_hasteOf_79 : decode cX7_hasteOf 79 = .ok (.aload_n 0, 1) := by decide +kernel
theorem dX7_hasteOf_80 : decode cX7_hasteOf 80 = .ok (.getfield 47, 3) := by decide +kernel
theorem dX7_hasteOf_83 : decode cX7_hasteOf 83 = .ok (.iload_n 2, 1) := by decide +kernel
theorem dX7_hasteOf_84 : decode cX7_hasteOf 84 = .ok (.iaload, 1) := by decide +kernel
theorem dX7_hasteOf_85 : decode cX7_hasteOf 85 = .ok (.invokestatic 127, 3) := by decide +kernel
theorem dX7_hasteOf_88 : decode cX7_hasteOf 88 = .ok (.ireturn, 1) := by decide +kernel
theorem dX7_haste_0 : decode cX7_haste 0 = .ok (.iload_n 1, 1) := by decide +kernel
theorem dX7_haste_1 : decode cX7_haste 1 = .ok (.iconst 0, 1) := by decide +kernel
theorem dX7_haste_2 : decode cX7_haste 2 = .ok (.iconst 2, 1) := by decide +kernel
theorem dX7_haste_3 : decode cX7_haste 3 = .ok (.invokestatic 75, 3) := by decide +kernel
theorem dX7_haste_6 : decode cX7_haste 6 = .ok (.ifCond .eq 11, 3) := by decide +kernel
theorem dX7_haste_9 : decode cX7_haste 9 = .ok (.aload_n 0, 1) := by decide +kernel
theorem dX7_haste_10 : decode cX7_haste 10 = .ok (.iload_n 1, 1) := by decide +kernel
theorem dX7_haste_11 : decode cX7_haste 11 = .ok (.invokevirtual 249, 3) := by decide +kernel
theorem dX7_haste_14 : decode cX7_haste 14 = .ok (.goto 5, 3) := by decide +kernel
theorem dX7_haste_17 : decode cX7_haste 17 = .ok (.bipush (-2), 2) := by decide +kernel
theorem dX7_haste_19 : decode cX7_haste 19 = .ok (.ireturn, 1) := by decide +kernel
theorem dX7_leastMost_0 : decode cX7_leastMost 0 = .ok (.iconst (-1), 1) := by decide +kernel
theorem dX7_leastMost_1 : decode cX7_leastMost 1 = .ok (.istore_n 1, 1) := by decide +kernel
theorem dX7_leastMost_2 : decode cX7_leastMost 2 = .ok (.iconst 0, 1) := by decide +kernel
theorem dX7_leastMost_3 : decode cX7_leastMost 3 = .ok (.istore_n 2, 1) := by decide +kernel
theorem dX7_leastMost_4 : decode cX7_leastMost 4 = .ok (.iload_n 2, 1) := by decide +kernel
theorem dX7_leastMost_5 : decode cX7_leastMost 5 = .ok (.bipush 64, 2) := by decide +kernel
theorem dX7_leastMost_7 : decode cX7_leastMost 7 = .ok (.if_icmp .ge 61, 3) := by decide +kernel
theorem dX7_leastMost_10 : decode cX7_leastMost 10 = .ok (.aload_n 0, 1) := by decide +kernel
theorem dX7_leastMost_11 : decode cX7_leastMost 11 = .ok (.getfield 47, 3) := by decide +kernel
theorem dX7_leastMost_14 : decode cX7_leastMost 14 = .ok (.iload_n 2, 1) := by decide +kernel
theorem dX7_leastMost_15 : decode cX7_leastMost 15 = .ok (.iaload, 1) := by decide +kernel
theorem dX7_leastMost_16 : decode cX7_leastMost 16 = .ok (.iconst (-1), 1) := by decide +kernel
theorem dX7_leastMost_17 : decode cX7_leastMost 17 = .ok (.if_icmp .eq 25, 3) := by decide +kernel
theorem dX7_leastMost_20 : decode cX7_leastMost 20 = .ok (.iload_n 1, 1) := by decide +kernel
theorem dX7_leastMost_21 : decode cX7_leastMost 21 = .ok (.iconst (-1), 1) := by decide +kernel
theorem dX7_leastMost_22 : decode cX7_leastMost 22 = .ok (.if_icmp .eq 16, 3) := by decide +kernel
theorem dX7_leastMost_25 : decode cX7_leastMost 25 = .ok (.aload_n 0, 1) := by decide +kernel
theorem dX7_leastMost_26 : decode cX7_leastMost 26 = .ok (.getfield 47, 3) := by decide +kernel
theorem dX7_leastMost_29 : decode cX7_leastMost 29 = .ok (.iload_n 2, 1) := by decide +kernel
theorem dX7_leastMost_30 : decode cX7_leastMost 30 = .ok (.iaload, 1) := by decide +kernel
theorem dX7_leastMost_31 : decode cX7_leastMost 31 = .ok (.invokestatic 127, 3) := by decide +kernel
theorem dX7_leastMost_34 : decode cX7_leastMost 34 = .ok (.iload_n 1, 1) := by decide +kernel
theorem dX7_leastMost_35 : decode cX7_leastMost 35 = .ok (.if_icmp .ge 7, 3) := by decide +kernel
theorem dX7_leastMost_38 : decode cX7_leastMost 38 = .ok (.iconst 1, 1) := by decide +kernel
theorem dX7_leastMost_39 : decode cX7_leastMost 39 = .ok (.goto 4, 3) := by decide +kernel
theorem dX7_leastMost_42 : decode cX7_leastMost 42 = .ok (.iconst 0, 1) := by decide +kernel
theorem dX7_leastMost_43 : decode cX7_leastMost 43 = .ok (.istore_n 3, 1) := by decide +kernel
theorem dX7_leastMost_44 : decode cX7_leastMost 44 = .ok (.iload_n 3, 1) := by decide +kernel
theorem dX7_leastMost_45 : decode cX7_leastMost 45 = .ok (.ifCond .eq 15, 3) := by decide +kernel
theorem dX7_leastMost_48 : decode cX7_leastMost 48 = .ok (.aload_n 0, 1) := by decide +kernel
theorem dX7_leastMost_49 : decode cX7_leastMost 49 = .ok (.getfield 47, 3) := by decide +kernel
theorem dX7_leastMost_52 : decode cX7_leastMost 52 = .ok (.iload_n 2, 1) := by decide +kernel
theorem dX7_leastMost_53 : decode cX7_leastMost 53 = .ok (.iaload, 1) := by decide +kernel
theorem dX7_leastMost_54 : decode cX7_leastMost 54 = .ok (.invokestatic 127, 3) := by decide +kernel
theorem dX7_leastMost_57 : decode cX7_leastMost 57 = .ok (.goto 4, 3) := by decide +kernel
theorem dX7_leastMost_60 : decode cX7_leastMost 60 = .ok (.iload_n 1, 1) := by decide +kernel
theorem dX7_leastMost_61 : decode cX7_leastMost 61 = .ok (.istore_n 1, 1) := by decide +kernel
theorem dX7_leastMost_62 : decode cX7_leastMost 62 = .ok (.iinc 2 1, 3) := by decide +kernel
theorem dX7_leastMost_65 : decode cX7_leastMost 65 = .ok (.goto (-61), 3) := by decide +kernel
theorem dX7_leastMost_68 : decode cX7_leastMost 68 = .ok (.iload_n 1, 1) := by decide +kernel
theorem dX7_leastMost_69 : decode cX7_leastMost 69 = .ok (.ireturn, 1) := by decide +kernel
theorem dX7_enoughOf_0 : decode cX7_enoughOf 0 = .ok (.aload_n 0, 1) := by decide +kernel
theorem dX7_enoughOf_1 : decode cX7_enoughOf 1 = .ok (.invokevirtual 243, 3) := by decide +kernel
theorem dX7_enoughOf_4 : decode cX7_enoughOf 4 = .ok (.aload_n 0, 1) := by decide +kernel
theorem dX7_enoughOf_5 : decode cX7_enoughOf 5 = .ok (.invokevirtual 252, 3) := by decide +kernel
theorem dX7_enoughOf_8 : decode cX7_enoughOf 8 = .ok (.istore_n 1, 1) := by decide +kernel
theorem dX7_enoughOf_9 : decode cX7_enoughOf 9 = .ok (.iload_n 1, 1) := by decide +kernel
theorem dX7_enoughOf_10 : decode cX7_enoughOf 10 = .ok (.bipush 99, 2) := by decide +kernel
theorem dX7_enoughOf_12 : decode cX7_enoughOf 12 = .ok (.if_icmp .le 7, 3) := by decide +kernel
theorem dX7_enoughOf_15 : decode cX7_enoughOf 15 = .ok (.iconst (-1), 1) := by decide +kernel
theorem dX7_enoughOf_16 : decode cX7_enoughOf 16 = .ok (.goto 4, 3) := by decide +kernel
theorem dX7_enoughOf_19 : decode cX7_enoughOf 19 = .ok (.iload_n 1, 1) := by decide +kernel
theorem dX7_enoughOf_20 : decode cX7_enoughOf 20 = .ok (.ireturn, 1) := by decide +kernel
theorem dX7_enough_0 : decode cX7_enough 0 = .ok (.aload_n 0, 1) := by decide +kernel
theorem dX7_enough_1 : decode cX7_enough 1 = .ok (.invokevirtual 255, 3) := by decide +kernel
theorem dX7_enough_4 : decode cX7_enough 4 = .ok (.ireturn, 1) := by decide +kernel
theorem dX7_fewest_0 : decode cX7_fewest 0 = .ok (.iconst (-1), 1) := by decide +kernel
theorem dX7_fewest_1 : decode cX7_fewest 1 = .ok (.istore_n 3, 1) := by decide +kernel
theorem dX7_fewest_2 : decode cX7_fewest 2 = .ok (.iconst 0, 1) := by decide +kernel
theorem dX7_fewest_3 : decode cX7_fewest 3 = .ok (.istore 4, 2) := by decide +kernel
theorem dX7_fewest_5 : decode cX7_fewest 5 = .ok (.iload 4, 2) := by decide +kernel
theorem dX7_fewest_7 : decode cX7_fewest 7 = .ok (.bipush 64, 2) := by decide +kernel
theorem dX7_fewest_9 : decode cX7_fewest 9 = .ok (.if_icmp .ge 72, 3) := by decide +kernel
theorem dX7_fewest_12 : decode cX7_fewest 12 = .ok (.iload 4, 2) := by decide +kernel
theorem dX7_fewest_14 : decode cX7_fewest 14 = .ok (.iload_n 2, 1) := by decide +kernel
theorem dX7_fewest_15 : decode cX7_fewest 15 = .ok (.iand, 1) := by decide +kernel
theorem dX7_fewest_16 : decode cX7_fewest 16 = .ok (.ifCond .ne 17, 3) := by decide +kernel
theorem dX7_fewest_19 : decode cX7_fewest 19 = .ok (.aload_n 0, 1) := by decide +kernel
theorem dX7_fewest_20 : decode cX7_fewest 20 = .ok (.iload 4, 2) := by decide +kernel
theorem dX7_fewest_22 : decode cX7_fewest 22 = .ok (.iload_n 1, 1) := by decide +kernel
theorem dX7_fewest_23 : decode cX7_fewest 23 = .ok (.invokevirtual 240, 3) := by decide +kernel
theorem dX7_fewest_26 : decode cX7_fewest 26 = .ok (.ifCond .eq 7, 3) := by decide +kernel
theorem dX7_fewest_29 : decode cX7_fewest 29 = .ok (.iconst 1, 1) := by decide +kernel
theorem dX7_fewest_30 : decode cX7_fewest 30 = .ok (.goto 4, 3) := by decide +kernel
theorem dX7_fewest_33 : decode cX7_fewest 33 = .ok (.iconst 0, 1) := by decide +kernel
theorem dX7_fewest_34 : decode cX7_fewest 34 = .ok (.istore 5, 2) := by decide +kernel
theorem dX7_fewest_36 : decode cX7_fewest 36 = .ok (.iload 5, 2) := by decide +kernel
theorem dX7_fewest_38 : decode cX7_fewest 38 = .ok (.ifCond .eq 35, 3) := by decide +kernel
theorem dX7_fewest_41 : decode cX7_fewest 41 = .ok (.iload_n 3, 1) := by decide +kernel
theorem dX7_fewest_42 : decode cX7_fewest 42 = .ok (.iconst (-1), 1) := by decide +kernel
theorem dX7_fewest_43 : decode cX7_fewest 43 = .ok (.if_icmp .eq 17, 3) := by decide +kernel
theorem dX7_fewest_46 : decode cX7_fewest 46 = .ok (.aload_n 0, 1) := by decide +kernel
theorem dX7_fewest_47 : decode cX7_fewest 47 = .ok (.getfield 47, 3) := by decide +kernel
theorem dX7_fewest_50 : decode cX7_fewest 50 = .ok (.iload 4, 2) := by decide +kernel
theorem dX7_fewest_52 : decode cX7_fewest 52 = .ok (.iaload, 1) := by decide +kernel
theorem dX7_fewest_53 : decode cX7_fewest 53 = .ok (.invokestatic 121, 3) := by decide +kernel
theorem dX7_fewest_56 : decode cX7_fewest 56 = .ok (.iload_n 3, 1) := by decide +kernel
theorem dX7_fewest_57 : decode cX7_fewest 57 = .ok (.if_icmp .ge 16, 3) := by decide +kernel
theorem dX7_fewest_60 : decode cX7_fewest 60 = .ok (.aload_n 0, 1) := by decide +kernel
theorem dX7_fewest_61 : decode cX7_fewest 61 = .ok (.getfield 47, 3) := by decide +kernel
theorem dX7_fewest_64 : decode cX7_fewest 64 = .ok (.iload 4, 2) := by decide +kernel
theorem dX7_fewest_66 : decode cX7_fewest 66 = .ok (.iaload, 1) := by decide +kernel
theorem dX7_fewest_67 : decode cX7_fewest 67 = .ok (.invokestatic 121, 3) := by decide +kernel
theorem dX7_fewest_70 : decode cX7_fewest 70 = .ok (.goto 4, 3) := by decide +kernel
theorem dX7_fewest_73 : decode cX7_fewest 73 = .ok (.iload_n 3, 1) := by decide +kernel
theorem dX7_fewest_74 : decode cX7_fewest 74 = .ok (.istore_n 3, 1) := by decide +kernel
theorem dX7_fewest_75 : decode cX7_fewest 75 = .ok (.iinc 4 1, 3) := by decide +kernel
theorem dX7_fewest_78 : decode cX7_fewest 78 = .ok (.goto (-73), 3) := by decide +kernel
theorem dX7_fewest_81 : decode cX7_fewest 81 = .ok (.iload_n 3, 1) := by decide +kernel
theorem dX7_fewest_82 : decode cX7_fewest 82 = .ok (.ireturn, 1) := by decide +kernel
theorem dX7_shrinksOf_0 : decode cX7_shrinksOf 0 = .ok (.aload_n 0, 1) := by decide +kernel
theorem dX7_shrinksOf_1 : decode cX7_shrinksOf 1 = .ok (.invokevirtual 243, 3) := by decide +kernel
theorem dX7_shrinksOf_4 : decode cX7_shrinksOf 4 = .ok (.iconst 0, 1) := by decide +kernel
theorem dX7_shrinksOf_5 : decode cX7_shrinksOf 5 = .ok (.istore_n 2, 1) := by decide +kernel
theorem dX7_shrinksOf_6 : decode cX7_shrinksOf 6 = .ok (.iconst (-1), 1) := by decide +kernel
theorem dX7_shrinksOf_7 : decode cX7_shrinksOf 7 = .ok (.istore_n 3, 1) := by decide +kernel
theorem dX7_shrinksOf_8 : decode cX7_shrinksOf 8 = .ok (.aload_n 0, 1) := by decide +kernel
theorem dX7_shrinksOf_9 : decode cX7_shrinksOf 9 = .ok (.iconst 1, 1) := by decide +kernel
theorem dX7_shrinksOf_10 : decode cX7_shrinksOf 10 = .ok (.iconst 0, 1) := by decide +kernel
theorem dX7_shrinksOf_11 : decode cX7_shrinksOf 11 = .ok (.invokevirtual 258, 3) := by decide +kernel
theorem dX7_shrinksOf_14 : decode cX7_shrinksOf 14 = .ok (.istore 4, 2) := by decide +kernel
theorem dX7_shrinksOf_16 : decode cX7_shrinksOf 16 = .ok (.iconst 2, 1) := by decide +kernel
theorem dX7_shrinksOf_17 : decode cX7_shrinksOf 17 = .ok (.istore 5, 2) := by decide +kernel
theorem dX7_shrinksOf_19 : decode cX7_shrinksOf 19 = .ok (.iload 5, 2) := by decide +kernel
theorem dX7_shrinksOf_21 : decode cX7_shrinksOf 21 = .ok (.bipush 100, 2) := by decide +kernel
theorem dX7_shrinksOf_23 : decode cX7_shrinksOf 23 = .ok (.if_icmp .ge 50, 3) := by decide +kernel
theorem dX7_shrinksOf_26 : decode cX7_shrinksOf 26 = .ok (.aload_n 0, 1) := by decide +kernel
theorem dX7_shrinksOf_27 : decode cX7_shrinksOf 27 = .ok (.iload 5, 2) := by decide +kernel
theorem dX7_shrinksOf_29 : decode cX7_shrinksOf 29 = .ok (.iconst 0, 1) := by decide +kernel
theorem dX7_shrinksOf_30 : decode cX7_shrinksOf 30 = .ok (.invokevirtual 258, 3) := by decide +kernel
theorem dX7_shrinksOf_33 : decode cX7_shrinksOf 33 = .ok (.istore 6, 2) := by decide +kernel
theorem dX7_shrinksOf_35 : decode cX7_shrinksOf 35 = .ok (.iload 4, 2) := by decide +kernel
theorem dX7_shrinksOf_37 : decode cX7_shrinksOf 37 = .ok (.iconst (-1), 1) := by decide +kernel
theorem dX7_shrinksOf_38 : decode cX7_shrinksOf 38 = .ok (.if_icmp .eq 25, 3) := by decide +kernel
theorem dX7_shrinksOf_41 : decode cX7_shrinksOf 41 = .ok (.iload 6, 2) := by decide +kernel
theorem dX7_shrinksOf_43 : decode cX7_shrinksOf 43 = .ok (.iload 4, 2) := by decide +kernel
theorem dX7_shrinksOf_45 : decode cX7_shrinksOf 45 = .ok (.if_icmp .ge 18, 3) := by decide +kernel
theorem dX7_shrinksOf_48 : decode cX7_shrinksOf 48 = .ok (.iload_n 2, 1) := by decide +kernel
theorem dX7_shrinksOf_49 : decode cX7_shrinksOf 49 = .ok (.iload_n 1, 1) := by decide +kernel
theorem dX7_shrinksOf_50 : decode cX7_shrinksOf 50 = .ok (.if_icmp .ne 8, 3) := by decide +kernel
theorem dX7_shrinksOf_53 : decode cX7_shrinksOf 53 = .ok (.iload 5, 2) := by decide +kernel
theorem dX7_shrinksOf_55 : decode cX7_shrinksOf 55 = .ok (.goto 4, 3) := by decide +kernel
theorem dX7_shrinksOf_58 : decode cX7_shrinksOf 58 = .ok (.iload_n 3, 1) := by decide +kernel
theorem dX7_shrinksOf_59 : decode cX7_shrinksOf 59 = .ok (.istore_n 3, 1) := by decide +kernel
theorem dX7_shrinksOf_60 : decode cX7_shrinksOf 60 = .ok (.iinc 2 1, 3) := by decide +kernel
theorem dX7_shrinksOf_63 : decode cX7_shrinksOf 63 = .ok (.iload 6, 2) := by decide +kernel
theorem dX7_shrinksOf_65 : decode cX7_shrinksOf 65 = .ok (.istore 4, 2) := by decide +kernel
theorem dX7_shrinksOf_67 : decode cX7_shrinksOf 67 = .ok (.iinc 5 1, 3) := by decide +kernel
theorem dX7_shrinksOf_70 : decode cX7_shrinksOf 70 = .ok (.goto (-51), 3) := by decide +kernel
theorem dX7_shrinksOf_73 : decode cX7_shrinksOf 73 = .ok (.iload_n 1, 1) := by decide +kernel
theorem dX7_shrinksOf_74 : decode cX7_shrinksOf 74 = .ok (.iconst (-1), 1) := by decide +kernel
theorem dX7_shrinksOf_75 : decode cX7_shrinksOf 75 = .ok (.if_icmp .ne 7, 3) := by decide +kernel
theorem dX7_shrinksOf_78 : decode cX7_shrinksOf 78 = .ok (.iload_n 2, 1) := by decide +kernel
theorem dX7_shrinksOf_79 : decode cX7_shrinksOf 79 = .ok (.goto 4, 3) := by decide +kernel
theorem dX7_shrinksOf_82 : decode cX7_shrinksOf 82 = .ok (.iload_n 3, 1) := by decide +kernel
theorem dX7_shrinksOf_83 : decode cX7_shrinksOf 83 = .ok (.ireturn, 1) := by decide +kernel
theorem dX7_shrinks_0 : decode cX7_shrinks 0 = .ok (.iload_n 1, 1) := by decide +kernel
theorem dX7_shrinks_1 : decode cX7_shrinks 1 = .ok (.iconst (-1), 1) := by decide +kernel
theorem dX7_shrinks_2 : decode cX7_shrinks 2 = .ok (.bipush 39, 2) := by decide +kernel
theorem dX7_shrinks_4 : decode cX7_shrinks 4 = .ok (.invokestatic 75, 3) := by decide +kernel
theorem dX7_shrinks_7 : decode cX7_shrinks 7 = .ok (.ifCond .eq 11, 3) := by decide +kernel
theorem dX7_shrinks_10 : decode cX7_shrinks 10 = .ok (.aload_n 0, 1) := by decide +kernel
theorem dX7_shrinks_11 : decode cX7_shrinks 11 = .ok (.iload_n 1, 1) := by decide +kernel
theorem dX7_shrinks_12 : decode cX7_shrinks 12 = .ok (.invokevirtual 261, 3) := by decide +kernel
theorem dX7_shrinks_15 : decode cX7_shrinks 15 = .ok (.goto 5, 3) := by decide +kernel
theorem dX7_shrinks_18 : decode cX7_shrinks 18 = .ok (.bipush (-2), 2) := by decide +kernel
theorem dX7_shrinks_20 : decode cX7_shrinks 20 = .ok (.ireturn, 1) := by decide +kernel
theorem dX7_leastWithout_0 : decode cX7_leastWithout 0 = .ok (.iconst (-1), 1) := by decide +kernel
theorem dX7_leastWithout_1 : decode cX7_leastWithout 1 = .ok (.istore_n 2, 1) := by decide +kernel
theorem dX7_leastWithout_2 : decode cX7_leastWithout 2 = .ok (.iconst 0, 1) := by decide +kernel
theorem dX7_leastWithout_3 : decode cX7_leastWithout 3 = .ok (.istore_n 3, 1) := by decide +kernel
theorem dX7_leastWithout_4 : decode cX7_leastWithout 4 = .ok (.iload_n 3, 1) := by decide +kernel
theorem dX7_leastWithout_5 : decode cX7_leastWithout 5 = .ok (.bipush 64, 2) := by decide +kernel
theorem dX7_leastWithout_7 : decode cX7_leastWithout 7 = .ok (.if_icmp .ge 69, 3) := by decide +kernel
theorem dX7_leastWithout_10 : decode cX7_leastWithout 10 = .ok (.iload_n 3, 1) := by decide +kernel
theorem dX7_leastWithout_11 : decode cX7_leastWithout 11 = .ok (.iload_n 1, 1) := by decide +kernel
theorem dX7_leastWithout_12 : decode cX7_leastWithout 12 = .ok (.iand, 1) := by decide +kernel
theorem dX7_leastWithout_13 : decode cX7_leastWithout 13 = .ok (.ifCond .ne 35, 3) := by decide +kernel
theorem dX7_leastWithout_16 : decode cX7_leastWithout 16 = .ok (.aload_n 0, 1) := by decide +kernel
theorem dX7_leastWithout_17 : decode cX7_leastWithout 17 = .ok (.getfield 47, 3) := by decide +kernel
theorem dX7_leastWithout_20 : decode cX7_leastWithout 20 = .ok (.iload_n 3, 1) := by decide +kernel
theorem dX7_leastWithout_21 : decode cX7_leastWithout 21 = .ok (.iaload, 1) := by decide +kernel
theorem dX7_leastWithout_22 : decode cX7_leastWithout 22 = .ok (.iconst (-1), 1) := by decide +kernel
theorem dX7_leastWithout_23 : decode cX7_leastWithout 23 = .ok (.if_icmp .eq 25, 3) := by decide +kernel
theorem dX7_leastWithout_26 : decode cX7_leastWithout 26 = .ok (.iload_n 2, 1) := by decide +kernel
theorem dX7_leastWithout_27 : decode cX7_leastWithout 27 = .ok (.iconst (-1), 1) := by decide +kernel
theorem dX7_leastWithout_28 : decode cX7_leastWithout 28 = .ok (.if_icmp .eq 16, 3) := by decide +kernel
theorem dX7_leastWithout_31 : decode cX7_leastWithout 31 = .ok (.aload_n 0, 1) := by decide +kernel
theorem dX7_leastWithout_32 : decode cX7_leastWithout 32 = .ok (.getfield 47, 3) := by decide +kernel
theorem dX7_leastWithout_35 : decode cX7_leastWithout 35 = .ok (.iload_n 3, 1) := by decide +kernel
theorem dX7_leastWithout_36 : decode cX7_leastWithout 36 = .ok (.iaload, 1) := by decide +kernel
theorem dX7_leastWithout_37 : decode cX7_leastWithout 37 = .ok (.invokestatic 127, 3) := by decide +kernel
theorem dX7_leastWithout_40 : decode cX7_leastWithout 40 = .ok (.iload_n 2, 1) := by decide +kernel
theorem dX7_leastWithout_41 : decode cX7_leastWithout 41 = .ok (.if_icmp .ge 7, 3) := by decide +kernel
theorem dX7_leastWithout_44 : decode cX7_leastWithout 44 = .ok (.iconst 1, 1) := by decide +kernel
theorem dX7_leastWithout_45 : decode cX7_leastWithout 45 = .ok (.goto 4, 3) := by decide +kernel
theorem dX7_leastWithout_48 : decode cX7_leastWithout 48 = .ok (.iconst 0, 1) := by decide +kernel
theorem dX7_leastWithout_49 : decode cX7_leastWithout 49 = .ok (.istore 4, 2) := by decide +kernel
theorem dX7_leastWithout_51 : decode cX7_leastWithout 51 = .ok (.iload 4, 2) := by decide +kernel
theorem dX7_leastWithout_53 : decode cX7_leastWithout 53 = .ok (.ifCond .eq 15, 3) := by decide +kernel
theorem dX7_leastWithout_56 : decode cX7_leastWithout 56 = .ok (.aload_n 0, 1) := by decide +kernel
theorem dX7_leastWithout_57 : decode cX7_leastWithout 57 = .ok (.getfield 47, 3) := by decide +kernel
theorem dX7_leastWithout_60 : decode cX7_leastWithout 60 = .ok (.iload_n 3, 1) := by decide +kernel
theorem dX7_leastWithout_61 : decode cX7_leastWithout 61 = .ok (.iaload, 1) := by decide +kernel
theorem dX7_leastWithout_62 : decode cX7_leastWithout 62 = .ok (.invokestatic 127, 3) := by decide +kernel
theorem dX7_leastWithout_65 : decode cX7_leastWithout 65 = .ok (.goto 4, 3) := by decide +kernel
theorem dX7_leastWithout_68 : decode cX7_leastWithout 68 = .ok (.iload_n 2, 1) := by decide +kernel
theorem dX7_leastWithout_69 : decode cX7_leastWithout 69 = .ok (.istore_n 2, 1) := by decide +kernel
theorem dX7_leastWithout_70 : decode cX7_leastWithout 70 = .ok (.iinc 3 1, 3) := by decide +kernel
theorem dX7_leastWithout_73 : decode cX7_leastWithout 73 = .ok (.goto (-69), 3) := by decide +kernel
theorem dX7_leastWithout_76 : decode cX7_leastWithout 76 = .ok (.iload_n 2, 1) := by decide +kernel
theorem dX7_leastWithout_77 : decode cX7_leastWithout 77 = .ok (.ireturn, 1) := by decide +kernel
theorem dX7_linesWithout_0 : decode cX7_linesWithout 0 = .ok (.aload_n 0, 1) := by decide +kernel
theorem dX7_linesWithout_1 : decode cX7_linesWithout 1 = .ok (.iload_n 1, 1) := by decide +kernel
theorem dX7_linesWithout_2 : decode cX7_linesWithout 2 = .ok (.invokevirtual 264, 3) := by decide +kernel
theorem dX7_linesWithout_5 : decode cX7_linesWithout 5 = .ok (.istore_n 2, 1) := by decide +kernel
theorem dX7_linesWithout_6 : decode cX7_linesWithout 6 = .ok (.iload_n 2, 1) := by decide +kernel
theorem dX7_linesWithout_7 : decode cX7_linesWithout 7 = .ok (.iconst (-1), 1) := by decide +kernel
theorem dX7_linesWithout_8 : decode cX7_linesWithout 8 = .ok (.if_icmp .ne 7, 3) := by decide +kernel
theorem dX7_linesWithout_11 : decode cX7_linesWithout 11 = .ok (.iconst (-1), 1) := by decide +kernel
theorem dX7_linesWithout_12 : decode cX7_linesWithout 12 = .ok (.goto 16, 3) := by decide +kernel
theorem dX7_linesWithout_15 : decode cX7_linesWithout 15 = .ok (.aload_n 0, 1) := by decide +kernel
theorem dX7_linesWithout_16 : decode cX7_linesWithout 16 = .ok (.aload_n 0, 1) := by decide +kernel
theorem dX7_linesWithout_17 : decode cX7_linesWithout 17 = .ok (.getfield 13, 3) := by decide +kernel
theorem dX7_linesWithout_20 : decode cX7_linesWithout 20 = .ok (.iload_n 2, 1) := by decide +kernel
theorem dX7_linesWithout_21 : decode cX7_linesWithout 21 = .ok (.invokestatic 130, 3) := by decide +kernel
theorem dX7_linesWithout_24 : decode cX7_linesWithout 24 = .ok (.iload_n 1, 1) := by decide +kernel
theorem dX7_linesWithout_25 : decode cX7_linesWithout 25 = .ok (.invokevirtual 258, 3) := by decide +kernel
theorem dX7_linesWithout_28 : decode cX7_linesWithout 28 = .ok (.ireturn, 1) := by decide +kernel
theorem dX7_isOverBy_0 : decode cX7_isOverBy 0 = .ok (.aload_n 0, 1) := by decide +kernel
theorem dX7_isOverBy_1 : decode cX7_isOverBy 1 = .ok (.iload_n 1, 1) := by decide +kernel
theorem dX7_isOverBy_2 : decode cX7_isOverBy 2 = .ok (.invokevirtual 264, 3) := by decide +kernel
theorem dX7_isOverBy_5 : decode cX7_isOverBy 5 = .ok (.aload_n 0, 1) := by decide +kernel
theorem dX7_isOverBy_6 : decode cX7_isOverBy 6 = .ok (.getfield 13, 3) := by decide +kernel
theorem dX7_isOverBy_9 : decode cX7_isOverBy 9 = .ok (.if_icmp .le 7, 3) := by decide +kernel
theorem dX7_isOverBy_12 : decode cX7_isOverBy 12 = .ok (.iconst 1, 1) := by decide +kernel
theorem dX7_isOverBy_13 : decode cX7_isOverBy 13 = .ok (.goto 4, 3) := by decide +kernel
theorem dX7_isOverBy_16 : decode cX7_isOverBy 16 = .ok (.iconst 0, 1) := by decide +kernel
theorem dX7_isOverBy_17 : decode cX7_isOverBy 17 = .ok (.ireturn, 1) := by decide +kernel
theorem dX7_spareOf_0 : decode cX7_spareOf 0 = .ok (.aload_n 0, 1) := by decide +kernel
theorem dX7_spareOf_1 : decode cX7_spareOf 1 = .ok (.invokevirtual 243, 3) := by decide +kernel
theorem dX7_spareOf_4 : decode cX7_spareOf 4 = .ok (.aload_n 0, 1) := by decide +kernel
theorem dX7_spareOf_5 : decode cX7_spareOf 5 = .ok (.iconst 0, 1) := by decide +kernel
theorem dX7_spareOf_6 : decode cX7_spareOf 6 = .ok (.invokevirtual 267, 3) := by decide +kernel
theorem dX7_spareOf_9 : decode cX7_spareOf 9 = .ok (.istore_n 1, 1) := by decide +kernel
theorem dX7_spareOf_10 : decode cX7_spareOf 10 = .ok (.iconst 0, 1) := by decide +kernel
theorem dX7_spareOf_11 : decode cX7_spareOf 11 = .ok (.istore_n 2, 1) := by decide +kernel
theorem dX7_spareOf_12 : decode cX7_spareOf 12 = .ok (.iconst 0, 1) := by decide +kernel
theorem dX7_spareOf_13 : decode cX7_spareOf 13 = .ok (.istore_n 3, 1) := by decide +kernel
theorem dX7_spareOf_14 : decode cX7_spareOf 14 = .ok (.iload_n 3, 1) := by decide +kernel
theorem dX7_spareOf_15 : decode cX7_spareOf 15 = .ok (.aload_n 0, 1) := by decide +kernel
theorem dX7_spareOf_16 : decode cX7_spareOf 16 = .ok (.getfield 96, 3) := by decide +kernel
theorem dX7_spareOf_19 : decode cX7_spareOf 19 = .ok (.if_icmp .ge 52, 3) := by decide +kernel
theorem dX7_spareOf_22 : decode cX7_spareOf 22 = .ok (.iload_n 1, 1) := by decide +kernel
theorem dX7_spareOf_23 : decode cX7_spareOf 23 = .ok (.iconst (-1), 1) := by decide +kernel
theorem dX7_spareOf_24 : decode cX7_spareOf 24 = .ok (.if_icmp .eq 47, 3) := by decide +kernel
theorem dX7_spareOf_27 : decode cX7_spareOf 27 = .ok (.iconst 1, 1) := by decide +kernel
theorem dX7_spareOf_28 : decode cX7_spareOf 28 = .ok (.iload_n 3, 1) := by decide +kernel
theorem dX7_spareOf_29 : decode cX7_spareOf 29 = .ok (.ishl, 1) := by decide +kernel
theorem dX7_spareOf_30 : decode cX7_spareOf 30 = .ok (.istore 4, 2) := by decide +kernel
theorem dX7_spareOf_32 : decode cX7_spareOf 32 = .ok (.iload_n 2, 1) := by decide +kernel
theorem dX7_spareOf_33 : decode cX7_spareOf 33 = .ok (.aload_n 0, 1) := by decide +kernel
theorem dX7_spareOf_34 : decode cX7_spareOf 34 = .ok (.iload 4, 2) := by decide +kernel
theorem dX7_spareOf_36 : decode cX7_spareOf 36 = .ok (.invokevirtual 267, 3) := by decide +kernel
theorem dX7_spareOf_39 : decode cX7_spareOf 39 = .ok (.iload_n 1, 1) := by decide +kernel
theorem dX7_spareOf_40 : decode cX7_spareOf 40 = .ok (.if_icmp .ne 22, 3) := by decide +kernel
theorem dX7_spareOf_43 : decode cX7_spareOf 43 = .ok (.aload_n 0, 1) := by decide +kernel
theorem dX7_spareOf_44 : decode cX7_spareOf 44 = .ok (.iload 4, 2) := by decide +kernel
theorem dX7_spareOf_46 : decode cX7_spareOf 46 = .ok (.invokevirtual 270, 3) := by decide +kernel
theorem dX7_spareOf_49 : decode cX7_spareOf 49 = .ok (.aload_n 0, 1) := by decide +kernel
theorem dX7_spareOf_50 : decode cX7_spareOf 50 = .ok (.iconst 0, 1) := by decide +kernel
theorem dX7_spareOf_51 : decode cX7_spareOf 51 = .ok (.invokevirtual 270, 3) := by decide +kernel
theorem dX7_spareOf_54 : decode cX7_spareOf 54 = .ok (.if_icmp .ne 8, 3) := by decide +kernel
theorem dX7_spareOf_57 : decode cX7_spareOf 57 = .ok (.iload 4, 2) := by decide +kernel
theorem dX7_spareOf_59 : decode cX7_spareOf 59 = .ok (.goto 4, 3) := by decide +kernel
theorem dX7_spareOf_62 : decode cX7_spareOf 62 = .ok (.iconst 0, 1) := by decide +kernel
theorem dX7_spareOf_63 : decode cX7_spareOf 63 = .ok (.ior, 1) := by decide +kernel
theorem dX7_spareOf_64 : decode cX7_spareOf 64 = .ok (.istore_n 2, 1) := by decide +kernel
theorem dX7_spareOf_65 : decode cX7_spareOf 65 = .ok (.iinc 3 1, 3) := by decide +kernel
theorem dX7_spareOf_68 : decode cX7_spareOf 68 = .ok (.goto (-54), 3) := by decide +kernel
theorem dX7_spareOf_71 : decode cX7_spareOf 71 = .ok (.iload_n 2, 1) := by decide +kernel
theorem dX7_spareOf_72 : decode cX7_spareOf 72 = .ok (.ireturn, 1) := by decide +kernel
theorem dX7_spare_0 : decode cX7_spare 0 = .ok (.aload_n 0, 1) := by decide +kernel
theorem dX7_spare_1 : decode cX7_spare 1 = .ok (.invokevirtual 273, 3) := by decide +kernel
theorem dX7_spare_4 : decode cX7_spare 4 = .ok (.ireturn, 1) := by decide +kernel
theorem dX7_meets_0 : decode cX7_meets 0 = .ok (.aload_n 0, 1) := by decide +kernel
theorem dX7_meets_1 : decode cX7_meets 1 = .ok (.iload_n 1, 1) := by decide +kernel
theorem dX7_meets_2 : decode cX7_meets 2 = .ok (.putfield 276, 3) := by decide +kernel
theorem dX7_meets_5 : decode cX7_meets 5 = .ok (.bipush (-10), 2) := by decide +kernel
theorem dX7_meets_7 : decode cX7_meets 7 = .ok (.iload_n 1, 1) := by decide +kernel
theorem dX7_meets_8 : decode cX7_meets 8 = .ok (.isub, 1) := by decide +kernel
theorem dX7_meets_9 : decode cX7_meets 9 = .ok (.ireturn, 1) := by decide +kernel
theorem dX7_isSheet_0 : decode cX7_isSheet 0 = .ok (.iload_n 0, 1) := by decide +kernel
theorem dX7_isSheet_1 : decode cX7_isSheet 1 = .ok (.iconst 0, 1) := by decide +kernel
theorem dX7_isSheet_2 : decode cX7_isSheet 2 = .ok (.iconst 3, 1) := by decide +kernel
theorem dX7_isSheet_3 : decode cX7_isSheet 3 = .ok (.invokestatic 75, 3) := by decide +kernel
theorem dX7_isSheet_6 : decode cX7_isSheet 6 = .ok (.ireturn, 1) := by decide +kernel
theorem dX7_sheet_0 : decode cX7_sheet 0 = .ok (.iload_n 1, 1) := by decide +kernel
theorem dX7_sheet_1 : decode cX7_sheet 1 = .ok (.invokestatic 82, 3) := by decide +kernel
theorem dX7_sheet_4 : decode cX7_sheet 4 = .ok (.ifCond .eq 18, 3) := by decide +kernel
theorem dX7_sheet_7 : decode cX7_sheet 7 = .ok (.iload_n 2, 1) := by decide +kernel
theorem dX7_sheet_8 : decode cX7_sheet 8 = .ok (.iconst 0, 1) := by decide +kernel
theorem dX7_sheet_9 : decode cX7_sheet 9 = .ok (.iconst 2, 1) := by decide +kernel
theorem dX7_sheet_10 : decode cX7_sheet 10 = .ok (.invokestatic 75, 3) := by decide +kernel
theorem dX7_sheet_13 : decode cX7_sheet 13 = .ok (.ifCond .eq 9, 3) := by decide +kernel
theorem dX7_sheet_16 : decode cX7_sheet 16 = .ok (.iload_n 3, 1) := by decide +kernel
theorem dX7_sheet_17 : decode cX7_sheet 17 = .ok (.bipush 60, 2) := by decide +kernel
theorem dX7_sheet_19 : decode cX7_sheet 19 = .ok (.if_icmp .le 6, 3) := by decide +kernel
theorem dX7_sheet_22 : decode cX7_sheet 22 = .ok (.bipush (-2), 2) := by decide +kernel
theorem dX7_sheet_24 : decode cX7_sheet 24 = .ok (.ireturn, 1) := by decide +kernel
theorem dX7_sheet_25 : decode cX7_sheet 25 = .ok (.iload_n 3, 1) := by decide +kernel
theorem dX7_sheet_26 : decode cX7_sheet 26 = .ok (.ifCond .ge 9, 3) := by decide +kernel
theorem dX7_sheet_29 : decode cX7_sheet 29 = .ok (.aload_n 0, 1) := by decide +kernel
theorem dX7_sheet_30 : decode cX7_sheet 30 = .ok (.iconst 5, 1) := by decide +kernel
theorem dX7_sheet_31 : decode cX7_sheet 31 = .ok (.invokevirtual 86, 3) := by decide +kernel
theorem dX7_sheet_34 : decode cX7_sheet 34 = .ok (.ireturn, 1) := by decide +kernel
theorem dX7_sheet_35 : decode cX7_sheet 35 = .ok (.aload_n 0, 1) := by decide +kernel
theorem dX7_sheet_36 : decode cX7_sheet 36 = .ok (.getfield 59, 3) := by decide +kernel
theorem dX7_sheet_39 : decode cX7_sheet 39 = .ok (.iload_n 1, 1) := by decide +kernel
theorem dX7_sheet_40 : decode cX7_sheet 40 = .ok (.iconst 1, 1) := by decide +kernel
theorem dX7_sheet_41 : decode cX7_sheet 41 = .ok (.bastore, 1) := by decide +kernel
theorem dX7_sheet_42 : decode cX7_sheet 42 = .ok (.aload_n 0, 1) := by decide +kernel
theorem dX7_sheet_43 : decode cX7_sheet 43 = .ok (.getfield 63, 3) := by decide +kernel
theorem dX7_sheet_46 : decode cX7_sheet 46 = .ok (.iload_n 1, 1) := by decide +kernel
theorem dX7_sheet_47 : decode cX7_sheet 47 = .ok (.iload_n 2, 1) := by decide +kernel
theorem dX7_sheet_48 : decode cX7_sheet 48 = .ok (.iastore, 1) := by decide +kernel
theorem dX7_sheet_49 : decode cX7_sheet 49 = .ok (.aload_n 0, 1) := by decide +kernel
theorem dX7_sheet_50 : decode cX7_sheet 50 = .ok (.getfield 66, 3) := by decide +kernel
theorem dX7_sheet_53 : decode cX7_sheet 53 = .ok (.iload_n 1, 1) := by decide +kernel
theorem dX7_sheet_54 : decode cX7_sheet 54 = .ok (.iload_n 3, 1) := by decide +kernel
theorem dX7_sheet_55 : decode cX7_sheet 55 = .ok (.iastore, 1) := by decide +kernel
theorem dX7_sheet_56 : decode cX7_sheet 56 = .ok (.iconst 0, 1) := by decide +kernel
theorem dX7_sheet_57 : decode cX7_sheet 57 = .ok (.istore 4, 2) := by decide +kernel
theorem dX7_sheet_59 : decode cX7_sheet 59 = .ok (.iload 4, 2) := by decide +kernel
theorem dX7_sheet_61 : decode cX7_sheet 61 = .ok (.bipush 60, 2) := by decide +kernel
theorem dX7_sheet_63 : decode cX7_sheet 63 = .ok (.if_icmp .ge 22, 3) := by decide +kernel
theorem dX7_sheet_66 : decode cX7_sheet 66 = .ok (.aload_n 0, 1) := by decide +kernel
theorem dX7_sheet_67 : decode cX7_sheet 67 = .ok (.getfield 69, 3) := by decide +kernel
theorem dX7_sheet_70 : decode cX7_sheet 70 = .ok (.bipush 60, 2) := by decide +kernel
theorem dX7_sheet_72 : decode cX7_sheet 72 = .ok (.iload_n 1, 1) := by decide +kernel
theorem dX7_sheet_73 : decode cX7_sheet 73 = .ok (.imul, 1) := by decide +kernel
theorem dX7_sheet_74 : decode cX7_sheet 74 = .ok (.iload 4, 2) := by decide +kernel
theorem dX7_sheet_76 : decode cX7_sheet 76 = .ok (.iadd, 1) := by decide +kernel
theorem dX7_sheet_77 : decode cX7_sheet 77 = .ok (.iconst 0, 1) := by decide +kernel
theorem dX7_sheet_78 : decode cX7_sheet 78 = .ok (.iastore, 1) := by decide +kernel
theorem dX7_sheet_79 : decode cX7_sheet 79 = .ok (.iinc 4 1, 3) := by decide +kernel
theorem dX7_sheet_82 : decode cX7_sheet 82 = .ok (.goto (-23), 3) := by decide +kernel
theorem dX7_sheet_85 : decode cX7_sheet 85 = .ok (.iload_n 3, 1) := by decide +kernel
theorem dX7_sheet_86 : decode cX7_sheet 86 = .ok (.ireturn, 1) := by decide +kernel
theorem dX7_lose_0 : decode cX7_lose 0 = .ok (.iload_n 1, 1) := by decide +kernel
theorem dX7_lose_1 : decode cX7_lose 1 = .ok (.invokestatic 82, 3) := by decide +kernel
theorem dX7_lose_4 : decode cX7_lose 4 = .ok (.ifCond .ne 6, 3) := by decide +kernel
theorem dX7_lose_7 : decode cX7_lose 7 = .ok (.bipush (-2), 2) := by decide +kernel
theorem dX7_lose_9 : decode cX7_lose 9 = .ok (.ireturn, 1) := by decide +kernel
theorem dX7_lose_10 : decode cX7_lose 10 = .ok (.aload_n 0, 1) := by decide +kernel
theorem dX7_lose_11 : decode cX7_lose 11 = .ok (.getfield 59, 3) := by decide +kernel
theorem dX7_lose_14 : decode cX7_lose 14 = .ok (.iload_n 1, 1) := by decide +kernel
theorem dX7_lose_15 : decode cX7_lose 15 = .ok (.baload, 1) := by decide +kernel
theorem dX7_lose_16 : decode cX7_lose 16 = .ok (.ifCond .ne 9, 3) := by decide +kernel
theorem dX7_lose_19 : decode cX7_lose 19 = .ok (.aload_n 0, 1) := by decide +kernel
theorem dX7_lose_20 : decode cX7_lose 20 = .ok (.iconst 1, 1) := by decide +kernel
theorem dX7_lose_21 : decode cX7_lose 21 = .ok (.invokevirtual 86, 3) := by decide +kernel
theorem dX7_lose_24 : decode cX7_lose 24 = .ok (.ireturn, 1) := by decide +kernel
theorem dX7_lose_25 : decode cX7_lose 25 = .ok (.aload_n 0, 1) := by decide +kernel
theorem dX7_lose_26 : decode cX7_lose 26 = .ok (.getfield 59, 3) := by decide +kernel
theorem dX7_lose_29 : decode cX7_lose 29 = .ok (.iload_n 1, 1) := by decide +kernel
theorem dX7_lose_30 : decode cX7_lose 30 = .ok (.iconst 0, 1) := by decide +kernel
theorem dX7_lose_31 : decode cX7_lose 31 = .ok (.bastore, 1) := by decide +kernel
theorem dX7_lose_32 : decode cX7_lose 32 = .ok (.aload_n 0, 1) := by decide +kernel
theorem dX7_lose_33 : decode cX7_lose 33 = .ok (.getfield 66, 3) := by decide +kernel
theorem dX7_lose_36 : decode cX7_lose 36 = .ok (.iload_n 1, 1) := by decide +kernel
theorem dX7_lose_37 : decode cX7_lose 37 = .ok (.iaload, 1) := by decide +kernel
theorem dX7_lose_38 : decode cX7_lose 38 = .ok (.ireturn, 1) := by decide +kernel
theorem dX7_lacks_0 : decode cX7_lacks 0 = .ok (.aload_n 0, 1) := by decide +kernel
theorem dX7_lacks_1 : decode cX7_lacks 1 = .ok (.getfield 59, 3) := by decide +kernel
theorem dX7_lacks_4 : decode cX7_lacks 4 = .ok (.iload_n 1, 1) := by decide +kernel
theorem dX7_lacks_5 : decode cX7_lacks 5 = .ok (.baload, 1) := by decide +kernel
theorem dX7_lacks_6 : decode cX7_lacks 6 = .ok (.ifCond .ne 7, 3) := by decide +kernel
theorem dX7_lacks_9 : decode cX7_lacks 9 = .ok (.iconst 1, 1) := by decide +kernel
theorem dX7_lacks_10 : decode cX7_lacks 10 = .ok (.goto 38, 3) := by decide +kernel
theorem dX7_lacks_13 : decode cX7_lacks 13 = .ok (.aload_n 0, 1) := by decide +kernel
theorem dX7_lacks_14 : decode cX7_lacks 14 = .ok (.getfield 63, 3) := by decide +kernel
theorem dX7_lacks_17 : decode cX7_lacks 17 = .ok (.iload_n 1, 1) := by decide +kernel
theorem dX7_lacks_18 : decode cX7_lacks 18 = .ok (.iaload, 1) := by decide +kernel
theorem dX7_lacks_19 : decode cX7_lacks 19 = .ok (.iload_n 2, 1) := by decide +kernel
theorem dX7_lacks_20 : decode cX7_lacks 20 = .ok (.if_icmp .eq 7, 3) := by decide +kernel
theorem dX7_lacks_23 : decode cX7_lacks 23 = .ok (.iconst 3, 1) := by decide +kernel
theorem dX7_lacks_24 : decode cX7_lacks 24 = .ok (.goto 24, 3) := by decide +kernel
theorem dX7_lacks_27 : decode cX7_lacks 27 = .ok (.iload_n 3, 1) := by decide +kernel
theorem dX7_lacks_28 : decode cX7_lacks 28 = .ok (.iconst 0, 1) := by decide +kernel
theorem dX7_lacks_29 : decode cX7_lacks 29 = .ok (.aload_n 0, 1) := by decide +kernel
theorem dX7_lacks_30 : decode cX7_lacks 30 = .ok (.getfield 66, 3) := by decide +kernel
theorem dX7_lacks_33 : decode cX7_lacks 33 = .ok (.iload_n 1, 1) := by decide +kernel
theorem dX7_lacks_34 : decode cX7_lacks 34 = .ok (.iaload, 1) := by decide +kernel
theorem dX7_lacks_35 : decode cX7_lacks 35 = .ok (.iconst 1, 1) := by decide +kernel
theorem dX7_lacks_36 : decode cX7_lacks 36 = .ok (.isub, 1) := by decide +kernel
theorem dX7_lacks_37 : decode cX7_lacks 37 = .ok (.invokestatic 75, 3) := by decide +kernel
theorem dX7_lacks_40 : decode cX7_lacks 40 = .ok (.ifCond .eq 7, 3) := by decide +kernel
theorem dX7_lacks_43 : decode cX7_lacks 43 = .ok (.iconst 0, 1) := by decide +kernel
theorem dX7_lacks_44 : decode cX7_lacks 44 = .ok (.goto 4, 3) := by decide +kernel
theorem dX7_lacks_47 : decode cX7_lacks 47 = .ok (.iconst 2, 1) := by decide +kernel
theorem dX7_lacks_48 : decode cX7_lacks 48 = .ok (.ireturn, 1) := by decide +kernel
theorem dX7_keep_0 : decode cX7_keep 0 = .ok (.aload_n 0, 1) := by decide +kernel
theorem dX7_keep_1 : decode cX7_keep 1 = .ok (.getfield 69, 3) := by decide +kernel
theorem dX7_keep_4 : decode cX7_keep 4 = .ok (.bipush 60, 2) := by decide +kernel
theorem dX7_keep_6 : decode cX7_keep 6 = .ok (.iload_n 1, 1) := by decide +kernel
theorem dX7_keep_7 : decode cX7_keep 7 = .ok (.imul, 1) := by decide +kernel
theorem dX7_keep_8 : decode cX7_keep 8 = .ok (.iload_n 2, 1) := by decide +kernel
theorem dX7_keep_9 : decode cX7_keep 9 = .ok (.iadd, 1) := by decide +kernel
theorem dX7_keep_10 : decode cX7_keep 10 = .ok (.aload_n 0, 1) := by decide +kernel
theorem dX7_keep_11 : decode cX7_keep 11 = .ok (.getfield 63, 3) := by decide +kernel
theorem dX7_keep_14 : decode cX7_keep 14 = .ok (.iload_n 1, 1) := by decide +kernel
theorem dX7_keep_15 : decode cX7_keep 15 = .ok (.iaload, 1) := by decide +kernel
theorem dX7_keep_16 : decode cX7_keep 16 = .ok (.ifCond .ne 8, 3) := by decide +kernel
theorem dX7_keep_19 : decode cX7_keep 19 = .ok (.iload_n 3, 1) := by decide +kernel
theorem dX7_keep_20 : decode cX7_keep 20 = .ok (.i2b, 1) := by decide +kernel
theorem dX7_keep_21 : decode cX7_keep 21 = .ok (.goto 19, 3) := by decide +kernel
theorem dX7_keep_24 : decode cX7_keep 24 = .ok (.aload_n 0, 1) := by decide +kernel
theorem dX7_keep_25 : decode cX7_keep 25 = .ok (.getfield 63, 3) := by decide +kernel
theorem dX7_keep_28 : decode cX7_keep 28 = .ok (.iload_n 1, 1) := by decide +kernel
theorem dX7_keep_29 : decode cX7_keep 29 = .ok (.iaload, 1) := by decide +kernel
theorem dX7_keep_30 : decode cX7_keep 30 = .ok (.iconst 1, 1) := by decide +kernel
theorem dX7_keep_31 : decode cX7_keep 31 = .ok (.if_icmp .ne 8, 3) := by decide +kernel
theorem dX7_keep_34 : decode cX7_keep 34 = .ok (.iload_n 3, 1) := by decide +kernel
theorem dX7_keep_35 : decode cX7_keep 35 = .ok (.i2s, 1) := by decide +kernel
theorem dX7_keep_36 : decode cX7_keep 36 = .ok (.goto 4, 3) := by decide +kernel
theorem dX7_keep_39 : decode cX7_keep 39 = .ok (.iload_n 3, 1) := by decide +kernel
theorem dX7_keep_40 : decode cX7_keep 40 = .ok (.iastore, 1) := by decide +kernel
theorem dX7_keep_41 : decode cX7_keep 41 = .ok (.return_, 1) := by decide +kernel
theorem dX7_put_0 : decode cX7_put 0 = .ok (.iload_n 1, 1) := by decide +kernel
theorem dX7_put_1 : decode cX7_put 1 = .ok (.invokestatic 82, 3) := by decide +kernel
theorem dX7_put_4 : decode cX7_put 4 = .ok (.ifCond .eq 12, 3) := by decide +kernel
theorem dX7_put_7 : decode cX7_put 7 = .ok (.iload_n 2, 1) := by decide +kernel
theorem dX7_put_8 : decode cX7_put 8 = .ok (.iconst 0, 1) := by decide +kernel
theorem dX7_put_9 : decode cX7_put 9 = .ok (.iconst 2, 1) := by decide +kernel
theorem dX7_put_10 : decode cX7_put 10 = .ok (.invokestatic 75, 3) := by decide +kernel
theorem dX7_put_13 : decode cX7_put 13 = .ok (.ifCond .ne 6, 3) := by decide +kernel
theorem dX7_put_16 : decode cX7_put 16 = .ok (.bipush (-2), 2) := by decide +kernel
theorem dX7_put_18 : decode cX7_put 18 = .ok (.ireturn, 1) := by decide +kernel
theorem dX7_put_19 : decode cX7_put 19 = .ok (.aload_n 0, 1) := by decide +kernel
theorem dX7_put_20 : decode cX7_put 20 = .ok (.iload_n 1, 1) := by decide +kernel
theorem dX7_put_21 : decode cX7_put 21 = .ok (.iload_n 2, 1) := by decide +kernel
theorem dX7_put_22 : decode cX7_put 22 = .ok (.iload_n 3, 1) := by decide +kernel
theorem dX7_put_23 : decode cX7_put 23 = .ok (.invokevirtual 279, 3) := by decide +kernel
theorem dX7_put_26 : decode cX7_put 26 = .ok (.istore 5, 2) := by decide +kernel
theorem dX7_put_28 : decode cX7_put 28 = .ok (.iload 5, 2) := by decide +kernel
theorem dX7_put_30 : decode cX7_put 30 = .ok (.ifCond .le 10, 3) := by decide +kernel
theorem dX7_put_33 : decode cX7_put 33 = .ok (.aload_n 0, 1) := by decide +kernel
theorem dX7_put_34 : decode cX7_put 34 = .ok (.iload 5, 2) := by decide +kernel
theorem dX7_put_36 : decode cX7_put 36 = .ok (.invokevirtual 86, 3) := by decide +kernel
theorem dX7_put_39 : decode cX7_put 39 = .ok (.ireturn, 1) := by decide +kernel
theorem dX7_put_40 : decode cX7_put 40 = .ok (.aload_n 0, 1) := by decide +kernel
theorem dX7_put_41 : decode cX7_put 41 = .ok (.iload_n 1, 1) := by decide +kernel
theorem dX7_put_42 : decode cX7_put 42 = .ok (.iload_n 3, 1) := by decide +kernel
theorem dX7_put_43 : decode cX7_put 43 = .ok (.iload 4, 2) := by decide +kernel
theorem dX7_put_45 : decode cX7_put 45 = .ok (.invokevirtual 282, 3) := by decide +kernel
theorem dX7_put_48 : decode cX7_put 48 = .ok (.iconst 1, 1) := by decide +kernel
theorem dX7_put_49 : decode cX7_put 49 = .ok (.ireturn, 1) := by decide +kernel
theorem dX7_get_0 : decode cX7_get 0 = .ok (.iload_n 1, 1) := by decide +kernel
theorem dX7_get_1 : decode cX7_get 1 = .ok (.invokestatic 82, 3) := by decide +kernel
theorem dX7_get_4 : decode cX7_get 4 = .ok (.ifCond .eq 12, 3) := by decide +kernel
theorem dX7_get_7 : decode cX7_get 7 = .ok (.iload_n 2, 1) := by decide +kernel
theorem dX7_get_8 : decode cX7_get 8 = .ok (.iconst 0, 1) := by decide +kernel
theorem dX7_get_9 : decode cX7_get 9 = .ok (.iconst 2, 1) := by decide +kernel
theorem dX7_get_10 : decode cX7_get 10 = .ok (.invokestatic 75, 3) := by decide +kernel
theorem dX7_get_13 : decode cX7_get 13 = .ok (.ifCond .ne 7, 3) := by decide +kernel
theorem dX7_get_16 : decode cX7_get 16 = .ok (.ldc_w 285, 3) := by decide +kernel
theorem dX7_get_19 : decode cX7_get 19 = .ok (.ireturn, 1) := by decide +kernel
theorem dX7_get_20 : decode cX7_get 20 = .ok (.aload_n 0, 1) := by decide +kernel
theorem dX7_get_21 : decode cX7_get 21 = .ok (.iload_n 1, 1) := by decide +kernel
theorem dX7_get_22 : decode cX7_get 22 = .ok (.iload_n 2, 1) := by decide +kernel
theorem dX7_get_23 : decode cX7_get 23 = .ok (.iload_n 3, 1) := by decide +kernel
theorem dX7_get_24 : decode cX7_get 24 = .ok (.invokevirtual 279, 3) := by decide +kernel
theorem dX7_get_27 : decode cX7_get 27 = .ok (.istore 4, 2) := by decide +kernel
theorem dX7_get_29 : decode cX7_get 29 = .ok (.iload 4, 2) := by decide +kernel
theorem dX7_get_31 : decode cX7_get 31 = .ok (.ifCond .le 13, 3) := by decide +kernel
theorem dX7_get_34 : decode cX7_get 34 = .ok (.aload_n 0, 1) := by decide +kernel
theorem dX7_get_35 : decode cX7_get 35 = .ok (.iload 4, 2) := by decide +kernel
theorem dX7_get_37 : decode cX7_get 37 = .ok (.putfield 276, 3) := by decide +kernel
theorem dX7_get_40 : decode cX7_get 40 = .ok (.ldc_w 285, 3) := by decide +kernel
theorem dX7_get_43 : decode cX7_get 43 = .ok (.ireturn, 1) := by decide +kernel
theorem dX7_get_44 : decode cX7_get 44 = .ok (.aload_n 0, 1) := by decide +kernel
theorem dX7_get_45 : decode cX7_get 45 = .ok (.getfield 69, 3) := by decide +kernel
theorem dX7_get_48 : decode cX7_get 48 = .ok (.bipush 60, 2) := by decide +kernel
theorem dX7_get_50 : decode cX7_get 50 = .ok (.iload_n 1, 1) := by decide +kernel
theorem dX7_get_51 : decode cX7_get 51 = .ok (.imul, 1) := by decide +kernel
theorem dX7_get_52 : decode cX7_get 52 = .ok (.iload_n 3, 1) := by decide +kernel
theorem dX7_get_53 : decode cX7_get 53 = .ok (.iadd, 1) := by decide +kernel
theorem dX7_get_54 : decode cX7_get 54 = .ok (.iaload, 1) := by decide +kernel
theorem dX7_get_55 : decode cX7_get 55 = .ok (.ireturn, 1) := by decide +kernel
theorem dX7_copy_0 : decode cX7_copy 0 = .ok (.iload_n 1, 1) := by decide +kernel
theorem dX7_copy_1 : decode cX7_copy 1 = .ok (.invokestatic 82, 3) := by decide +kernel
theorem dX7_copy_4 : decode cX7_copy 4 = .ok (.ifCond .eq 10, 3) := by decide +kernel
theorem dX7_copy_7 : decode cX7_copy 7 = .ok (.iload_n 3, 1) := by decide +kernel
theorem dX7_copy_8 : decode cX7_copy 8 = .ok (.invokestatic 82, 3) := by decide +kernel
theorem dX7_copy_11 : decode cX7_copy 11 = .ok (.ifCond .ne 6, 3) := by decide +kernel
theorem dX7_copy_14 : decode cX7_copy 14 = .ok (.bipush (-2), 2) := by decide +kernel
theorem dX7_copy_16 : decode cX7_copy 16 = .ok (.ireturn, 1) := by decide +kernel
theorem dX7_copy_17 : decode cX7_copy 17 = .ok (.aload_n 0, 1) := by decide +kernel
theorem dX7_copy_18 : decode cX7_copy 18 = .ok (.getfield 59, 3) := by decide +kernel
theorem dX7_copy_21 : decode cX7_copy 21 = .ok (.iload_n 1, 1) := by decide +kernel
theorem dX7_copy_22 : decode cX7_copy 22 = .ok (.baload, 1) := by decide +kernel
theorem dX7_copy_23 : decode cX7_copy 23 = .ok (.ifCond .eq 12, 3) := by decide +kernel
theorem dX7_copy_26 : decode cX7_copy 26 = .ok (.aload_n 0, 1) := by decide +kernel
theorem dX7_copy_27 : decode cX7_copy 27 = .ok (.getfield 59, 3) := by decide +kernel
theorem dX7_copy_30 : decode cX7_copy 30 = .ok (.iload_n 3, 1) := by decide +kernel
theorem dX7_copy_31 : decode cX7_copy 31 = .ok (.baload, 1) := by decide +kernel
theorem dX7_copy_32 : decode cX7_copy 32 = .ok (.ifCond .ne 9, 3) := by decide +kernel
theorem dX7_copy_35 : decode cX7_copy 35 = .ok (.aload_n 0, 1) := by decide +kernel
theorem dX7_copy_36 : decode cX7_copy 36 = .ok (.iconst 1, 1) := by decide +kernel
theorem dX7_copy_37 : decode cX7_copy 37 = .ok (.invokevirtual 86, 3) := by decide +kernel
theorem dX7_copy_40 : decode cX7_copy 40 = .ok (.ireturn, 1) := by decide +kernel
theorem dX7_copy_41 : decode cX7_copy 41 = .ok (.aload_n 0, 1) := by decide +kernel
theorem dX7_copy_42 : decode cX7_copy 42 = .ok (.getfield 63, 3) := by decide +kernel
theorem dX7_copy_45 : decode cX7_copy 45 = .ok (.iload_n 1, 1) := by decide +kernel
theorem dX7_copy_46 : decode cX7_copy 46 = .ok (.iaload, 1) := by decide +kernel
theorem dX7_copy_47 : decode cX7_copy 47 = .ok (.aload_n 0, 1) := by decide +kernel
theorem dX7_copy_48 : decode cX7_copy 48 = .ok (.getfield 63, 3) := by decide +kernel
theorem dX7_copy_51 : decode cX7_copy 51 = .ok (.iload_n 3, 1) := by decide +kernel
theorem dX7_copy_52 : decode cX7_copy 52 = .ok (.iaload, 1) := by decide +kernel
theorem dX7_copy_53 : decode cX7_copy 53 = .ok (.if_icmp .eq 9, 3) := by decide +kernel
theorem dX7_copy_56 : decode cX7_copy 56 = .ok (.aload_n 0, 1) := by decide +kernel
theorem dX7_copy_57 : decode cX7_copy 57 = .ok (.iconst 4, 1) := by decide +kernel
theorem dX7_copy_58 : decode cX7_copy 58 = .ok (.invokevirtual 86, 3) := by decide +kernel
theorem dX7_copy_61 : decode cX7_copy 61 = .ok (.ireturn, 1) := by decide +kernel
theorem dX7_copy_62 : decode cX7_copy 62 = .ok (.iload_n 2, 1) := by decide +kernel
theorem dX7_copy_63 : decode cX7_copy 63 = .ok (.ifCond .lt 48, 3) := by decide +kernel
theorem dX7_copy_66 : decode cX7_copy 66 = .ok (.iload 4, 2) := by decide +kernel
theorem dX7_copy_68 : decode cX7_copy 68 = .ok (.ifCond .lt 43, 3) := by decide +kernel
theorem dX7_copy_71 : decode cX7_copy 71 = .ok (.iload 5, 2) := by decide +kernel
theorem dX7_copy_73 : decode cX7_copy 73 = .ok (.ifCond .lt 38, 3) := by decide +kernel
theorem dX7_copy_76 : decode cX7_copy 76 = .ok (.iload_n 2, 1) := by decide +kernel
theorem dX7_copy_77 : decode cX7_copy 77 = .ok (.i2l, 1) := by decide +kernel
theorem dX7_copy_78 : decode cX7_copy 78 = .ok (.iload 5, 2) := by decide +kernel
theorem dX7_copy_80 : decode cX7_copy 80 = .ok (.i2l, 1) := by decide +kernel
theorem dX7_copy_81 : decode cX7_copy 81 = .ok (.ladd, 1) := by decide +kernel
theorem dX7_copy_82 : decode cX7_copy 82 = .ok (.aload_n 0, 1) := by decide +kernel
theorem dX7_copy_83 : decode cX7_copy 83 = .ok (.getfield 66, 3) := by decide +kernel
theorem dX7_copy_86 : decode cX7_copy 86 = .ok (.iload_n 1, 1) := by decide +kernel
theorem dX7_copy_87 : decode cX7_copy 87 = .ok (.iaload, 1) := by decide +kernel
theorem dX7_copy_88 : decode cX7_copy 88 = .ok (.i2l, 1) := by decide +kernel
theorem dX7_copy_89 : decode cX7_copy 89 = .ok (.lcmp, 1) := by decide +kernel
theorem dX7_copy_90 : decode cX7_copy 90 = .ok (.ifCond .gt 21, 3) := by decide +kernel
theorem dX7_copy_93 : decode cX7_copy 93 = .ok (.iload 4, 2) := by decide +kernel
theorem dX7_copy_95 : decode cX7_copy 95 = .ok (.i2l, 1) := by decide +kernel
theorem dX7_copy_96 : decode cX7_copy 96 = .ok (.iload 5, 2) := by decide +kernel
theorem dX7_copy_98 : decode cX7_copy 98 = .ok (.i2l, 1) := by decide +kernel
theorem dX7_copy_99 : decode cX7_copy 99 = .ok (.ladd, 1) := by decide +kernel
theorem dX7_copy_100 : decode cX7_copy 100 = .ok (.aload_n 0, 1) := by decide +kernel
theorem dX7_copy_101 : decode cX7_copy 101 = .ok (.getfield 66, 3) := by decide +kernel
theorem dX7_copy_104 : decode cX7_copy 104 = .ok (.iload_n 3, 1) := by decide +kernel
theorem dX7_copy_105 : decode cX7_copy 105 = .ok (.iaload, 1) := by decide +kernel
theorem dX7_copy_106 : decode cX7_copy 106 = .ok (.i2l, 1) := by decide +kernel
theorem dX7_copy_107 : decode cX7_copy 107 = .ok (.lcmp, 1) := by decide +kernel
theorem dX7_copy_108 : decode cX7_copy 108 = .ok (.ifCond .le 9, 3) := by decide +kernel
theorem dX7_copy_111 : decode cX7_copy 111 = .ok (.aload_n 0, 1) := by decide +kernel
theorem dX7_copy_112 : decode cX7_copy 112 = .ok (.iconst 2, 1) := by decide +kernel
theorem dX7_copy_113 : decode cX7_copy 113 = .ok (.invokevirtual 86, 3) := by decide +kernel
theorem dX7_copy_116 : decode cX7_copy 116 = .ok (.ireturn, 1) := by decide +kernel
theorem dX7_copy_117 : decode cX7_copy 117 = .ok (.iconst 0, 1) := by decide +kernel
theorem dX7_copy_118 : decode cX7_copy 118 = .ok (.istore 6, 2) := by decide +kernel
theorem dX7_copy_120 : decode cX7_copy 120 = .ok (.iload 6, 2) := by decide +kernel
theorem dX7_copy_122 : decode cX7_copy 122 = .ok (.iload 5, 2) := by decide +kernel
theorem dX7_copy_124 : decode cX7_copy 124 = .ok (.if_icmp .ge 30, 3) := by decide +kernel
theorem dX7_copy_127 : decode cX7_copy 127 = .ok (.aload_n 0, 1) := by decide +kernel
theorem dX7_copy_128 : decode cX7_copy 128 = .ok (.getfield 72, 3) := by decide +kernel
theorem dX7_copy_131 : decode cX7_copy 131 = .ok (.iload 6, 2) := by decide +kernel
theorem dX7_copy_133 : decode cX7_copy 133 = .ok (.aload_n 0, 1) := by decide +kernel
theorem dX7_copy_134 : decode cX7_copy 134 = .ok (.getfield 69, 3) := by decide +kernel
theorem dX7_copy_137 : decode cX7_copy 137 = .ok (.bipush 60, 2) := by decide +kernel
theorem dX7_copy_139 : decode cX7_copy 139 = .ok (.iload_n 1, 1) := by decide +kernel
theorem dX7_copy_140 : decode cX7_copy 140 = .ok (.imul, 1) := by decide +kernel
theorem dX7_copy_141 : decode cX7_copy 141 = .ok (.iload_n 2, 1) := by decide +kernel
theorem dX7_copy_142 : decode cX7_copy 142 = .ok (.iadd, 1) := by decide +kernel
theorem dX7_copy_143 : decode cX7_copy 143 = .ok (.iload 6, 2) := by decide +kernel
theorem dX7_copy_145 : decode cX7_copy 145 = .ok (.iadd, 1) := by decide +kernel
theorem dX7_copy_146 : decode cX7_copy 146 = .ok (.iaload, 1) := by decide +kernel
theorem dX7_copy_147 : decode cX7_copy 147 = .ok (.iastore, 1) := by decide +kernel
theorem dX7_copy_148 : decode cX7_copy 148 = .ok (.iinc 6 1, 3) := by decide +kernel
theorem dX7_copy_151 : decode cX7_copy 151 = .ok (.goto (-31), 3) := by decide +kernel
theorem dX7_copy_154 : decode cX7_copy 154 = .ok (.iconst 0, 1) := by decide +kernel
theorem dX7_copy_155 : decode cX7_copy 155 = .ok (.istore 6, 2) := by decide +kernel
theorem dX7_copy_157 : decode cX7_copy 157 = .ok (.iload 6, 2) := by decide +kernel
theorem dX7_copy_159 : decode cX7_copy 159 = .ok (.iload 5, 2) := by decide +kernel
theorem dX7_copy_161 : decode cX7_copy 161 = .ok (.if_icmp .ge 31, 3) := by decide +kernel
theorem dX7_copy_164 : decode cX7_copy 164 = .ok (.aload_n 0, 1) := by decide +kernel
theorem dX7_copy_165 : decode cX7_copy 165 = .ok (.getfield 69, 3) := by decide +kernel
theorem dX7_copy_168 : decode cX7_copy 168 = .ok (.bipush 60, 2) := by decide +kernel
theorem dX7_copy_170 : decode cX7_copy 170 = .ok (.iload_n 3, 1) := by decide +kernel
theorem dX7_copy_171 : decode cX7_copy 171 = .ok (.imul, 1) := by decide +kernel
theorem dX7_copy_172 : decode cX7_copy 172 = .ok (.iload 4, 2) := by decide +kernel
theorem dX7_copy_174 : decode cX7_copy 174 = .ok (.iadd, 1) := by decide +kernel
theorem dX7_copy_175 : decode cX7_copy 175 = .ok (.iload 6, 2) := by decide +kernel
theorem dX7_copy_177 : decode cX7_copy 177 = .ok (.iadd, 1) := by decide +kernel
theorem dX7_copy_178 : decode cX7_copy 178 = .ok (.aload_n 0, 1) := by decide +kernel
theorem dX7_copy_179 : decode cX7_copy 179 = .ok (.getfield 72, 3) := by decide +kernel
theorem dX7_copy_182 : decode cX7_copy 182 = .ok (.iload 6, 2) := by decide +kernel
theorem dX7_copy_184 : decode cX7_copy 184 = .ok (.iaload, 1) := by decide +kernel
theorem dX7_copy_185 : decode cX7_copy 185 = .ok (.iastore, 1) := by decide +kernel
theorem dX7_copy_186 : decode cX7_copy 186 = .ok (.iinc 6 1, 3) := by decide +kernel
theorem dX7_copy_189 : decode cX7_copy 189 = .ok (.goto (-32), 3) := by decide +kernel
theorem dX7_copy_192 : decode cX7_copy 192 = .ok (.iconst 1, 1) := by decide +kernel
theorem dX7_copy_193 : decode cX7_copy 193 = .ok (.ireturn, 1) := by decide +kernel
theorem dX7_write_0 : decode cX7_write 0 = .ok (.iload_n 1, 1) := by decide +kernel
theorem dX7_write_1 : decode cX7_write 1 = .ok (.iconst 0, 1) := by decide +kernel
theorem dX7_write_2 : decode cX7_write 2 = .ok (.bipush 99, 2) := by decide +kernel
theorem dX7_write_4 : decode cX7_write 4 = .ok (.invokestatic 75, 3) := by decide +kernel
theorem dX7_write_7 : decode cX7_write 7 = .ok (.ifCond .eq 10, 3) := by decide +kernel
theorem dX7_write_10 : decode cX7_write 10 = .ok (.iload_n 2, 1) := by decide +kernel
theorem dX7_write_11 : decode cX7_write 11 = .ok (.invokestatic 82, 3) := by decide +kernel
theorem dX7_write_14 : decode cX7_write 14 = .ok (.ifCond .ne 6, 3) := by decide +kernel
theorem dX7_write_17 : decode cX7_write 17 = .ok (.bipush (-2), 2) := by decide +kernel
theorem dX7_write_19 : decode cX7_write 19 = .ok (.ireturn, 1) := by decide +kernel
theorem dX7_write_20 : decode cX7_write 20 = .ok (.aload_n 0, 1) := by decide +kernel
theorem dX7_write_21 : decode cX7_write 21 = .ok (.getfield 59, 3) := by decide +kernel
theorem dX7_write_24 : decode cX7_write 24 = .ok (.iload_n 2, 1) := by decide +kernel
theorem dX7_write_25 : decode cX7_write 25 = .ok (.baload, 1) := by decide +kernel
theorem dX7_write_26 : decode cX7_write 26 = .ok (.ifCond .ne 9, 3) := by decide +kernel
theorem dX7_write_29 : decode cX7_write 29 = .ok (.aload_n 0, 1) := by decide +kernel
theorem dX7_write_30 : decode cX7_write 30 = .ok (.iconst 1, 1) := by decide +kernel
theorem dX7_write_31 : decode cX7_write 31 = .ok (.invokevirtual 86, 3) := by decide +kernel
theorem dX7_write_34 : decode cX7_write 34 = .ok (.ireturn, 1) := by decide +kernel
theorem dX7_write_35 : decode cX7_write 35 = .ok (.aload_n 0, 1) := by decide +kernel
theorem dX7_write_36 : decode cX7_write 36 = .ok (.invokevirtual 228, 3) := by decide +kernel
theorem dX7_write_39 : decode cX7_write 39 = .ok (.aload_n 0, 1) := by decide +kernel
theorem dX7_write_40 : decode cX7_write 40 = .ok (.iload_n 1, 1) := by decide +kernel
theorem dX7_write_41 : decode cX7_write 41 = .ok (.invokevirtual 231, 3) := by decide +kernel
theorem dX7_write_44 : decode cX7_write 44 = .ok (.istore_n 3, 1) := by decide +kernel
theorem dX7_write_45 : decode cX7_write 45 = .ok (.iconst 0, 1) := by decide +kernel
theorem dX7_write_46 : decode cX7_write 46 = .ok (.istore 4, 2) := by decide +kernel
theorem dX7_write_48 : decode cX7_write 48 = .ok (.iload 4, 2) := by decide +kernel
theorem dX7_write_50 : decode cX7_write 50 = .ok (.aload_n 0, 1) := by decide +kernel
theorem dX7_write_51 : decode cX7_write 51 = .ok (.getfield 66, 3) := by decide +kernel
theorem dX7_write_54 : decode cX7_write 54 = .ok (.iload_n 2, 1) := by decide +kernel
theorem dX7_write_55 : decode cX7_write 55 = .ok (.iaload, 1) := by decide +kernel
theorem dX7_write_56 : decode cX7_write 56 = .ok (.if_icmp .ge 29, 3) := by decide +kernel
theorem dX7_write_59 : decode cX7_write 59 = .ok (.iload 4, 2) := by decide +kernel
theorem dX7_write_61 : decode cX7_write 61 = .ok (.iload_n 3, 1) := by decide +kernel
theorem dX7_write_62 : decode cX7_write 62 = .ok (.if_icmp .ge 23, 3) := by decide +kernel
theorem dX7_write_65 : decode cX7_write 65 = .ok (.aload_n 0, 1) := by decide +kernel
theorem dX7_write_66 : decode cX7_write 66 = .ok (.iload_n 2, 1) := by decide +kernel
theorem dX7_write_67 : decode cX7_write 67 = .ok (.iload 4, 2) := by decide +kernel
theorem dX7_write_69 : decode cX7_write 69 = .ok (.aload_n 0, 1) := by decide +kernel
theorem dX7_write_70 : decode cX7_write 70 = .ok (.iload_n 1, 1) := by decide +kernel
theorem dX7_write_71 : decode cX7_write 71 = .ok (.iload 4, 2) := by decide +kernel
theorem dX7_write_73 : decode cX7_write 73 = .ok (.invokevirtual 234, 3) := by decide +kernel
theorem dX7_write_76 : decode cX7_write 76 = .ok (.invokevirtual 282, 3) := by decide +kernel
theorem dX7_write_79 : decode cX7_write 79 = .ok (.iinc 4 1, 3) := by decide +kernel
theorem dX7_write_82 : decode cX7_write 82 = .ok (.goto (-34), 3) := by decide +kernel
theorem dX7_write_85 : decode cX7_write 85 = .ok (.iload 4, 2) := by decide +kernel
theorem dX7_write_87 : decode cX7_write 87 = .ok (.ireturn, 1) := by decide +kernel
theorem dX7_partsOf_0 : decode cX7_partsOf 0 = .ok (.aload_n 0, 1) := by decide +kernel
theorem dX7_partsOf_1 : decode cX7_partsOf 1 = .ok (.invokevirtual 112, 3) := by decide +kernel
theorem dX7_partsOf_4 : decode cX7_partsOf 4 = .ok (.aload_n 0, 1) := by decide +kernel
theorem dX7_partsOf_5 : decode cX7_partsOf 5 = .ok (.getfield 93, 3) := by decide +kernel
theorem dX7_partsOf_8 : decode cX7_partsOf 8 = .ok (.ireturn, 1) := by decide +kernel
theorem dX7_choicesOf_0 : decode cX7_choicesOf 0 = .ok (.aload_n 0, 1) := by decide +kernel
theorem dX7_choicesOf_1 : decode cX7_choicesOf 1 = .ok (.invokevirtual 112, 3) := by decide +kernel
theorem dX7_choicesOf_4 : decode cX7_choicesOf 4 = .ok (.aload_n 0, 1) := by decide +kernel
theorem dX7_choicesOf_5 : decode cX7_choicesOf 5 = .ok (.getfield 96, 3) := by decide +kernel
theorem dX7_choicesOf_8 : decode cX7_choicesOf 8 = .ok (.ireturn, 1) := by decide +kernel
theorem dX7_wholeOf_0 : decode cX7_wholeOf 0 = .ok (.aload_n 0, 1) := by decide +kernel
theorem dX7_wholeOf_1 : decode cX7_wholeOf 1 = .ok (.invokevirtual 172, 3) := by decide +kernel
theorem dX7_wholeOf_4 : decode cX7_wholeOf 4 = .ok (.aload_n 0, 1) := by decide +kernel
theorem dX7_wholeOf_5 : decode cX7_wholeOf 5 = .ok (.getfield 93, 3) := by decide +kernel
theorem dX7_wholeOf_8 : decode cX7_wholeOf 8 = .ok (.ifCond .ne 7, 3) := by decide +kernel
theorem dX7_wholeOf_11 : decode cX7_wholeOf 11 = .ok (.iconst 0, 1) := by decide +kernel
theorem dX7_wholeOf_12 : decode cX7_wholeOf 12 = .ok (.goto 9, 3) := by decide +kernel
theorem dX7_wholeOf_15 : decode cX7_wholeOf 15 = .ok (.aload_n 0, 1) := by decide +kernel
theorem dX7_wholeOf_16 : decode cX7_wholeOf 16 = .ok (.getfield 41, 3) := by decide +kernel
theorem dX7_wholeOf_19 : decode cX7_wholeOf 19 = .ok (.iconst 0, 1) := by decide +kernel
theorem dX7_wholeOf_20 : decode cX7_wholeOf 20 = .ok (.iaload, 1) := by decide +kernel
theorem dX7_wholeOf_21 : decode cX7_wholeOf 21 = .ok (.ireturn, 1) := by decide +kernel
theorem dX7_count_0 : decode cX7_count 0 = .ok (.iload_n 1, 1) := by decide +kernel
theorem dX7_count_1 : decode cX7_count 1 = .ok (.tableswitch 99 0 8 #[51, 56, 61, 66, 71, 76, 82, 88, 94], 51) := by decide +kernel
theorem dX7_count_52 : decode cX7_count 52 = .ok (.aload_n 0, 1) := by decide +kernel
theorem dX7_count_53 : decode cX7_count 53 = .ok (.getfield 79, 3) := by decide +kernel
theorem dX7_count_56 : decode cX7_count 56 = .ok (.ireturn, 1) := by decide +kernel
theorem dX7_count_57 : decode cX7_count 57 = .ok (.aload_n 0, 1) := by decide +kernel
theorem dX7_count_58 : decode cX7_count 58 = .ok (.invokevirtual 286, 3) := by decide +kernel
theorem dX7_count_61 : decode cX7_count 61 = .ok (.ireturn, 1) := by decide +kernel
theorem dX7_count_62 : decode cX7_count 62 = .ok (.aload_n 0, 1) := by decide +kernel
theorem dX7_count_63 : decode cX7_count 63 = .ok (.invokevirtual 289, 3) := by decide +kernel
theorem dX7_count_66 : decode cX7_count 66 = .ok (.ireturn, 1) := by decide +kernel
theorem dX7_count_67 : decode cX7_count 67 = .ok (.aload_n 0, 1) := by decide +kernel
theorem dX7_count_68 : decode cX7_count 68 = .ok (.getfield 13, 3) := by decide +kernel
theorem dX7_count_71 : decode cX7_count 71 = .ok (.ireturn, 1) := by decide +kernel
theorem dX7_count_72 : decode cX7_count 72 = .ok (.aload_n 0, 1) := by decide +kernel
theorem dX7_count_73 : decode cX7_count 73 = .ok (.invokevirtual 292, 3) := by decide +kernel
theorem dX7_count_76 : decode cX7_count 76 = .ok (.ireturn, 1) := by decide +kernel
theorem dX7_count_77 : decode cX7_count 77 = .ok (.aload_n 0, 1) := by decide +kernel
theorem dX7_count_78 : decode cX7_count 78 = .ok (.iconst 0, 1) := by decide +kernel
theorem dX7_count_79 : decode cX7_count 79 = .ok (.invokevirtual 190, 3) := by decide +kernel
theorem dX7_count_82 : decode cX7_count 82 = .ok (.ireturn, 1) := by decide +kernel
theorem dX7_count_83 : decode cX7_count 83 = .ok (.aload_n 0, 1) := by decide +kernel
theorem dX7_count_84 : decode cX7_count 84 = .ok (.iconst 1, 1) := by decide +kernel
theorem dX7_count_85 : decode cX7_count 85 = .ok (.invokevirtual 190, 3) := by decide +kernel
theorem dX7_count_88 : decode cX7_count 88 = .ok (.ireturn, 1) := by decide +kernel
theorem dX7_count_89 : decode cX7_count 89 = .ok (.aload_n 0, 1) := by decide +kernel
theorem dX7_count_90 : decode cX7_count 90 = .ok (.iconst 0, 1) := by decide +kernel
theorem dX7_count_91 : decode cX7_count 91 = .ok (.invokevirtual 206, 3) := by decide +kernel
theorem dX7_count_94 : decode cX7_count 94 = .ok (.ireturn, 1) := by decide +kernel
theorem dX7_count_95 : decode cX7_count 95 = .ok (.aload_n 0, 1) := by decide +kernel
theorem dX7_count_96 : decode cX7_count 96 = .ok (.getfield 276, 3) := by decide +kernel
theorem dX7_count_99 : decode cX7_count 99 = .ok (.ireturn, 1) := by decide +kernel
theorem dX7_count_100 : decode cX7_count 100 = .ok (.bipush (-2), 2) := by decide +kernel
theorem dX7_count_102 : decode cX7_count 102 = .ok (.ireturn, 1) := by decide +kernel
theorem dX7_partDigest_0 : decode cX7_partDigest 0 = .ok (.lload_n 1, 1) := by decide +kernel
theorem dX7_partDigest_1 : decode cX7_partDigest 1 = .ok (.lstore 4, 2) := by decide +kernel
theorem dX7_partDigest_3 : decode cX7_partDigest 3 = .ok (.iconst 0, 1) := by decide +kernel
theorem dX7_partDigest_4 : decode cX7_partDigest 4 = .ok (.istore 6, 2) := by decide +kernel
theorem dX7_partDigest_6 : decode cX7_partDigest 6 = .ok (.iload 6, 2) := by decide +kernel
theorem dX7_partDigest_8 : decode cX7_partDigest 8 = .ok (.iconst 4, 1) := by decide +kernel
theorem dX7_partDigest_9 : decode cX7_partDigest 9 = .ok (.if_icmp .ge 26, 3) := by decide +kernel
theorem dX7_partDigest_12 : decode cX7_partDigest 12 = .ok (.ldc2_w 295, 3) := by decide +kernel
theorem dX7_partDigest_15 : decode cX7_partDigest 15 = .ok (.lload 4, 2) := by decide +kernel
theorem dX7_partDigest_17 : decode cX7_partDigest 17 = .ok (.lmul, 1) := by decide +kernel
theorem dX7_partDigest_18 : decode cX7_partDigest 18 = .ok (.aload_n 0, 1) := by decide +kernel
theorem dX7_partDigest_19 : decode cX7_partDigest 19 = .ok (.iload_n 3, 1) := by decide +kernel
theorem dX7_partDigest_20 : decode cX7_partDigest 20 = .ok (.iload 6, 2) := by decide +kernel
theorem dX7_partDigest_22 : decode cX7_partDigest 22 = .ok (.invokevirtual 297, 3) := by decide +kernel
theorem dX7_partDigest_25 : decode cX7_partDigest 25 = .ok (.i2l, 1) := by decide +kernel
theorem dX7_partDigest_26 : decode cX7_partDigest 26 = .ok (.ladd, 1) := by decide +kernel
theorem dX7_partDigest_27 : decode cX7_partDigest 27 = .ok (.lstore 4, 2) := by decide +kernel
theorem dX7_partDigest_29 : decode cX7_partDigest 29 = .ok (.iinc 6 1, 3) := by decide +kernel
theorem dX7_partDigest_32 : decode cX7_partDigest 32 = .ok (.goto (-26), 3) := by decide +kernel
theorem dX7_partDigest_35 : decode cX7_partDigest 35 = .ok (.iconst 0, 1) := by decide +kernel
theorem dX7_partDigest_36 : decode cX7_partDigest 36 = .ok (.istore 6, 2) := by decide +kernel
theorem dX7_partDigest_38 : decode cX7_partDigest 38 = .ok (.iload 6, 2) := by decide +kernel
theorem dX7_partDigest_40 : decode cX7_partDigest 40 = .ok (.iconst 2, 1) := by decide +kernel
theorem dX7_partDigest_41 : decode cX7_partDigest 41 = .ok (.if_icmp .ge 43, 3) := by decide +kernel
theorem dX7_partDigest_44 : decode cX7_partDigest 44 = .ok (.iconst 0, 1) := by decide +kernel
theorem dX7_partDigest_45 : decode cX7_partDigest 45 = .ok (.istore 7, 2) := by decide +kernel
theorem dX7_partDigest_47 : decode cX7_partDigest 47 = .ok (.iload 7, 2) := by decide +kernel
theorem dX7_partDigest_49 : decode cX7_partDigest 49 = .ok (.iconst 4, 1) := by decide +kernel
theorem dX7_partDigest_50 : decode cX7_partDigest 50 = .ok (.if_icmp .ge 28, 3) := by decide +kernel
theorem dX7_partDigest_53 : decode cX7_partDigest 53 = .ok (.ldc2_w 295, 3) := by decide +kernel
theorem dX7_partDigest_56 : decode cX7_partDigest 56 = .ok (.lload 4, 2) := by decide +kernel
theorem dX7_partDigest_58 : decode cX7_partDigest 58 = .ok (.lmul, 1) := by decide +kernel
theorem dX7_partDigest_59 : decode cX7_partDigest 59 = .ok (.aload_n 0, 1) := by decide +kernel
theorem dX7_partDigest_60 : decode cX7_partDigest 60 = .ok (.iload_n 3, 1) := by decide +kernel
theorem dX7_partDigest_61 : decode cX7_partDigest 61 = .ok (.iload 6, 2) := by decide +kernel
theorem dX7_partDigest_63 : decode cX7_partDigest 63 = .ok (.iload 7, 2) := by decide +kernel
theorem dX7_partDigest_65 : decode cX7_partDigest 65 = .ok (.invokevirtual 300, 3) := by decide +kernel
theorem dX7_partDigest_68 : decode cX7_partDigest 68 = .ok (.i2l, 1) := by decide +kernel
theorem dX7_partDigest_69 : decode cX7_partDigest 69 = .ok (.ladd, 1) := by decide +kernel
theorem dX7_partDigest_70 : decode cX7_partDigest 70 = .ok (.lstore 4, 2) := by decide +kernel
theorem dX7_partDigest_72 : decode cX7_partDigest 72 = .ok (.iinc 7 1, 3) := by decide +kernel
theorem dX7_partDigest_75 : decode cX7_partDigest 75 = .ok (.goto (-28), 3) := by decide +kernel
theorem dX7_partDigest_78 : decode cX7_partDigest 78 = .ok (.iinc 6 1, 3) := by decide +kernel
theorem dX7_partDigest_81 : decode cX7_partDigest 81 = .ok (.goto (-43), 3) := by decide +kernel
theorem dX7_partDigest_84 : decode cX7_partDigest 84 = .ok (.lload 4, 2) := by decide +kernel
theorem dX7_partDigest_86 : decode cX7_partDigest 86 = .ok (.lreturn, 1) := by decide +kernel
theorem dX7_digest_0 : decode cX7_digest 0 = .ok (.ldc2_w 303, 3) := by decide +kernel
theorem dX7_digest_3 : decode cX7_digest 3 = .ok (.lstore_n 1, 1) := by decide +kernel
theorem dX7_digest_4 : decode cX7_digest 4 = .ok (.iconst 0, 1) := by decide +kernel
theorem dX7_digest_5 : decode cX7_digest 5 = .ok (.istore_n 3, 1) := by decide +kernel
theorem dX7_digest_6 : decode cX7_digest 6 = .ok (.iload_n 3, 1) := by decide +kernel
theorem dX7_digest_7 : decode cX7_digest 7 = .ok (.bipush 8, 2) := by decide +kernel
theorem dX7_digest_9 : decode cX7_digest 9 = .ok (.if_icmp .ge 22, 3) := by decide +kernel
theorem dX7_digest_12 : decode cX7_digest 12 = .ok (.ldc2_w 295, 3) := by decide +kernel
theorem dX7_digest_15 : decode cX7_digest 15 = .ok (.lload_n 1, 1) := by decide +kernel
theorem dX7_digest_16 : decode cX7_digest 16 = .ok (.lmul, 1) := by decide +kernel
theorem dX7_digest_17 : decode cX7_digest 17 = .ok (.aload_n 0, 1) := by decide +kernel
theorem dX7_digest_18 : decode cX7_digest 18 = .ok (.iload_n 3, 1) := by decide +kernel
theorem dX7_digest_19 : decode cX7_digest 19 = .ok (.invokevirtual 305, 3) := by decide +kernel
theorem dX7_digest_22 : decode cX7_digest 22 = .ok (.i2l, 1) := by decide +kernel
theorem dX7_digest_23 : decode cX7_digest 23 = .ok (.ladd, 1) := by decide +kernel
theorem dX7_digest_24 : decode cX7_digest 24 = .ok (.lstore_n 1, 1) := by decide +kernel
theorem dX7_digest_25 : decode cX7_digest 25 = .ok (.iinc 3 1, 3) := by decide +kernel
theorem dX7_digest_28 : decode cX7_digest 28 = .ok (.goto (-22), 3) := by decide +kernel
theorem dX7_digest_31 : decode cX7_digest 31 = .ok (.ldc2_w 295, 3) := by decide +kernel
theorem dX7_digest_34 : decode cX7_digest 34 = .ok (.lload_n 1, 1) := by decide +kernel
theorem dX7_digest_35 : decode cX7_digest 35 = .ok (.lmul, 1) := by decide +kernel
theorem dX7_digest_36 : decode cX7_digest 36 = .ok (.aload_n 0, 1) := by decide +kernel
theorem dX7_digest_37 : decode cX7_digest 37 = .ok (.invokevirtual 115, 3) := by decide +kernel
theorem dX7_digest_40 : decode cX7_digest 40 = .ok (.i2l, 1) := by decide +kernel
theorem dX7_digest_41 : decode cX7_digest 41 = .ok (.ladd, 1) := by decide +kernel
theorem dX7_digest_42 : decode cX7_digest 42 = .ok (.lstore_n 1, 1) := by decide +kernel
theorem dX7_digest_43 : decode cX7_digest 43 = .ok (.aload_n 0, 1) := by decide +kernel
theorem dX7_digest_44 : decode cX7_digest 44 = .ok (.invokevirtual 286, 3) := by decide +kernel
theorem dX7_digest_47 : decode cX7_digest 47 = .ok (.istore_n 3, 1) := by decide +kernel
theorem dX7_digest_48 : decode cX7_digest 48 = .ok (.iconst 0, 1) := by decide +kernel
theorem dX7_digest_49 : decode cX7_digest 49 = .ok (.istore 4, 2) := by decide +kernel
theorem dX7_digest_51 : decode cX7_digest 51 = .ok (.iload 4, 2) := by decide +kernel
