theorem dX6_init_0 : decode cX6_init 0 = .ok (.aload_n 0, 1) := by decide +kernel
theorem dX6_init_1 : decode cX6_init 1 = .ok (.invokespecial 1, 3) := by decide +kernel
theorem dX6_init_4 : decode cX6_init 4 = .ok (.aload_n 0, 1) := by decide +kernel
theorem dX6_init_5 : decode cX6_init 5 = .ok (.new 7, 3) := by decide +kernel
theorem dX6_init_8 : decode cX6_init 8 = .ok (.dup, 1) := by decide +kernel
theorem dX6_init_9 : decode cX6_init 9 = .ok (.invokespecial 9, 3) := by decide +kernel
theorem dX6_init_12 : decode cX6_init 12 = .ok (.putfield 10, 3) := by decide +kernel
theorem dX6_init_15 : decode cX6_init 15 = .ok (.aload_n 0, 1) := by decide +kernel
theorem dX6_init_16 : decode cX6_init 16 = .ok (.new 16, 3) := by decide +kernel
theorem dX6_init_19 : decode cX6_init 19 = .ok (.dup, 1) := by decide +kernel
theorem dX6_init_20 : decode cX6_init 20 = .ok (.invokespecial 18, 3) := by decide +kernel
theorem dX6_init_23 : decode cX6_init 23 = .ok (.putfield 19, 3) := by decide +kernel
theorem dX6_init_26 : decode cX6_init 26 = .ok (.aload_n 0, 1) := by decide +kernel
theorem dX6_init_27 : decode cX6_init 27 = .ok (.new 23, 3) := by decide +kernel
theorem dX6_init_30 : decode cX6_init 30 = .ok (.dup, 1) := by decide +kernel
theorem dX6_init_31 : decode cX6_init 31 = .ok (.iconst 1, 1) := by decide +kernel
theorem dX6_init_32 : decode cX6_init 32 = .ok (.invokespecial 25, 3) := by decide +kernel
theorem dX6_init_35 : decode cX6_init 35 = .ok (.putfield 28, 3) := by decide +kernel
theorem dX6_init_38 : decode cX6_init 38 = .ok (.aload_n 0, 1) := by decide +kernel
theorem dX6_init_39 : decode cX6_init 39 = .ok (.new 32, 3) := by decide +kernel
theorem dX6_init_42 : decode cX6_init 42 = .ok (.dup, 1) := by decide +kernel
theorem dX6_init_43 : decode cX6_init 43 = .ok (.invokespecial 34, 3) := by decide +kernel
theorem dX6_init_46 : decode cX6_init 46 = .ok (.putfield 35, 3) := by decide +kernel
theorem dX6_init_49 : decode cX6_init 49 = .ok (.aload_n 0, 1) := by decide +kernel
theorem dX6_init_50 : decode cX6_init 50 = .ok (.new 39, 3) := by decide +kernel
theorem dX6_init_53 : decode cX6_init 53 = .ok (.dup, 1) := by decide +kernel
theorem dX6_init_54 : decode cX6_init 54 = .ok (.invokespecial 41, 3) := by decide +kernel
theorem dX6_init_57 : decode cX6_init 57 = .ok (.putfield 42, 3) := by decide +kernel
theorem dX6_init_60 : decode cX6_init 60 = .ok (.aload_n 0, 1) := by decide +kernel
theorem dX6_init_61 : decode cX6_init 61 = .ok (.iconst 4, 1) := by decide +kernel
theorem dX6_init_62 : decode cX6_init 62 = .ok (.anewarray 46, 3) := by decide +kernel
theorem dX6_init_65 : decode cX6_init 65 = .ok (.putfield 48, 3) := by decide +kernel
theorem dX6_init_68 : decode cX6_init 68 = .ok (.iconst 0, 1) := by decide +kernel
theorem dX6_init_69 : decode cX6_init 69 = .ok (.istore_n 1, 1) := by decide +kernel
theorem dX6_init_70 : decode cX6_init 70 = .ok (.iload_n 1, 1) := by decide +kernel
theorem dX6_init_71 : decode cX6_init 71 = .ok (.aload_n 0, 1) := by decide +kernel
theorem dX6_init_72 : decode cX6_init 72 = .ok (.getfield 48, 3) := by decide +kernel
theorem dX6_init_75 : decode cX6_init 75 = .ok (.arraylength, 1) := by decide +kernel
theorem dX6_init_76 : decode cX6_init 76 = .ok (.if_icmp .ge 22, 3) := by decide +kernel
theorem dX6_init_79 : decode cX6_init 79 = .ok (.aload_n 0, 1) := by decide +kernel
theorem dX6_init_80 : decode cX6_init 80 = .ok (.getfield 48, 3) := by decide +kernel
theorem dX6_init_83 : decode cX6_init 83 = .ok (.iload_n 1, 1) := by decide +kernel
theorem dX6_init_84 : decode cX6_init 84 = .ok (.new 46, 3) := by decide +kernel
theorem dX6_init_87 : decode cX6_init 87 = .ok (.dup, 1) := by decide +kernel
theorem dX6_init_88 : decode cX6_init 88 = .ok (.invokespecial 52, 3) := by decide +kernel
theorem dX6_init_91 : decode cX6_init 91 = .ok (.aastore, 1) := by decide +kernel
theorem dX6_init_92 : decode cX6_init 92 = .ok (.iinc 1 1, 3) := by decide +kernel
theorem dX6_init_95 : decode cX6_init 95 = .ok (.goto (-25), 3) := by decide +kernel
theorem dX6_init_98 : decode cX6_init 98 = .ok (.aload_n 0, 1) := by decide +kernel
theorem dX6_init_99 : decode cX6_init 99 = .ok (.bipush 20, 2) := by decide +kernel
theorem dX6_init_101 : decode cX6_init 101 = .ok (.putfield 53, 3) := by decide +kernel
theorem dX6_init_104 : decode cX6_init 104 = .ok (.return_, 1) := by decide +kernel
theorem dX6_type_0 : decode cX6_type 0 = .ok (.iload_n 1, 1) := by decide +kernel
theorem dX6_type_1 : decode cX6_type 1 = .ok (.invokestatic 57, 3) := by decide +kernel
theorem dX6_type_4 : decode cX6_type 4 = .ok (.ifCond .ne 6, 3) := by decide +kernel
theorem dX6_type_7 : decode cX6_type 7 = .ok (.bipush (-2), 2) := by decide +kernel
theorem dX6_type_9 : decode cX6_type 9 = .ok (.ireturn, 1) := by decide +kernel
theorem dX6_type_10 : decode cX6_type 10 = .ok (.aload_n 0, 1) := by decide +kernel
theorem dX6_type_11 : decode cX6_type 11 = .ok (.getfield 10, 3) := by decide +kernel
theorem dX6_type_14 : decode cX6_type 14 = .ok (.iload_n 1, 1) := by decide +kernel
theorem dX6_type_15 : decode cX6_type 15 = .ok (.invokevirtual 61, 3) := by decide +kernel
theorem dX6_type_18 : decode cX6_type 18 = .ok (.ifCond .ne 6, 3) := by decide +kernel
theorem dX6_type_21 : decode cX6_type 21 = .ok (.bipush (-4), 2) := by decide +kernel
theorem dX6_type_23 : decode cX6_type 23 = .ok (.ireturn, 1) := by decide +kernel
theorem dX6_type_24 : decode cX6_type 24 = .ok (.aload_n 0, 1) := by decide +kernel
theorem dX6_type_25 : decode cX6_type 25 = .ok (.invokevirtual 64, 3) := by decide +kernel
theorem dX6_type_28 : decode cX6_type 28 = .ok (.aload_n 0, 1) := by decide +kernel
theorem dX6_type_29 : decode cX6_type 29 = .ok (.invokevirtual 67, 3) := by decide +kernel
theorem dX6_type_32 : decode cX6_type 32 = .ok (.aload_n 0, 1) := by decide +kernel
theorem dX6_type_33 : decode cX6_type 33 = .ok (.getfield 10, 3) := by decide +kernel
theorem dX6_type_36 : decode cX6_type 36 = .ok (.getfield 70, 3) := by decide +kernel
theorem dX6_type_39 : decode cX6_type 39 = .ok (.ireturn, 1) := by decide +kernel
theorem dX6_wipe_0 : decode cX6_wipe 0 = .ok (.aload_n 0, 1) := by decide +kernel
theorem dX6_wipe_1 : decode cX6_wipe 1 = .ok (.getfield 10, 3) := by decide +kernel
theorem dX6_wipe_4 : decode cX6_wipe 4 = .ok (.getfield 70, 3) := by decide +kernel
theorem dX6_wipe_7 : decode cX6_wipe 7 = .ok (.istore_n 1, 1) := by decide +kernel
theorem dX6_wipe_8 : decode cX6_wipe 8 = .ok (.aload_n 0, 1) := by decide +kernel
theorem dX6_wipe_9 : decode cX6_wipe 9 = .ok (.getfield 10, 3) := by decide +kernel
theorem dX6_wipe_12 : decode cX6_wipe 12 = .ok (.iconst 0, 1) := by decide +kernel
theorem dX6_wipe_13 : decode cX6_wipe 13 = .ok (.putfield 70, 3) := by decide +kernel
theorem dX6_wipe_16 : decode cX6_wipe 16 = .ok (.aload_n 0, 1) := by decide +kernel
theorem dX6_wipe_17 : decode cX6_wipe 17 = .ok (.invokevirtual 64, 3) := by decide +kernel
theorem dX6_wipe_20 : decode cX6_wipe 20 = .ok (.aload_n 0, 1) := by decide +kernel
theorem dX6_wipe_21 : decode cX6_wipe 21 = .ok (.invokevirtual 67, 3) := by decide +kernel
theorem dX6_wipe_24 : decode cX6_wipe 24 = .ok (.iload_n 1, 1) := by decide +kernel
theorem dX6_wipe_25 : decode cX6_wipe 25 = .ok (.ireturn, 1) := by decide +kernel
theorem dX6_undo_0 : decode cX6_undo 0 = .ok (.aload_n 0, 1) := by decide +kernel
theorem dX6_undo_1 : decode cX6_undo 1 = .ok (.getfield 10, 3) := by decide +kernel
theorem dX6_undo_4 : decode cX6_undo 4 = .ok (.getfield 70, 3) := by decide +kernel
theorem dX6_undo_7 : decode cX6_undo 7 = .ok (.ifCond .ne 6, 3) := by decide +kernel
theorem dX6_undo_10 : decode cX6_undo 10 = .ok (.bipush (-3), 2) := by decide +kernel
theorem dX6_undo_12 : decode cX6_undo 12 = .ok (.ireturn, 1) := by decide +kernel
theorem dX6_undo_13 : decode cX6_undo 13 = .ok (.aload_n 0, 1) := by decide +kernel
theorem dX6_undo_14 : decode cX6_undo 14 = .ok (.getfield 10, 3) := by decide +kernel
theorem dX6_undo_17 : decode cX6_undo 17 = .ok (.dup, 1) := by decide +kernel
theorem dX6_undo_18 : decode cX6_undo 18 = .ok (.getfield 70, 3) := by decide +kernel
theorem dX6_undo_21 : decode cX6_undo 21 = .ok (.iconst 1, 1) := by decide +kernel
theorem dX6_undo_22 : decode cX6_undo 22 = .ok (.isub, 1) := by decide +kernel
theorem dX6_undo_23 : decode cX6_undo 23 = .ok (.putfield 70, 3) := by decide +kernel
theorem dX6_undo_26 : decode cX6_undo 26 = .ok (.aload_n 0, 1) := by decide +kernel
theorem dX6_undo_27 : decode cX6_undo 27 = .ok (.invokevirtual 64, 3) := by decide +kernel
theorem dX6_undo_30 : decode cX6_undo 30 = .ok (.aload_n 0, 1) := by decide +kernel
theorem dX6_undo_31 : decode cX6_undo 31 = .ok (.invokevirtual 67, 3) := by decide +kernel
theorem dX6_undo_34 : decode cX6_undo 34 = .ok (.aload_n 0, 1) := by decide +kernel
theorem dX6_undo_35 : decode cX6_undo 35 = .ok (.getfield 10, 3) := by decide +kernel
theorem dX6_undo_38 : decode cX6_undo 38 = .ok (.getfield 70, 3) := by decide +kernel
theorem dX6_undo_41 : decode cX6_undo 41 = .ok (.ireturn, 1) := by decide +kernel
theorem dX6_fault_0 : decode cX6_fault 0 = .ok (.aload_n 0, 1) := by decide +kernel
theorem dX6_fault_1 : decode cX6_fault 1 = .ok (.getfield 10, 3) := by decide +kernel
theorem dX6_fault_4 : decode cX6_fault 4 = .ok (.getfield 73, 3) := by decide +kernel
theorem dX6_fault_7 : decode cX6_fault 7 = .ok (.ireturn, 1) := by decide +kernel
theorem dX6_width_0 : decode cX6_width 0 = .ok (.iload_n 1, 1) := by decide +kernel
theorem dX6_width_1 : decode cX6_width 1 = .ok (.iconst 1, 1) := by decide +kernel
theorem dX6_width_2 : decode cX6_width 2 = .ok (.if_icmp .lt 9, 3) := by decide +kernel
theorem dX6_width_5 : decode cX6_width 5 = .ok (.iload_n 1, 1) := by decide +kernel
theorem dX6_width_6 : decode cX6_width 6 = .ok (.bipush 99, 2) := by decide +kernel
theorem dX6_width_8 : decode cX6_width 8 = .ok (.if_icmp .le 6, 3) := by decide +kernel
theorem dX6_width_11 : decode cX6_width 11 = .ok (.bipush (-2), 2) := by decide +kernel
theorem dX6_width_13 : decode cX6_width 13 = .ok (.ireturn, 1) := by decide +kernel
theorem dX6_width_14 : decode cX6_width 14 = .ok (.aload_n 0, 1) := by decide +kernel
theorem dX6_width_15 : decode cX6_width 15 = .ok (.getfield 53, 3) := by decide +kernel
theorem dX6_width_18 : decode cX6_width 18 = .ok (.istore_n 2, 1) := by decide +kernel
theorem dX6_width_19 : decode cX6_width 19 = .ok (.aload_n 0, 1) := by decide +kernel
theorem dX6_width_20 : decode cX6_width 20 = .ok (.iload_n 1, 1) := by decide +kernel
theorem dX6_width_21 : decode cX6_width 21 = .ok (.putfield 53, 3) := by decide +kernel
theorem dX6_width_24 : decode cX6_width 24 = .ok (.aload_n 0, 1) := by decide +kernel
theorem dX6_width_25 : decode cX6_width 25 = .ok (.invokevirtual 67, 3) := by decide +kernel
theorem dX6_width_28 : decode cX6_width 28 = .ok (.iload_n 2, 1) := by decide +kernel
theorem dX6_width_29 : decode cX6_width 29 = .ok (.ireturn, 1) := by decide +kernel
theorem dX6_read_0 : decode cX6_read 0 = .ok (.aload_n 0, 1) := by decide +kernel
theorem dX6_read_1 : decode cX6_read 1 = .ok (.iload_n 1, 1) := by decide +kernel
theorem dX6_read_2 : decode cX6_read 2 = .ok (.invokevirtual 76, 3) := by decide +kernel
theorem dX6_read_5 : decode cX6_read 5 = .ok (.astore_n 2, 1) := by decide +kernel
theorem dX6_read_6 : decode cX6_read 6 = .ok (.aload_n 2, 1) := by decide +kernel
theorem dX6_read_7 : decode cX6_read 7 = .ok (.ifnonnull 6, 3) := by decide +kernel
theorem dX6_read_10 : decode cX6_read 10 = .ok (.bipush (-2), 2) := by decide +kernel
theorem dX6_read_12 : decode cX6_read 12 = .ok (.ireturn, 1) := by decide +kernel
theorem dX6_read_13 : decode cX6_read 13 = .ok (.aload_n 2, 1) := by decide +kernel
theorem dX6_read_14 : decode cX6_read 14 = .ok (.invokevirtual 80, 3) := by decide +kernel
theorem dX6_read_17 : decode cX6_read 17 = .ok (.ifCond .eq 9, 3) := by decide +kernel
theorem dX6_read_20 : decode cX6_read 20 = .ok (.aload_n 0, 1) := by decide +kernel
theorem dX6_read_21 : decode cX6_read 21 = .ok (.iconst 1, 1) := by decide +kernel
theorem dX6_read_22 : decode cX6_read 22 = .ok (.invokevirtual 84, 3) := by decide +kernel
theorem dX6_read_25 : decode cX6_read 25 = .ok (.ireturn, 1) := by decide +kernel
theorem dX6_read_26 : decode cX6_read 26 = .ok (.iconst 0, 1) := by decide +kernel
theorem dX6_read_27 : decode cX6_read 27 = .ok (.istore_n 3, 1) := by decide +kernel
theorem dX6_read_28 : decode cX6_read 28 = .ok (.iload_n 3, 1) := by decide +kernel
theorem dX6_read_29 : decode cX6_read 29 = .ok (.aload_n 2, 1) := by decide +kernel
theorem dX6_read_30 : decode cX6_read 30 = .ok (.getfield 88, 3) := by decide +kernel
theorem dX6_read_33 : decode cX6_read 33 = .ok (.if_icmp .ge 35, 3) := by decide +kernel
theorem dX6_read_36 : decode cX6_read 36 = .ok (.aload_n 2, 1) := by decide +kernel
theorem dX6_read_37 : decode cX6_read 37 = .ok (.iload_n 3, 1) := by decide +kernel
theorem dX6_read_38 : decode cX6_read 38 = .ok (.invokevirtual 91, 3) := by decide +kernel
theorem dX6_read_41 : decode cX6_read 41 = .ok (.invokestatic 57, 3) := by decide +kernel
theorem dX6_read_44 : decode cX6_read 44 = .ok (.ifCond .eq 24, 3) := by decide +kernel
theorem dX6_read_47 : decode cX6_read 47 = .ok (.aload_n 0, 1) := by decide +kernel
theorem dX6_read_48 : decode cX6_read 48 = .ok (.getfield 10, 3) := by decide +kernel
theorem dX6_read_51 : decode cX6_read 51 = .ok (.aload_n 2, 1) := by decide +kernel
theorem dX6_read_52 : decode cX6_read 52 = .ok (.iload_n 3, 1) := by decide +kernel
theorem dX6_read_53 : decode cX6_read 53 = .ok (.invokevirtual 91, 3) := by decide +kernel
theorem dX6_read_56 : decode cX6_read 56 = .ok (.invokevirtual 61, 3) := by decide +kernel
theorem dX6_read_59 : decode cX6_read 59 = .ok (.ifCond .eq 9, 3) := by decide +kernel
theorem dX6_read_62 : decode cX6_read 62 = .ok (.iinc 3 1, 3) := by decide +kernel
theorem dX6_read_65 : decode cX6_read 65 = .ok (.goto (-37), 3) := by decide +kernel
theorem dX6_read_68 : decode cX6_read 68 = .ok (.aload_n 0, 1) := by decide +kernel
theorem dX6_read_69 : decode cX6_read 69 = .ok (.invokevirtual 64, 3) := by decide +kernel
theorem dX6_read_72 : decode cX6_read 72 = .ok (.aload_n 0, 1) := by decide +kernel
theorem dX6_read_73 : decode cX6_read 73 = .ok (.invokevirtual 67, 3) := by decide +kernel
theorem dX6_read_76 : decode cX6_read 76 = .ok (.iload_n 3, 1) := by decide +kernel
theorem dX6_read_77 : decode cX6_read 77 = .ok (.ireturn, 1) := by decide +kernel
theorem dX6_part_0 : decode cX6_part 0 = .ok (.aload_n 0, 1) := by decide +kernel
theorem dX6_part_1 : decode cX6_part 1 = .ok (.getfield 10, 3) := by decide +kernel
theorem dX6_part_4 : decode cX6_part 4 = .ok (.iload_n 1, 1) := by decide +kernel
theorem dX6_part_5 : decode cX6_part 5 = .ok (.invokevirtual 94, 3) := by decide +kernel
theorem dX6_part_8 : decode cX6_part 8 = .ok (.ifCond .eq 12, 3) := by decide +kernel
theorem dX6_part_11 : decode cX6_part 11 = .ok (.iload_n 2, 1) := by decide +kernel
theorem dX6_part_12 : decode cX6_part 12 = .ok (.ifCond .lt 8, 3) := by decide +kernel
theorem dX6_part_15 : decode cX6_part 15 = .ok (.iload_n 2, 1) := by decide +kernel
theorem dX6_part_16 : decode cX6_part 16 = .ok (.iconst 3, 1) := by decide +kernel
theorem dX6_part_17 : decode cX6_part 17 = .ok (.if_icmp .le 6, 3) := by decide +kernel
theorem dX6_part_20 : decode cX6_part 20 = .ok (.bipush (-2), 2) := by decide +kernel
theorem dX6_part_22 : decode cX6_part 22 = .ok (.ireturn, 1) := by decide +kernel
theorem dX6_part_23 : decode cX6_part 23 = .ok (.iload_n 2, 1) := by decide +kernel
theorem dX6_part_24 : decode cX6_part 24 = .ok (.tableswitch 57 0 2 #[28, 38, 48], 28) := by decide +kernel
theorem dX6_part_52 : decode cX6_part 52 = .ok (.aload_n 0, 1) := by decide +kernel
theorem dX6_part_53 : decode cX6_part 53 = .ok (.getfield 10, 3) := by decide +kernel
theorem dX6_part_56 : decode cX6_part 56 = .ok (.getfield 97, 3) := by decide +kernel
theorem dX6_part_59 : decode cX6_part 59 = .ok (.iload_n 1, 1) := by decide +kernel
theorem dX6_part_60 : decode cX6_part 60 = .ok (.iaload, 1) := by decide +kernel
theorem dX6_part_61 : decode cX6_part 61 = .ok (.ireturn, 1) := by decide +kernel
theorem dX6_part_62 : decode cX6_part 62 = .ok (.aload_n 0, 1) := by decide +kernel
theorem dX6_part_63 : decode cX6_part 63 = .ok (.getfield 10, 3) := by decide +kernel
theorem dX6_part_66 : decode cX6_part 66 = .ok (.getfield 101, 3) := by decide +kernel
theorem dX6_part_69 : decode cX6_part 69 = .ok (.iload_n 1, 1) := by decide +kernel
theorem dX6_part_70 : decode cX6_part 70 = .ok (.iaload, 1) := by decide +kernel
theorem dX6_part_71 : decode cX6_part 71 = .ok (.ireturn, 1) := by decide +kernel
theorem dX6_part_72 : decode cX6_part 72 = .ok (.aload_n 0, 1) := by decide +kernel
theorem dX6_part_73 : decode cX6_part 73 = .ok (.getfield 19, 3) := by decide +kernel
theorem dX6_part_76 : decode cX6_part 76 = .ok (.iload_n 1, 1) := by decide +kernel
theorem dX6_part_77 : decode cX6_part 77 = .ok (.invokevirtual 103, 3) := by decide +kernel
theorem dX6_part_80 : decode cX6_part 80 = .ok (.ireturn, 1) := by decide +kernel
theorem dX6_part_81 : decode cX6_part 81 = .ok (.aload_n 0, 1) := by decide +kernel
theorem dX6_part_82 : decode cX6_part 82 = .ok (.getfield 10, 3) := by decide +kernel
theorem dX6_part_85 : decode cX6_part 85 = .ok (.getfield 106, 3) := by decide +kernel
theorem dX6_part_88 : decode cX6_part 88 = .ok (.iload_n 1, 1) := by decide +kernel
theorem dX6_part_89 : decode cX6_part 89 = .ok (.iaload, 1) := by decide +kernel
theorem dX6_part_90 : decode cX6_part 90 = .ok (.ireturn, 1) := by decide +kernel
theorem dX6_frontier_0 : decode cX6_frontier 0 = .ok (.aload_n 0, 1) := by decide +kernel
theorem dX6_frontier_1 : decode cX6_frontier 1 = .ok (.getfield 10, 3) := by decide +kernel
theorem dX6_frontier_4 : decode cX6_frontier 4 = .ok (.iload_n 1, 1) := by decide +kernel
theorem dX6_frontier_5 : decode cX6_frontier 5 = .ok (.invokevirtual 94, 3) := by decide +kernel
theorem dX6_frontier_8 : decode cX6_frontier 8 = .ok (.ifCond .eq 22, 3) := by decide +kernel
theorem dX6_frontier_11 : decode cX6_frontier 11 = .ok (.iload_n 2, 1) := by decide +kernel
theorem dX6_frontier_12 : decode cX6_frontier 12 = .ok (.ifCond .lt 18, 3) := by decide +kernel
theorem dX6_frontier_15 : decode cX6_frontier 15 = .ok (.iload_n 2, 1) := by decide +kernel
theorem dX6_frontier_16 : decode cX6_frontier 16 = .ok (.bipush 64, 2) := by decide +kernel
theorem dX6_frontier_18 : decode cX6_frontier 18 = .ok (.if_icmp .ge 12, 3) := by decide +kernel
theorem dX6_frontier_21 : decode cX6_frontier 21 = .ok (.iload_n 3, 1) := by decide +kernel
theorem dX6_frontier_22 : decode cX6_frontier 22 = .ok (.ifCond .lt 8, 3) := by decide +kernel
theorem dX6_frontier_25 : decode cX6_frontier 25 = .ok (.iload_n 3, 1) := by decide +kernel
theorem dX6_frontier_26 : decode cX6_frontier 26 = .ok (.iconst 3, 1) := by decide +kernel
theorem dX6_frontier_27 : decode cX6_frontier 27 = .ok (.if_icmp .le 6, 3) := by decide +kernel
theorem dX6_frontier_30 : decode cX6_frontier 30 = .ok (.bipush (-2), 2) := by decide +kernel
theorem dX6_frontier_32 : decode cX6_frontier 32 = .ok (.ireturn, 1) := by decide +kernel
theorem dX6_frontier_33 : decode cX6_frontier 33 = .ok (.iload_n 2, 1) := by decide +kernel
theorem dX6_frontier_34 : decode cX6_frontier 34 = .ok (.aload_n 0, 1) := by decide +kernel
theorem dX6_frontier_35 : decode cX6_frontier 35 = .ok (.getfield 19, 3) := by decide +kernel
theorem dX6_frontier_38 : decode cX6_frontier 38 = .ok (.iload_n 1, 1) := by decide +kernel
theorem dX6_frontier_39 : decode cX6_frontier 39 = .ok (.invokevirtual 103, 3) := by decide +kernel
theorem dX6_frontier_42 : decode cX6_frontier 42 = .ok (.if_icmp .lt 5, 3) := by decide +kernel
theorem dX6_frontier_45 : decode cX6_frontier 45 = .ok (.iconst (-1), 1) := by decide +kernel
theorem dX6_frontier_46 : decode cX6_frontier 46 = .ok (.ireturn, 1) := by decide +kernel
theorem dX6_frontier_47 : decode cX6_frontier 47 = .ok (.aload_n 0, 1) := by decide +kernel
theorem dX6_frontier_48 : decode cX6_frontier 48 = .ok (.getfield 19, 3) := by decide +kernel
theorem dX6_frontier_51 : decode cX6_frontier 51 = .ok (.getfield 109, 3) := by decide +kernel
theorem dX6_frontier_54 : decode cX6_frontier 54 = .ok (.iload_n 1, 1) := by decide +kernel
theorem dX6_frontier_55 : decode cX6_frontier 55 = .ok (.bipush 64, 2) := by decide +kernel
theorem dX6_frontier_57 : decode cX6_frontier 57 = .ok (.imul, 1) := by decide +kernel
theorem dX6_frontier_58 : decode cX6_frontier 58 = .ok (.iload_n 2, 1) := by decide +kernel
theorem dX6_frontier_59 : decode cX6_frontier 59 = .ok (.iadd, 1) := by decide +kernel
theorem dX6_frontier_60 : decode cX6_frontier 60 = .ok (.iload_n 3, 1) := by decide +kernel
theorem dX6_frontier_61 : decode cX6_frontier 61 = .ok (.invokevirtual 112, 3) := by decide +kernel
theorem dX6_frontier_64 : decode cX6_frontier 64 = .ok (.ireturn, 1) := by decide +kernel
theorem dX6_tried_0 : decode cX6_tried 0 = .ok (.iload_n 1, 1) := by decide +kernel
theorem dX6_tried_1 : decode cX6_tried 1 = .ok (.ifCond .lt 8, 3) := by decide +kernel
theorem dX6_tried_4 : decode cX6_tried 4 = .ok (.iload_n 1, 1) := by decide +kernel
theorem dX6_tried_5 : decode cX6_tried 5 = .ok (.iconst 1, 1) := by decide +kernel
theorem dX6_tried_6 : decode cX6_tried 6 = .ok (.if_icmp .le 6, 3) := by decide +kernel
theorem dX6_tried_9 : decode cX6_tried 9 = .ok (.bipush (-2), 2) := by decide +kernel
theorem dX6_tried_11 : decode cX6_tried 11 = .ok (.ireturn, 1) := by decide +kernel
theorem dX6_tried_12 : decode cX6_tried 12 = .ok (.iload_n 1, 1) := by decide +kernel
theorem dX6_tried_13 : decode cX6_tried 13 = .ok (.ifCond .ne 13, 3) := by decide +kernel
theorem dX6_tried_16 : decode cX6_tried 16 = .ok (.aload_n 0, 1) := by decide +kernel
theorem dX6_tried_17 : decode cX6_tried 17 = .ok (.getfield 19, 3) := by decide +kernel
theorem dX6_tried_20 : decode cX6_tried 20 = .ok (.getfield 116, 3) := by decide +kernel
theorem dX6_tried_23 : decode cX6_tried 23 = .ok (.goto 10, 3) := by decide +kernel
theorem dX6_tried_26 : decode cX6_tried 26 = .ok (.aload_n 0, 1) := by decide +kernel
theorem dX6_tried_27 : decode cX6_tried 27 = .ok (.getfield 19, 3) := by decide +kernel
theorem dX6_tried_30 : decode cX6_tried 30 = .ok (.getfield 119, 3) := by decide +kernel
theorem dX6_tried_33 : decode cX6_tried 33 = .ok (.ireturn, 1) := by decide +kernel
theorem dX6_best_0 : decode cX6_best 0 = .ok (.iload_n 1, 1) := by decide +kernel
theorem dX6_best_1 : decode cX6_best 1 = .ok (.ifCond .lt 8, 3) := by decide +kernel
theorem dX6_best_4 : decode cX6_best 4 = .ok (.iload_n 1, 1) := by decide +kernel
theorem dX6_best_5 : decode cX6_best 5 = .ok (.iconst 4, 1) := by decide +kernel
theorem dX6_best_6 : decode cX6_best 6 = .ok (.if_icmp .le 6, 3) := by decide +kernel
theorem dX6_best_9 : decode cX6_best 9 = .ok (.bipush (-2), 2) := by decide +kernel
theorem dX6_best_11 : decode cX6_best 11 = .ok (.ireturn, 1) := by decide +kernel
theorem dX6_best_12 : decode cX6_best 12 = .ok (.aload_n 0, 1) := by decide +kernel
theorem dX6_best_13 : decode cX6_best 13 = .ok (.getfield 122, 3) := by decide +kernel
theorem dX6_best_16 : decode cX6_best 16 = .ok (.ifCond .ne 5, 3) := by decide +kernel
theorem dX6_best_19 : decode cX6_best 19 = .ok (.iconst (-1), 1) := by decide +kernel
theorem dX6_best_20 : decode cX6_best 20 = .ok (.ireturn, 1) := by decide +kernel
theorem dX6_best_21 : decode cX6_best 21 = .ok (.iload_n 1, 1) := by decide +kernel
theorem dX6_best_22 : decode cX6_best 22 = .ok (.iconst 4, 1) := by decide +kernel
theorem dX6_best_23 : decode cX6_best 23 = .ok (.if_icmp .ne 16, 3) := by decide +kernel
theorem dX6_best_26 : decode cX6_best 26 = .ok (.aload_n 0, 1) := by decide +kernel
theorem dX6_best_27 : decode cX6_best 27 = .ok (.getfield 126, 3) := by decide +kernel
theorem dX6_best_30 : decode cX6_best 30 = .ok (.ifCond .eq 7, 3) := by decide +kernel
theorem dX6_best_33 : decode cX6_best 33 = .ok (.iconst 1, 1) := by decide +kernel
theorem dX6_best_34 : decode cX6_best 34 = .ok (.goto 4, 3) := by decide +kernel
theorem dX6_best_37 : decode cX6_best 37 = .ok (.iconst 0, 1) := by decide +kernel
theorem dX6_best_38 : decode cX6_best 38 = .ok (.ireturn, 1) := by decide +kernel
theorem dX6_best_39 : decode cX6_best 39 = .ok (.aload_n 0, 1) := by decide +kernel
theorem dX6_best_40 : decode cX6_best 40 = .ok (.getfield 28, 3) := by decide +kernel
theorem dX6_best_43 : decode cX6_best 43 = .ok (.iconst 0, 1) := by decide +kernel
theorem dX6_best_44 : decode cX6_best 44 = .ok (.iload_n 1, 1) := by decide +kernel
theorem dX6_best_45 : decode cX6_best 45 = .ok (.invokevirtual 112, 3) := by decide +kernel
theorem dX6_best_48 : decode cX6_best 48 = .ok (.ireturn, 1) := by decide +kernel
theorem dX6_line_0 : decode cX6_line 0 = .ok (.iload_n 1, 1) := by decide +kernel
theorem dX6_line_1 : decode cX6_line 1 = .ok (.ifCond .lt 21, 3) := by decide +kernel
theorem dX6_line_4 : decode cX6_line 4 = .ok (.iload_n 1, 1) := by decide +kernel
theorem dX6_line_5 : decode cX6_line 5 = .ok (.bipush 99, 2) := by decide +kernel
theorem dX6_line_7 : decode cX6_line 7 = .ok (.if_icmp .gt 15, 3) := by decide +kernel
theorem dX6_line_10 : decode cX6_line 10 = .ok (.iload_n 2, 1) := by decide +kernel
theorem dX6_line_11 : decode cX6_line 11 = .ok (.iconst (-1), 1) := by decide +kernel
theorem dX6_line_12 : decode cX6_line 12 = .ok (.if_icmp .lt 10, 3) := by decide +kernel
theorem dX6_line_15 : decode cX6_line 15 = .ok (.iload_n 2, 1) := by decide +kernel
theorem dX6_line_16 : decode cX6_line 16 = .ok (.sipush 399, 3) := by decide +kernel
theorem dX6_line_19 : decode cX6_line 19 = .ok (.if_icmp .le 6, 3) := by decide +kernel
theorem dX6_line_22 : decode cX6_line 22 = .ok (.bipush (-2), 2) := by decide +kernel
theorem dX6_line_24 : decode cX6_line 24 = .ok (.ireturn, 1) := by decide +kernel
theorem dX6_line_25 : decode cX6_line 25 = .ok (.iload_n 2, 1) := by decide +kernel
theorem dX6_line_26 : decode cX6_line 26 = .ok (.iconst (-1), 1) := by decide +kernel
theorem dX6_line_27 : decode cX6_line 27 = .ok (.if_icmp .ne 14, 3) := by decide +kernel
theorem dX6_line_30 : decode cX6_line 30 = .ok (.aload_n 0, 1) := by decide +kernel
theorem dX6_line_31 : decode cX6_line 31 = .ok (.getfield 42, 3) := by decide +kernel
theorem dX6_line_34 : decode cX6_line 34 = .ok (.iload_n 1, 1) := by decide +kernel
theorem dX6_line_35 : decode cX6_line 35 = .ok (.invokevirtual 129, 3) := by decide +kernel
theorem dX6_line_38 : decode cX6_line 38 = .ok (.goto 12, 3) := by decide +kernel
theorem dX6_line_41 : decode cX6_line 41 = .ok (.aload_n 0, 1) := by decide +kernel
theorem dX6_line_42 : decode cX6_line 42 = .ok (.getfield 42, 3) := by decide +kernel
theorem dX6_line_45 : decode cX6_line 45 = .ok (.iload_n 1, 1) := by decide +kernel
theorem dX6_line_46 : decode cX6_line 46 = .ok (.iload_n 2, 1) := by decide +kernel
theorem dX6_line_47 : decode cX6_line 47 = .ok (.invokevirtual 132, 3) := by decide +kernel
theorem dX6_line_50 : decode cX6_line 50 = .ok (.ireturn, 1) := by decide +kernel
theorem dX6_way_0 : decode cX6_way 0 = .ok (.iload_n 1, 1) := by decide +kernel
theorem dX6_way_1 : decode cX6_way 1 = .ok (.ifCond .lt 18, 3) := by decide +kernel
theorem dX6_way_4 : decode cX6_way 4 = .ok (.iload_n 1, 1) := by decide +kernel
theorem dX6_way_5 : decode cX6_way 5 = .ok (.bipush 64, 2) := by decide +kernel
theorem dX6_way_7 : decode cX6_way 7 = .ok (.if_icmp .ge 12, 3) := by decide +kernel
theorem dX6_way_10 : decode cX6_way 10 = .ok (.iload_n 2, 1) := by decide +kernel
theorem dX6_way_11 : decode cX6_way 11 = .ok (.ifCond .lt 8, 3) := by decide +kernel
theorem dX6_way_14 : decode cX6_way 14 = .ok (.iload_n 2, 1) := by decide +kernel
theorem dX6_way_15 : decode cX6_way 15 = .ok (.iconst 2, 1) := by decide +kernel
theorem dX6_way_16 : decode cX6_way 16 = .ok (.if_icmp .le 6, 3) := by decide +kernel
theorem dX6_way_19 : decode cX6_way 19 = .ok (.bipush (-2), 2) := by decide +kernel
theorem dX6_way_21 : decode cX6_way 21 = .ok (.ireturn, 1) := by decide +kernel
theorem dX6_way_22 : decode cX6_way 22 = .ok (.aload_n 0, 1) := by decide +kernel
theorem dX6_way_23 : decode cX6_way 23 = .ok (.getfield 35, 3) := by decide +kernel
theorem dX6_way_26 : decode cX6_way 26 = .ok (.iload_n 1, 1) := by decide +kernel
theorem dX6_way_27 : decode cX6_way 27 = .ok (.iload_n 2, 1) := by decide +kernel
theorem dX6_way_28 : decode cX6_way 28 = .ok (.invokevirtual 135, 3) := by decide +kernel
theorem dX6_way_31 : decode cX6_way 31 = .ok (.ireturn, 1) := by decide +kernel
theorem dX6_haste_0 : decode cX6_haste 0 = .ok (.iload_n 1, 1) := by decide +kernel
theorem dX6_haste_1 : decode cX6_haste 1 = .ok (.ifCond .lt 8, 3) := by decide +kernel
theorem dX6_haste_4 : decode cX6_haste 4 = .ok (.iload_n 1, 1) := by decide +kernel
theorem dX6_haste_5 : decode cX6_haste 5 = .ok (.iconst 2, 1) := by decide +kernel
theorem dX6_haste_6 : decode cX6_haste 6 = .ok (.if_icmp .le 6, 3) := by decide +kernel
theorem dX6_haste_9 : decode cX6_haste 9 = .ok (.bipush (-2), 2) := by decide +kernel
theorem dX6_haste_11 : decode cX6_haste 11 = .ok (.ireturn, 1) := by decide +kernel
theorem dX6_haste_12 : decode cX6_haste 12 = .ok (.aload_n 0, 1) := by decide +kernel
theorem dX6_haste_13 : decode cX6_haste 13 = .ok (.getfield 35, 3) := by decide +kernel
theorem dX6_haste_16 : decode cX6_haste 16 = .ok (.aload_n 0, 1) := by decide +kernel
theorem dX6_haste_17 : decode cX6_haste 17 = .ok (.getfield 10, 3) := by decide +kernel
theorem dX6_haste_20 : decode cX6_haste 20 = .ok (.getfield 136, 3) := by decide +kernel
theorem dX6_haste_23 : decode cX6_haste 23 = .ok (.aload_n 0, 1) := by decide +kernel
theorem dX6_haste_24 : decode cX6_haste 24 = .ok (.getfield 53, 3) := by decide +kernel
theorem dX6_haste_27 : decode cX6_haste 27 = .ok (.invokevirtual 139, 3) := by decide +kernel
theorem dX6_haste_30 : decode cX6_haste 30 = .ok (.istore_n 2, 1) := by decide +kernel
theorem dX6_haste_31 : decode cX6_haste 31 = .ok (.iload_n 2, 1) := by decide +kernel
theorem dX6_haste_32 : decode cX6_haste 32 = .ok (.iconst (-1), 1) := by decide +kernel
theorem dX6_haste_33 : decode cX6_haste 33 = .ok (.if_icmp .eq 7, 3) := by decide +kernel
theorem dX6_haste_36 : decode cX6_haste 36 = .ok (.iload_n 1, 1) := by decide +kernel
theorem dX6_haste_37 : decode cX6_haste 37 = .ok (.ifCond .ne 5, 3) := by decide +kernel
theorem dX6_haste_40 : decode cX6_haste 40 = .ok (.iload_n 2, 1) := by decide +kernel
theorem dX6_haste_41 : decode cX6_haste 41 = .ok (.ireturn, 1) := by decide +kernel
theorem dX6_haste_42 : decode cX6_haste 42 = .ok (.aload_n 0, 1) := by decide +kernel
theorem dX6_haste_43 : decode cX6_haste 43 = .ok (.getfield 35, 3) := by decide +kernel
theorem dX6_haste_46 : decode cX6_haste 46 = .ok (.iload_n 2, 1) := by decide +kernel
theorem dX6_haste_47 : decode cX6_haste 47 = .ok (.iload_n 1, 1) := by decide +kernel
theorem dX6_haste_48 : decode cX6_haste 48 = .ok (.iconst 1, 1) := by decide +kernel
theorem dX6_haste_49 : decode cX6_haste 49 = .ok (.if_icmp .ne 7, 3) := by decide +kernel
theorem dX6_haste_52 : decode cX6_haste 52 = .ok (.iconst 0, 1) := by decide +kernel
theorem dX6_haste_53 : decode cX6_haste 53 = .ok (.goto 4, 3) := by decide +kernel
theorem dX6_haste_56 : decode cX6_haste 56 = .ok (.iconst 2, 1) := by decide +kernel
theorem dX6_haste_57 : decode cX6_haste 57 = .ok (.invokevirtual 135, 3) := by decide +kernel
theorem dX6_haste_60 : decode cX6_haste 60 = .ok (.ireturn, 1) := by decide +kernel
theorem dX6_enough_0 : decode cX6_enough 0 = .ok (.aload_n 0, 1) := by decide +kernel
theorem dX6_enough_1 : decode cX6_enough 1 = .ok (.getfield 35, 3) := by decide +kernel
theorem dX6_enough_4 : decode cX6_enough 4 = .ok (.getfield 142, 3) := by decide +kernel
theorem dX6_enough_7 : decode cX6_enough 7 = .ok (.ireturn, 1) := by decide +kernel
theorem dX6_shrinks_0 : decode cX6_shrinks 0 = .ok (.iload_n 1, 1) := by decide +kernel
theorem dX6_shrinks_1 : decode cX6_shrinks 1 = .ok (.iconst (-1), 1) := by decide +kernel
theorem dX6_shrinks_2 : decode cX6_shrinks 2 = .ok (.if_icmp .lt 9, 3) := by decide +kernel
theorem dX6_shrinks_5 : decode cX6_shrinks 5 = .ok (.iload_n 1, 1) := by decide +kernel
theorem dX6_shrinks_6 : decode cX6_shrinks 6 = .ok (.bipush 39, 2) := by decide +kernel
theorem dX6_shrinks_8 : decode cX6_shrinks 8 = .ok (.if_icmp .le 6, 3) := by decide +kernel
theorem dX6_shrinks_11 : decode cX6_shrinks 11 = .ok (.bipush (-2), 2) := by decide +kernel
theorem dX6_shrinks_13 : decode cX6_shrinks 13 = .ok (.ireturn, 1) := by decide +kernel
theorem dX6_shrinks_14 : decode cX6_shrinks 14 = .ok (.iload_n 1, 1) := by decide +kernel
theorem dX6_shrinks_15 : decode cX6_shrinks 15 = .ok (.iconst (-1), 1) := by decide +kernel
theorem dX6_shrinks_16 : decode cX6_shrinks 16 = .ok (.if_icmp .ne 13, 3) := by decide +kernel
theorem dX6_shrinks_19 : decode cX6_shrinks 19 = .ok (.aload_n 0, 1) := by decide +kernel
theorem dX6_shrinks_20 : decode cX6_shrinks 20 = .ok (.getfield 35, 3) := by decide +kernel
theorem dX6_shrinks_23 : decode cX6_shrinks 23 = .ok (.getfield 145, 3) := by decide +kernel
theorem dX6_shrinks_26 : decode cX6_shrinks 26 = .ok (.goto 11, 3) := by decide +kernel
theorem dX6_shrinks_29 : decode cX6_shrinks 29 = .ok (.aload_n 0, 1) := by decide +kernel
theorem dX6_shrinks_30 : decode cX6_shrinks 30 = .ok (.getfield 35, 3) := by decide +kernel
theorem dX6_shrinks_33 : decode cX6_shrinks 33 = .ok (.iload_n 1, 1) := by decide +kernel
theorem dX6_shrinks_34 : decode cX6_shrinks 34 = .ok (.invokevirtual 148, 3) := by decide +kernel
theorem dX6_shrinks_37 : decode cX6_shrinks 37 = .ok (.ireturn, 1) := by decide +kernel
theorem dX6_spare_0 : decode cX6_spare 0 = .ok (.aload_n 0, 1) := by decide +kernel
theorem dX6_spare_1 : decode cX6_spare 1 = .ok (.getfield 122, 3) := by decide +kernel
theorem dX6_spare_4 : decode cX6_spare 4 = .ok (.ifCond .ne 5, 3) := by decide +kernel
theorem dX6_spare_7 : decode cX6_spare 7 = .ok (.iconst 0, 1) := by decide +kernel
theorem dX6_spare_8 : decode cX6_spare 8 = .ok (.ireturn, 1) := by decide +kernel
theorem dX6_spare_9 : decode cX6_spare 9 = .ok (.aload_n 0, 1) := by decide +kernel
theorem dX6_spare_10 : decode cX6_spare 10 = .ok (.getfield 28, 3) := by decide +kernel
theorem dX6_spare_13 : decode cX6_spare 13 = .ok (.iconst 0, 1) := by decide +kernel
theorem dX6_spare_14 : decode cX6_spare 14 = .ok (.iconst 0, 1) := by decide +kernel
theorem dX6_spare_15 : decode cX6_spare 15 = .ok (.invokevirtual 112, 3) := by decide +kernel
theorem dX6_spare_18 : decode cX6_spare 18 = .ok (.istore_n 1, 1) := by decide +kernel
theorem dX6_spare_19 : decode cX6_spare 19 = .ok (.iconst 0, 1) := by decide +kernel
theorem dX6_spare_20 : decode cX6_spare 20 = .ok (.istore_n 2, 1) := by decide +kernel
theorem dX6_spare_21 : decode cX6_spare 21 = .ok (.iconst 0, 1) := by decide +kernel
theorem dX6_spare_22 : decode cX6_spare 22 = .ok (.istore_n 3, 1) := by decide +kernel
theorem dX6_spare_23 : decode cX6_spare 23 = .ok (.iload_n 3, 1) := by decide +kernel
theorem dX6_spare_24 : decode cX6_spare 24 = .ok (.aload_n 0, 1) := by decide +kernel
theorem dX6_spare_25 : decode cX6_spare 25 = .ok (.getfield 10, 3) := by decide +kernel
theorem dX6_spare_28 : decode cX6_spare 28 = .ok (.getfield 136, 3) := by decide +kernel
theorem dX6_spare_31 : decode cX6_spare 31 = .ok (.if_icmp .ge 59, 3) := by decide +kernel
theorem dX6_spare_34 : decode cX6_spare 34 = .ok (.iconst 1, 1) := by decide +kernel
theorem dX6_spare_35 : decode cX6_spare 35 = .ok (.iload_n 3, 1) := by decide +kernel
theorem dX6_spare_36 : decode cX6_spare 36 = .ok (.ishl, 1) := by decide +kernel
theorem dX6_spare_37 : decode cX6_spare 37 = .ok (.istore 4, 2) := by decide +kernel
theorem dX6_spare_39 : decode cX6_spare 39 = .ok (.aload_n 0, 1) := by decide +kernel
theorem dX6_spare_40 : decode cX6_spare 40 = .ok (.getfield 126, 3) := by decide +kernel
theorem dX6_spare_43 : decode cX6_spare 43 = .ok (.ifCond .eq 15, 3) := by decide +kernel
theorem dX6_spare_46 : decode cX6_spare 46 = .ok (.aload_n 0, 1) := by decide +kernel
theorem dX6_spare_47 : decode cX6_spare 47 = .ok (.getfield 35, 3) := by decide +kernel
theorem dX6_spare_50 : decode cX6_spare 50 = .ok (.iload 4, 2) := by decide +kernel
theorem dX6_spare_52 : decode cX6_spare 52 = .ok (.invokevirtual 151, 3) := by decide +kernel
theorem dX6_spare_55 : decode cX6_spare 55 = .ok (.goto 16, 3) := by decide +kernel
theorem dX6_spare_58 : decode cX6_spare 58 = .ok (.aload_n 0, 1) := by decide +kernel
theorem dX6_spare_59 : decode cX6_spare 59 = .ok (.getfield 35, 3) := by decide +kernel
theorem dX6_spare_62 : decode cX6_spare 62 = .ok (.iload 4, 2) := by decide +kernel
theorem dX6_spare_64 : decode cX6_spare 64 = .ok (.aload_n 0, 1) := by decide +kernel
theorem dX6_spare_65 : decode cX6_spare 65 = .ok (.getfield 53, 3) := by decide +kernel
theorem dX6_spare_68 : decode cX6_spare 68 = .ok (.invokevirtual 154, 3) := by decide +kernel
theorem dX6_spare_71 : decode cX6_spare 71 = .ok (.istore 5, 2) := by decide +kernel
theorem dX6_spare_73 : decode cX6_spare 73 = .ok (.iload 5, 2) := by decide +kernel
theorem dX6_spare_75 : decode cX6_spare 75 = .ok (.iload_n 1, 1) := by decide +kernel
theorem dX6_spare_76 : decode cX6_spare 76 = .ok (.if_icmp .ne 8, 3) := by decide +kernel
theorem dX6_spare_79 : decode cX6_spare 79 = .ok (.iload_n 2, 1) := by decide +kernel
theorem dX6_spare_80 : decode cX6_spare 80 = .ok (.iload 4, 2) := by decide +kernel
theorem dX6_spare_82 : decode cX6_spare 82 = .ok (.ior, 1) := by decide +kernel
theorem dX6_spare_83 : decode cX6_spare 83 = .ok (.istore_n 2, 1) := by decide +kernel
theorem dX6_spare_84 : decode cX6_spare 84 = .ok (.iinc 3 1, 3) := by decide +kernel
theorem dX6_spare_87 : decode cX6_spare 87 = .ok (.goto (-64), 3) := by decide +kernel
theorem dX6_spare_90 : decode cX6_spare 90 = .ok (.iload_n 2, 1) := by decide +kernel
theorem dX6_spare_91 : decode cX6_spare 91 = .ok (.ireturn, 1) := by decide +kernel
theorem dX6_sheet_0 : decode cX6_sheet 0 = .ok (.aload_n 0, 1) := by decide +kernel
theorem dX6_sheet_1 : decode cX6_sheet 1 = .ok (.iload_n 1, 1) := by decide +kernel
theorem dX6_sheet_2 : decode cX6_sheet 2 = .ok (.invokevirtual 76, 3) := by decide +kernel
theorem dX6_sheet_5 : decode cX6_sheet 5 = .ok (.astore 4, 2) := by decide +kernel
theorem dX6_sheet_7 : decode cX6_sheet 7 = .ok (.aload 4, 2) := by decide +kernel
theorem dX6_sheet_9 : decode cX6_sheet 9 = .ok (.ifnull 16, 3) := by decide +kernel
theorem dX6_sheet_12 : decode cX6_sheet 12 = .ok (.iload_n 2, 1) := by decide +kernel
theorem dX6_sheet_13 : decode cX6_sheet 13 = .ok (.invokestatic 157, 3) := by decide +kernel
theorem dX6_sheet_16 : decode cX6_sheet 16 = .ok (.ifCond .eq 9, 3) := by decide +kernel
theorem dX6_sheet_19 : decode cX6_sheet 19 = .ok (.iload_n 3, 1) := by decide +kernel
theorem dX6_sheet_20 : decode cX6_sheet 20 = .ok (.bipush 60, 2) := by decide +kernel
theorem dX6_sheet_22 : decode cX6_sheet 22 = .ok (.if_icmp .le 6, 3) := by decide +kernel
theorem dX6_sheet_25 : decode cX6_sheet 25 = .ok (.bipush (-2), 2) := by decide +kernel
theorem dX6_sheet_27 : decode cX6_sheet 27 = .ok (.ireturn, 1) := by decide +kernel
theorem dX6_sheet_28 : decode cX6_sheet 28 = .ok (.iload_n 3, 1) := by decide +kernel
theorem dX6_sheet_29 : decode cX6_sheet 29 = .ok (.ifCond .ge 9, 3) := by decide +kernel
theorem dX6_sheet_32 : decode cX6_sheet 32 = .ok (.aload_n 0, 1) := by decide +kernel
theorem dX6_sheet_33 : decode cX6_sheet 33 = .ok (.iconst 5, 1) := by decide +kernel
theorem dX6_sheet_34 : decode cX6_sheet 34 = .ok (.invokevirtual 84, 3) := by decide +kernel
theorem dX6_sheet_37 : decode cX6_sheet 37 = .ok (.ireturn, 1) := by decide +kernel
theorem dX6_sheet_38 : decode cX6_sheet 38 = .ok (.aload 4, 2) := by decide +kernel
theorem dX6_sheet_40 : decode cX6_sheet 40 = .ok (.iload_n 2, 1) := by decide +kernel
theorem dX6_sheet_41 : decode cX6_sheet 41 = .ok (.iload_n 3, 1) := by decide +kernel
theorem dX6_sheet_42 : decode cX6_sheet 42 = .ok (.invokevirtual 160, 3) := by decide +kernel
theorem dX6_sheet_45 : decode cX6_sheet 45 = .ok (.iload_n 3, 1) := by decide +kernel
theorem dX6_sheet_46 : decode cX6_sheet 46 = .ok (.ireturn, 1) := by decide +kernel
theorem dX6_lose_0 : decode cX6_lose 0 = .ok (.aload_n 0, 1) := by decide +kernel
theorem dX6_lose_1 : decode cX6_lose 1 = .ok (.iload_n 1, 1) := by decide +kernel
theorem dX6_lose_2 : decode cX6_lose 2 = .ok (.invokevirtual 76, 3) := by decide +kernel
theorem dX6_lose_5 : decode cX6_lose 5 = .ok (.astore_n 2, 1) := by decide +kernel
theorem dX6_lose_6 : decode cX6_lose 6 = .ok (.aload_n 2, 1) := by decide +kernel
theorem dX6_lose_7 : decode cX6_lose 7 = .ok (.ifnonnull 6, 3) := by decide +kernel
theorem dX6_lose_10 : decode cX6_lose 10 = .ok (.bipush (-2), 2) := by decide +kernel
theorem dX6_lose_12 : decode cX6_lose 12 = .ok (.ireturn, 1) := by decide +kernel
theorem dX6_lose_13 : decode cX6_lose 13 = .ok (.aload_n 2, 1) := by decide +kernel
theorem dX6_lose_14 : decode cX6_lose 14 = .ok (.invokevirtual 80, 3) := by decide +kernel
theorem dX6_lose_17 : decode cX6_lose 17 = .ok (.ifCond .eq 9, 3) := by decide +kernel
theorem dX6_lose_20 : decode cX6_lose 20 = .ok (.aload_n 0, 1) := by decide +kernel
theorem dX6_lose_21 : decode cX6_lose 21 = .ok (.iconst 1, 1) := by decide +kernel
theorem dX6_lose_22 : decode cX6_lose 22 = .ok (.invokevirtual 84, 3) := by decide +kernel
theorem dX6_lose_25 : decode cX6_lose 25 = .ok (.ireturn, 1) := by decide +kernel
theorem dX6_lose_26 : decode cX6_lose 26 = .ok (.aload_n 2, 1) := by decide +kernel
theorem dX6_lose_27 : decode cX6_lose 27 = .ok (.getfield 88, 3) := by decide +kernel
theorem dX6_lose_30 : decode cX6_lose 30 = .ok (.istore_n 3, 1) := by decide +kernel
theorem dX6_lose_31 : decode cX6_lose 31 = .ok (.aload_n 2, 1) := by decide +kernel
theorem dX6_lose_32 : decode cX6_lose 32 = .ok (.iconst (-1), 1) := by decide +kernel
theorem dX6_lose_33 : decode cX6_lose 33 = .ok (.iconst 0, 1) := by decide +kernel
theorem dX6_lose_34 : decode cX6_lose 34 = .ok (.invokevirtual 160, 3) := by decide +kernel
theorem dX6_lose_37 : decode cX6_lose 37 = .ok (.iload_n 3, 1) := by decide +kernel
theorem dX6_lose_38 : decode cX6_lose 38 = .ok (.ireturn, 1) := by decide +kernel
theorem dX6_put_0 : decode cX6_put 0 = .ok (.aload_n 0, 1) := by decide +kernel
theorem dX6_put_1 : decode cX6_put 1 = .ok (.iload_n 1, 1) := by decide +kernel
theorem dX6_put_2 : decode cX6_put 2 = .ok (.invokevirtual 76, 3) := by decide +kernel
theorem dX6_put_5 : decode cX6_put 5 = .ok (.astore 5, 2) := by decide +kernel
theorem dX6_put_7 : decode cX6_put 7 = .ok (.aload 5, 2) := by decide +kernel
theorem dX6_put_9 : decode cX6_put 9 = .ok (.ifnull 10, 3) := by decide +kernel
theorem dX6_put_12 : decode cX6_put 12 = .ok (.iload_n 2, 1) := by decide +kernel
theorem dX6_put_13 : decode cX6_put 13 = .ok (.invokestatic 157, 3) := by decide +kernel
theorem dX6_put_16 : decode cX6_put 16 = .ok (.ifCond .ne 6, 3) := by decide +kernel
theorem dX6_put_19 : decode cX6_put 19 = .ok (.bipush (-2), 2) := by decide +kernel
theorem dX6_put_21 : decode cX6_put 21 = .ok (.ireturn, 1) := by decide +kernel
theorem dX6_put_22 : decode cX6_put 22 = .ok (.aload 5, 2) := by decide +kernel
theorem dX6_put_24 : decode cX6_put 24 = .ok (.iload_n 2, 1) := by decide +kernel
theorem dX6_put_25 : decode cX6_put 25 = .ok (.iload_n 3, 1) := by decide +kernel
theorem dX6_put_26 : decode cX6_put 26 = .ok (.invokestatic 164, 3) := by decide +kernel
theorem dX6_put_29 : decode cX6_put 29 = .ok (.istore 6, 2) := by decide +kernel
theorem dX6_put_31 : decode cX6_put 31 = .ok (.iload 6, 2) := by decide +kernel
theorem dX6_put_33 : decode cX6_put 33 = .ok (.ifCond .eq 10, 3) := by decide +kernel
theorem dX6_put_36 : decode cX6_put 36 = .ok (.aload_n 0, 1) := by decide +kernel
theorem dX6_put_37 : decode cX6_put 37 = .ok (.iload 6, 2) := by decide +kernel
theorem dX6_put_39 : decode cX6_put 39 = .ok (.invokevirtual 84, 3) := by decide +kernel
theorem dX6_put_42 : decode cX6_put 42 = .ok (.ireturn, 1) := by decide +kernel
theorem dX6_put_43 : decode cX6_put 43 = .ok (.aload 5, 2) := by decide +kernel
theorem dX6_put_45 : decode cX6_put 45 = .ok (.iload_n 3, 1) := by decide +kernel
theorem dX6_put_46 : decode cX6_put 46 = .ok (.iload 4, 2) := by decide +kernel
theorem dX6_put_48 : decode cX6_put 48 = .ok (.invokevirtual 168, 3) := by decide +kernel
theorem dX6_put_51 : decode cX6_put 51 = .ok (.iconst 1, 1) := by decide +kernel
theorem dX6_put_52 : decode cX6_put 52 = .ok (.ireturn, 1) := by decide +kernel
theorem dX6_get_0 : decode cX6_get 0 = .ok (.aload_n 0, 1) := by decide +kernel
theorem dX6_get_1 : decode cX6_get 1 = .ok (.iload_n 1, 1) := by decide +kernel
theorem dX6_get_2 : decode cX6_get 2 = .ok (.invokevirtual 76, 3) := by decide +kernel
theorem dX6_get_5 : decode cX6_get 5 = .ok (.astore 4, 2) := by decide +kernel
theorem dX6_get_7 : decode cX6_get 7 = .ok (.aload 4, 2) := by decide +kernel
theorem dX6_get_9 : decode cX6_get 9 = .ok (.ifnull 10, 3) := by decide +kernel
theorem dX6_get_12 : decode cX6_get 12 = .ok (.iload_n 2, 1) := by decide +kernel
theorem dX6_get_13 : decode cX6_get 13 = .ok (.invokestatic 157, 3) := by decide +kernel
theorem dX6_get_16 : decode cX6_get 16 = .ok (.ifCond .ne 6, 3) := by decide +kernel
theorem dX6_get_19 : decode cX6_get 19 = .ok (.ldc 171, 2) := by decide +kernel
theorem dX6_get_21 : decode cX6_get 21 = .ok (.ireturn, 1) := by decide +kernel
theorem dX6_get_22 : decode cX6_get 22 = .ok (.aload 4, 2) := by decide +kernel
theorem dX6_get_24 : decode cX6_get 24 = .ok (.iload_n 2, 1) := by decide +kernel
theorem dX6_get_25 : decode cX6_get 25 = .ok (.iload_n 3, 1) := by decide +kernel
theorem dX6_get_26 : decode cX6_get 26 = .ok (.invokestatic 164, 3) := by decide +kernel
theorem dX6_get_29 : decode cX6_get 29 = .ok (.istore 5, 2) := by decide +kernel
theorem dX6_get_31 : decode cX6_get 31 = .ok (.iload 5, 2) := by decide +kernel
theorem dX6_get_33 : decode cX6_get 33 = .ok (.ifCond .eq 13, 3) := by decide +kernel
theorem dX6_get_36 : decode cX6_get 36 = .ok (.aload_n 0, 1) := by decide +kernel
theorem dX6_get_37 : decode cX6_get 37 = .ok (.iload 5, 2) := by decide +kernel
theorem dX6_get_39 : decode cX6_get 39 = .ok (.invokevirtual 84, 3) := by decide +kernel
theorem dX6_get_42 : decode cX6_get 42 = .ok (.pop, 1) := by decide +kernel
theorem dX6_get_43 : decode cX6_get 43 = .ok (.ldc 171, 2) := by decide +kernel
theorem dX6_get_45 : decode cX6_get 45 = .ok (.ireturn, 1) := by decide +kernel
theorem dX6_get_46 : decode cX6_get 46 = .ok (.aload 4, 2) := by decide +kernel
theorem dX6_get_48 : decode cX6_get 48 = .ok (.iload_n 3, 1) := by decide +kernel
theorem dX6_get_49 : decode cX6_get 49 = .ok (.invokevirtual 91, 3) := by decide +kernel
theorem dX6_get_52 : decode cX6_get 52 = .ok (.ireturn, 1) := by decide +kernel
theorem dX6_copy_0 : decode cX6_copy 0 = .ok (.aload_n 0, 1) := by decide +kernel
theorem dX6_copy_1 : decode cX6_copy 1 = .ok (.iload_n 1, 1) := by decide +kernel
theorem dX6_copy_2 : decode cX6_copy 2 = .ok (.invokevirtual 76, 3) := by decide +kernel
theorem dX6_copy_5 : decode cX6_copy 5 = .ok (.astore 6, 2) := by decide +kernel
theorem dX6_copy_7 : decode cX6_copy 7 = .ok (.aload_n 0, 1) := by decide +kernel
theorem dX6_copy_8 : decode cX6_copy 8 = .ok (.iload_n 3, 1) := by decide +kernel
theorem dX6_copy_9 : decode cX6_copy 9 = .ok (.invokevirtual 76, 3) := by decide +kernel
theorem dX6_copy_12 : decode cX6_copy 12 = .ok (.astore 7, 2) := by decide +kernel
theorem dX6_copy_14 : decode cX6_copy 14 = .ok (.aload 6, 2) := by decide +kernel
theorem dX6_copy_16 : decode cX6_copy 16 = .ok (.ifnull 8, 3) := by decide +kernel
theorem dX6_copy_19 : decode cX6_copy 19 = .ok (.aload 7, 2) := by decide +kernel
theorem dX6_copy_21 : decode cX6_copy 21 = .ok (.ifnonnull 6, 3) := by decide +kernel
theorem dX6_copy_24 : decode cX6_copy 24 = .ok (.bipush (-2), 2) := by decide +kernel
theorem dX6_copy_26 : decode cX6_copy 26 = .ok (.ireturn, 1) := by decide +kernel
theorem dX6_copy_27 : decode cX6_copy 27 = .ok (.aload 6, 2) := by decide +kernel
theorem dX6_copy_29 : decode cX6_copy 29 = .ok (.invokevirtual 80, 3) := by decide +kernel
theorem dX6_copy_32 : decode cX6_copy 32 = .ok (.ifCond .ne 11, 3) := by decide +kernel
theorem dX6_copy_35 : decode cX6_copy 35 = .ok (.aload 7, 2) := by decide +kernel
theorem dX6_copy_37 : decode cX6_copy 37 = .ok (.invokevirtual 80, 3) := by decide +kernel
theorem dX6_copy_40 : decode cX6_copy 40 = .ok (.ifCond .eq 9, 3) := by decide +kernel
theorem dX6_copy_43 : decode cX6_copy 43 = .ok (.aload_n 0, 1) := by decide +kernel
theorem dX6_copy_44 : decode cX6_copy 44 = .ok (.iconst 1, 1) := by decide +kernel
theorem dX6_copy_45 : decode cX6_copy 45 = .ok (.invokevirtual 84, 3) := by decide +kernel
theorem dX6_copy_48 : decode cX6_copy 48 = .ok (.ireturn, 1) := by decide +kernel
theorem dX6_copy_49 : decode cX6_copy 49 = .ok (.aload 6, 2) := by decide +kernel
theorem dX6_copy_51 : decode cX6_copy 51 = .ok (.getfield 172, 3) := by decide +kernel
theorem dX6_copy_54 : decode cX6_copy 54 = .ok (.aload 7, 2) := by decide +kernel
theorem dX6_copy_56 : decode cX6_copy 56 = .ok (.getfield 172, 3) := by decide +kernel
theorem dX6_copy_59 : decode cX6_copy 59 = .ok (.if_icmp .eq 9, 3) := by decide +kernel
theorem dX6_copy_62 : decode cX6_copy 62 = .ok (.aload_n 0, 1) := by decide +kernel
theorem dX6_copy_63 : decode cX6_copy 63 = .ok (.iconst 4, 1) := by decide +kernel
theorem dX6_copy_64 : decode cX6_copy 64 = .ok (.invokevirtual 84, 3) := by decide +kernel
theorem dX6_copy_67 : decode cX6_copy 67 = .ok (.ireturn, 1) := by decide +kernel
theorem dX6_copy_68 : decode cX6_copy 68 = .ok (.aload 6, 2) := by decide +kernel
theorem dX6_copy_70 : decode cX6_copy 70 = .ok (.iload_n 2, 1) := by decide +kernel
theorem dX6_copy_71 : decode cX6_copy 71 = .ok (.iload 5, 2) := by decide +kernel
theorem dX6_copy_73 : decode cX6_copy 73 = .ok (.invokevirtual 175, 3) := by decide +kernel
theorem dX6_copy_76 : decode cX6_copy 76 = .ok (.ifCond .eq 15, 3) := by decide +kernel
theorem dX6_copy_79 : decode cX6_copy 79 = .ok (.aload 7, 2) := by decide +kernel
theorem dX6_copy_81 : decode cX6_copy 81 = .ok (.iload 4, 2) := by decide +kernel
theorem dX6_copy_83 : decode cX6_copy 83 = .ok (.iload 5, 2) := by decide +kernel
theorem dX6_copy_85 : decode cX6_copy 85 = .ok (.invokevirtual 175, 3) := by decide +kernel
theorem dX6_copy_88 : decode cX6_copy 88 = .ok (.ifCond .ne 9, 3) := by decide +kernel
theorem dX6_copy_91 : decode cX6_copy 91 = .ok (.aload_n 0, 1) := by decide +kernel
theorem dX6_copy_92 : decode cX6_copy 92 = .ok (.iconst 2, 1) := by decide +kernel
theorem dX6_copy_93 : decode cX6_copy 93 = .ok (.invokevirtual 84, 3) := by decide +kernel
theorem dX6_copy_96 : decode cX6_copy 96 = .ok (.ireturn, 1) := by decide +kernel
theorem dX6_copy_97 : decode cX6_copy 97 = .ok (.aload 6, 2) := by decide +kernel
theorem dX6_copy_99 : decode cX6_copy 99 = .ok (.getfield 179, 3) := by decide +kernel
theorem dX6_copy_102 : decode cX6_copy 102 = .ok (.iload_n 2, 1) := by decide +kernel
theorem dX6_copy_103 : decode cX6_copy 103 = .ok (.aload 7, 2) := by decide +kernel
theorem dX6_copy_105 : decode cX6_copy 105 = .ok (.getfield 179, 3) := by decide +kernel
theorem dX6_copy_108 : decode cX6_copy 108 = .ok (.iload 4, 2) := by decide +kernel
theorem dX6_copy_110 : decode cX6_copy 110 = .ok (.iload 5, 2) := by decide +kernel
theorem dX6_copy_112 : decode cX6_copy 112 = .ok (.invokestatic 182, 3) := by decide +kernel
theorem dX6_copy_115 : decode cX6_copy 115 = .ok (.iconst 1, 1) := by decide +kernel
theorem dX6_copy_116 : decode cX6_copy 116 = .ok (.ireturn, 1) := by decide +kernel
theorem dX6_write_0 : decode cX6_write 0 = .ok (.aload_n 0, 1) := by decide +kernel
theorem dX6_write_1 : decode cX6_write 1 = .ok (.iload_n 2, 1) := by decide +kernel
theorem dX6_write_2 : decode cX6_write 2 = .ok (.invokevirtual 76, 3) := by decide +kernel
theorem dX6_write_5 : decode cX6_write 5 = .ok (.astore_n 3, 1) := by decide +kernel
theorem dX6_write_6 : decode cX6_write 6 = .ok (.iload_n 1, 1) := by decide +kernel
theorem dX6_write_7 : decode cX6_write 7 = .ok (.ifCond .lt 13, 3) := by decide +kernel
theorem dX6_write_10 : decode cX6_write 10 = .ok (.iload_n 1, 1) := by decide +kernel
theorem dX6_write_11 : decode cX6_write 11 = .ok (.bipush 99, 2) := by decide +kernel
theorem dX6_write_13 : decode cX6_write 13 = .ok (.if_icmp .gt 7, 3) := by decide +kernel
theorem dX6_write_16 : decode cX6_write 16 = .ok (.aload_n 3, 1) := by decide +kernel
theorem dX6_write_17 : decode cX6_write 17 = .ok (.ifnonnull 6, 3) := by decide +kernel
theorem dX6_write_20 : decode cX6_write 20 = .ok (.bipush (-2), 2) := by decide +kernel
theorem dX6_write_22 : decode cX6_write 22 = .ok (.ireturn, 1) := by decide +kernel
theorem dX6_write_23 : decode cX6_write 23 = .ok (.aload_n 3, 1) := by decide +kernel
theorem dX6_write_24 : decode cX6_write 24 = .ok (.invokevirtual 80, 3) := by decide +kernel
theorem dX6_write_27 : decode cX6_write 27 = .ok (.ifCond .eq 9, 3) := by decide +kernel
theorem dX6_write_30 : decode cX6_write 30 = .ok (.aload_n 0, 1) := by decide +kernel
theorem dX6_write_31 : decode cX6_write 31 = .ok (.iconst 1, 1) := by decide +kernel
theorem dX6_write_32 : decode cX6_write 32 = .ok (.invokevirtual 84, 3) := by decide +kernel
theorem dX6_write_35 : decode cX6_write 35 = .ok (.ireturn, 1) := by decide +kernel
theorem dX6_write_36 : decode cX6_write 36 = .ok (.iconst 0, 1) := by decide +kernel
theorem dX6_write_37 : decode cX6_write 37 = .ok (.aload_n 3, 1) := by decide +kernel
theorem dX6_write_38 : decode cX6_write 38 = .ok (.getfield 88, 3) := by decide +kernel
theorem dX6_write_41 : decode cX6_write 41 = .ok (.aload_n 0, 1) := by decide +kernel
theorem dX6_write_42 : decode cX6_write 42 = .ok (.getfield 42, 3) := by decide +kernel
theorem dX6_write_45 : decode cX6_write 45 = .ok (.iload_n 1, 1) := by decide +kernel
theorem dX6_write_46 : decode cX6_write 46 = .ok (.invokevirtual 129, 3) := by decide +kernel
theorem dX6_write_49 : decode cX6_write 49 = .ok (.invokestatic 188, 3) := by decide +kernel
theorem dX6_write_52 : decode cX6_write 52 = .ok (.invokestatic 193, 3) := by decide +kernel
theorem dX6_write_55 : decode cX6_write 55 = .ok (.istore 4, 2) := by decide +kernel
theorem dX6_write_57 : decode cX6_write 57 = .ok (.iconst 0, 1) := by decide +kernel
theorem dX6_write_58 : decode cX6_write 58 = .ok (.istore 5, 2) := by decide +kernel
theorem dX6_write_60 : decode cX6_write 60 = .ok (.iload 5, 2) := by decide +kernel
theorem dX6_write_62 : decode cX6_write 62 = .ok (.iload 4, 2) := by decide +kernel
theorem dX6_write_64 : decode cX6_write 64 = .ok (.if_icmp .ge 25, 3) := by decide +kernel
theorem dX6_write_67 : decode cX6_write 67 = .ok (.aload_n 3, 1) := by decide +kernel
theorem dX6_write_68 : decode cX6_write 68 = .ok (.iload 5, 2) := by decide +kernel
theorem dX6_write_70 : decode cX6_write 70 = .ok (.aload_n 0, 1) := by decide +kernel
theorem dX6_write_71 : decode cX6_write 71 = .ok (.getfield 42, 3) := by decide +kernel
theorem dX6_write_74 : decode cX6_write 74 = .ok (.iload_n 1, 1) := by decide +kernel
theorem dX6_write_75 : decode cX6_write 75 = .ok (.iload 5, 2) := by decide +kernel
theorem dX6_write_77 : decode cX6_write 77 = .ok (.invokevirtual 132, 3) := by decide +kernel
theorem dX6_write_80 : decode cX6_write 80 = .ok (.invokevirtual 168, 3) := by decide +kernel
theorem dX6_write_83 : decode cX6_write 83 = .ok (.iinc 5 1, 3) := by decide +kernel
theorem dX6_write_86 : decode cX6_write 86 = .ok (.goto (-26), 3) := by decide +kernel
theorem dX6_write_89 : decode cX6_write 89 = .ok (.iload 4, 2) := by decide +kernel
theorem dX6_write_91 : decode cX6_write 91 = .ok (.ireturn, 1) := by decide +kernel
theorem dX6_count_0 : decode cX6_count 0 = .ok (.iload_n 1, 1) := by decide +kernel
theorem dX6_count_1 : decode cX6_count 1 = .ok (.tableswitch 112 0 8 #[51, 59, 67, 75, 80, 89, 95, 101, 107], 51) := by decide +kernel
theorem dX6_count_52 : decode cX6_count 52 = .ok (.aload_n 0, 1) := by decide +kernel
theorem dX6_count_53 : decode cX6_count 53 = .ok (.getfield 10, 3) := by decide +kernel
theorem dX6_count_56 : decode cX6_count 56 = .ok (.getfield 70, 3) := by decide +kernel
theorem dX6_count_59 : decode cX6_count 59 = .ok (.ireturn, 1) := by decide +kernel
theorem dX6_count_60 : decode cX6_count 60 = .ok (.aload_n 0, 1) := by decide +kernel
theorem dX6_count_61 : decode cX6_count 61 = .ok (.getfield 10, 3) := by decide +kernel
theorem dX6_count_64 : decode cX6_count 64 = .ok (.getfield 196, 3) := by decide +kernel
theorem dX6_count_67 : decode cX6_count 67 = .ok (.ireturn, 1) := by decide +kernel
theorem dX6_count_68 : decode cX6_count 68 = .ok (.aload_n 0, 1) := by decide +kernel
theorem dX6_count_69 : decode cX6_count 69 = .ok (.getfield 10, 3) := by decide +kernel
theorem dX6_count_72 : decode cX6_count 72 = .ok (.getfield 136, 3) := by decide +kernel
theorem dX6_count_75 : decode cX6_count 75 = .ok (.ireturn, 1) := by decide +kernel
theorem dX6_count_76 : decode cX6_count 76 = .ok (.aload_n 0, 1) := by decide +kernel
theorem dX6_count_77 : decode cX6_count 77 = .ok (.getfield 53, 3) := by decide +kernel
theorem dX6_count_80 : decode cX6_count 80 = .ok (.ireturn, 1) := by decide +kernel
theorem dX6_count_81 : decode cX6_count 81 = .ok (.aload_n 0, 1) := by decide +kernel
theorem dX6_count_82 : decode cX6_count 82 = .ok (.getfield 19, 3) := by decide +kernel
theorem dX6_count_85 : decode cX6_count 85 = .ok (.iconst 0, 1) := by decide +kernel
theorem dX6_count_86 : decode cX6_count 86 = .ok (.invokevirtual 103, 3) := by decide +kernel
theorem dX6_count_89 : decode cX6_count 89 = .ok (.ireturn, 1) := by decide +kernel
theorem dX6_count_90 : decode cX6_count 90 = .ok (.aload_n 0, 1) := by decide +kernel
theorem dX6_count_91 : decode cX6_count 91 = .ok (.iconst 0, 1) := by decide +kernel
theorem dX6_count_92 : decode cX6_count 92 = .ok (.invokevirtual 199, 3) := by decide +kernel
theorem dX6_count_95 : decode cX6_count 95 = .ok (.ireturn, 1) := by decide +kernel
theorem dX6_count_96 : decode cX6_count 96 = .ok (.aload_n 0, 1) := by decide +kernel
theorem dX6_count_97 : decode cX6_count 97 = .ok (.iconst 1, 1) := by decide +kernel
theorem dX6_count_98 : decode cX6_count 98 = .ok (.invokevirtual 199, 3) := by decide +kernel
theorem dX6_count_101 : decode cX6_count 101 = .ok (.ireturn, 1) := by decide +kernel
theorem dX6_count_102 : decode cX6_count 102 = .ok (.aload_n 0, 1) := by decide +kernel
theorem dX6_count_103 : decode cX6_count 103 = .ok (.iconst 0, 1) := by decide +kernel
theorem dX6_count_104 : decode cX6_count 104 = .ok (.invokevirtual 202, 3) := by decide +kernel
theorem dX6_count_107 : decode cX6_count 107 = .ok (.ireturn, 1) := by decide +kernel
theorem dX6_count_108 : decode cX6_count 108 = .ok (.aload_n 0, 1) := by decide +kernel
theorem dX6_count_109 : decode cX6_count 109 = .ok (.getfield 205, 3) := by decide +kernel
theorem dX6_count_112 : decode cX6_count 112 = .ok (.ireturn, 1) := by decide +kernel
theorem dX6_count_113 : decode cX6_count 113 = .ok (.bipush (-2), 2) := by decide +kernel
theorem dX6_count_115 : decode cX6_count 115 = .ok (.ireturn, 1) := by decide +kernel
theorem dX6_digest_0 : decode cX6_digest 0 = .ok (.ldc2_w 208, 3) := by decide +kernel
theorem dX6_digest_3 : decode cX6_digest 3 = .ok (.lstore_n 1, 1) := by decide +kernel
theorem dX6_digest_4 : decode cX6_digest 4 = .ok (.iconst 0, 1) := by decide +kernel
theorem dX6_digest_5 : decode cX6_digest 5 = .ok (.istore_n 3, 1) := by decide +kernel
theorem dX6_digest_6 : decode cX6_digest 6 = .ok (.iload_n 3, 1) := by decide +kernel
theorem dX6_digest_7 : decode cX6_digest 7 = .ok (.bipush 7, 2) := by decide +kernel
theorem dX6_digest_9 : decode cX6_digest 9 = .ok (.if_icmp .gt 22, 3) := by decide +kernel
theorem dX6_digest_12 : decode cX6_digest 12 = .ok (.ldc2_w 210, 3) := by decide +kernel
theorem dX6_digest_15 : decode cX6_digest 15 = .ok (.lload_n 1, 1) := by decide +kernel
theorem dX6_digest_16 : decode cX6_digest 16 = .ok (.lmul, 1) := by decide +kernel
theorem dX6_digest_17 : decode cX6_digest 17 = .ok (.aload_n 0, 1) := by decide +kernel
theorem dX6_digest_18 : decode cX6_digest 18 = .ok (.iload_n 3, 1) := by decide +kernel
theorem dX6_digest_19 : decode cX6_digest 19 = .ok (.invokevirtual 212, 3) := by decide +kernel
theorem dX6_digest_22 : decode cX6_digest 22 = .ok (.i2l, 1) := by decide +kernel
theorem dX6_digest_23 : decode cX6_digest 23 = .ok (.ladd, 1) := by decide +kernel
theorem dX6_digest_24 : decode cX6_digest 24 = .ok (.lstore_n 1, 1) := by decide +kernel
theorem dX6_digest_25 : decode cX6_digest 25 = .ok (.iinc 3 1, 3) := by decide +kernel
theorem dX6_digest_28 : decode cX6_digest 28 = .ok (.goto (-22), 3) := by decide +kernel
theorem dX6_digest_31 : decode cX6_digest 31 = .ok (.ldc2_w 210, 3) := by decide +kernel
theorem dX6_digest_34 : decode cX6_digest 34 = .ok (.lload_n 1, 1) := by decide +kernel
theorem dX6_digest_35 : decode cX6_digest 35 = .ok (.lmul, 1) := by decide +kernel
theorem dX6_digest_36 : decode cX6_digest 36 = .ok (.aload_n 0, 1) := by decide +kernel
theorem dX6_digest_37 : decode cX6_digest 37 = .ok (.invokevirtual 215, 3) := by decide +kernel
theorem dX6_digest_40 : decode cX6_digest 40 = .ok (.i2l, 1) := by decide +kernel
theorem dX6_digest_41 : decode cX6_digest 41 = .ok (.ladd, 1) := by decide +kernel
theorem dX6_digest_42 : decode cX6_digest 42 = .ok (.lstore_n 1, 1) := by decide +kernel
theorem dX6_digest_43 : decode cX6_digest 43 = .ok (.aload_n 0, 1) := by decide +kernel
theorem dX6_digest_44 : decode cX6_digest 44 = .ok (.lload_n 1, 1) := by decide +kernel
theorem dX6_digest_45 : decode cX6_digest 45 = .ok (.invokevirtual 218, 3) := by decide +kernel
theorem dX6_digest_48 : decode cX6_digest 48 = .ok (.lstore_n 1, 1) := by decide +kernel
theorem dX6_digest_49 : decode cX6_digest 49 = .ok (.aload_n 0, 1) := by decide +kernel
theorem dX6_digest_50 : decode cX6_digest 50 = .ok (.lload_n 1, 1) := by decide +kernel
theorem dX6_digest_51 : decode cX6_digest 51 = .ok (.invokevirtual 222, 3) := by decide +kernel
theorem dX6_digest_54 : decode cX6_digest 54 = .ok (.lstore_n 1, 1) := by decide +kernel
theorem dX6_digest_55 : decode cX6_digest 55 = .ok (.aload_n 0, 1) := by decide +kernel
theorem dX6_digest_56 : decode cX6_digest 56 = .ok (.lload_n 1, 1) := by decide +kernel
theorem dX6_digest_57 : decode cX6_digest 57 = .ok (.invokevirtual 225, 3) := by decide +kernel
theorem dX6_digest_60 : decode cX6_digest 60 = .ok (.lreturn, 1) := by decide +kernel
theorem dX6_digestParts_0 : decode cX6_digestParts 0 = .ok (.lload_n 1, 1) := by decide +kernel
theorem dX6_digestParts_1 : decode cX6_digestParts 1 = .ok (.lstore_n 3, 1) := by decide +kernel
theorem dX6_digestParts_2 : decode cX6_digestParts 2 = .ok (.iconst 0, 1) := by decide +kernel
theorem dX6_digestParts_3 : decode cX6_digestParts 3 = .ok (.istore 5, 2) := by decide +kernel
theorem dX6_digestParts_5 : decode cX6_digestParts 5 = .ok (.iload 5, 2) := by decide +kernel
theorem dX6_digestParts_7 : decode cX6_digestParts 7 = .ok (.aload_n 0, 1) := by decide +kernel
theorem dX6_digestParts_8 : decode cX6_digestParts 8 = .ok (.getfield 10, 3) := by decide +kernel
theorem dX6_digestParts_11 : decode cX6_digestParts 11 = .ok (.getfield 196, 3) := by decide +kernel
theorem dX6_digestParts_14 : decode cX6_digestParts 14 = .ok (.if_icmp .ge 56, 3) := by decide +kernel
theorem dX6_digestParts_17 : decode cX6_digestParts 17 = .ok (.iconst 0, 1) := by decide +kernel
theorem dX6_digestParts_18 : decode cX6_digestParts 18 = .ok (.istore 6, 2) := by decide +kernel
theorem dX6_digestParts_20 : decode cX6_digestParts 20 = .ok (.iload 6, 2) := by decide +kernel
theorem dX6_digestParts_22 : decode cX6_digestParts 22 = .ok (.iconst 3, 1) := by decide +kernel
theorem dX6_digestParts_23 : decode cX6_digestParts 23 = .ok (.if_icmp .gt 25, 3) := by decide +kernel
theorem dX6_digestParts_26 : decode cX6_digestParts 26 = .ok (.ldc2_w 210, 3) := by decide +kernel
theorem dX6_digestParts_29 : decode cX6_digestParts 29 = .ok (.lload_n 3, 1) := by decide +kernel
theorem dX6_digestParts_30 : decode cX6_digestParts 30 = .ok (.lmul, 1) := by decide +kernel
theorem dX6_digestParts_31 : decode cX6_digestParts 31 = .ok (.aload_n 0, 1) := by decide +kernel
theorem dX6_digestParts_32 : decode cX6_digestParts 32 = .ok (.iload 5, 2) := by decide +kernel
theorem dX6_digestParts_34 : decode cX6_digestParts 34 = .ok (.iload 6, 2) := by decide +kernel
theorem dX6_digestParts_36 : decode cX6_digestParts 36 = .ok (.invokevirtual 228, 3) := by decide +kernel
theorem dX6_digestParts_39 : decode cX6_digestParts 39 = .ok (.i2l, 1) := by decide +kernel
theorem dX6_digestParts_40 : decode cX6_digestParts 40 = .ok (.ladd, 1) := by decide +kernel
theorem dX6_digestParts_41 : decode cX6_digestParts 41 = .ok (.lstore_n 3, 1) := by decide +kernel
theorem dX6_digestParts_42 : decode cX6_digestParts 42 = .ok (.iinc 6 1, 3) := by decide +kernel
theorem dX6_digestParts_45 : decode cX6_digestParts 45 = .ok (.goto (-25), 3) := by decide +kernel
theorem dX6_digestParts_48 : decode cX6_digestParts 48 = .ok (.aload_n 0, 1) := by decide +kernel
theorem dX6_digestParts_49 : decode cX6_digestParts 49 = .ok (.aload_n 0, 1) := by decide +kernel
theorem dX6_digestParts_50 : decode cX6_digestParts 50 = .ok (.lload_n 3, 1) := by decide +kernel
theorem dX6_digestParts_51 : decode cX6_digestParts 51 = .ok (.iload 5, 2) := by decide +kernel
theorem dX6_digestParts_53 : decode cX6_digestParts 53 = .ok (.iconst 0, 1) := by decide +kernel
theorem dX6_digestParts_54 : decode cX6_digestParts 54 = .ok (.invokevirtual 231, 3) := by decide +kernel
theorem dX6_digestParts_57 : decode cX6_digestParts 57 = .ok (.iload 5, 2) := by decide +kernel
theorem dX6_digestParts_59 : decode cX6_digestParts 59 = .ok (.iconst 1, 1) := by decide +kernel
theorem dX6_digestParts_60 : decode cX6_digestParts 60 = .ok (.invokevirtual 231, 3) := by decide +kernel
theorem dX6_digestParts_63 : decode cX6_digestParts 63 = .ok (.lstore_n 3, 1) := by decide +kernel
theorem dX6_digestParts_64 : decode cX6_digestParts 64 = .ok (.iinc 5 1, 3) := by decide +kernel
theorem dX6_digestParts_67 : decode cX6_digestParts 67 = .ok (.goto (-62), 3) := by decide +kernel
theorem dX6_digestParts_70 : decode cX6_digestParts 70 = .ok (.iconst 0, 1) := by decide +kernel
theorem dX6_digestParts_71 : decode cX6_digestParts 71 = .ok (.istore 5, 2) := by decide +kernel
theorem dX6_digestParts_73 : decode cX6_digestParts 73 = .ok (.iload 5, 2) := by decide +kernel
theorem dX6_digestParts_75 : decode cX6_digestParts 75 = .ok (.bipush 7, 2) := by decide +kernel
theorem dX6_digestParts_77 : decode cX6_digestParts 77 = .ok (.if_icmp .gt 18, 3) := by decide +kernel
theorem dX6_digestParts_80 : decode cX6_digestParts 80 = .ok (.aload_n 0, 1) := by decide +kernel
theorem dX6_digestParts_81 : decode cX6_digestParts 81 = .ok (.lload_n 3, 1) := by decide +kernel
theorem dX6_digestParts_82 : decode cX6_digestParts 82 = .ok (.iconst 0, 1) := by decide +kernel
theorem dX6_digestParts_83 : decode cX6_digestParts 83 = .ok (.iload 5, 2) := by decide +kernel
theorem dX6_digestParts_85 : decode cX6_digestParts 85 = .ok (.invokevirtual 231, 3) := by decide +kernel
theorem dX6_digestParts_88 : decode cX6_digestParts 88 = .ok (.lstore_n 3, 1) := by decide +kernel
theorem dX6_digestParts_89 : decode cX6_digestParts 89 = .ok (.iinc 5 1, 3) := by decide +kernel
theorem dX6_digestParts_92 : decode cX6_digestParts 92 = .ok (.goto (-19), 3) := by decide +kernel
theorem dX6_digestParts_95 : decode cX6_digestParts 95 = .ok (.lload_n 3, 1) := by decide +kernel
theorem dX6_digestParts_96 : decode cX6_digestParts 96 = .ok (.lreturn, 1) := by decide +kernel
theorem dX6_digestShape_0 : decode cX6_digestShape 0 = .ok (.lload_n 1, 1) := by decide +kernel
theorem dX6_digestShape_1 : decode cX6_digestShape 1 = .ok (.lstore 5, 2) := by decide +kernel
theorem dX6_digestShape_3 : decode cX6_digestShape 3 = .ok (.iconst 0, 1) := by decide +kernel
theorem dX6_digestShape_4 : decode cX6_digestShape 4 = .ok (.istore 7, 2) := by decide +kernel
theorem dX6_digestShape_6 : decode cX6_digestShape 6 = .ok (.iload 7, 2) := by decide +kernel
theorem dX6_digestShape_8 : decode cX6_digestShape 8 = .ok (.iconst 3, 1) := by decide +kernel
theorem dX6_digestShape_9 : decode cX6_digestShape 9 = .ok (.if_icmp .gt 28, 3) := by decide +kernel
theorem dX6_digestShape_12 : decode cX6_digestShape 12 = .ok (.ldc2_w 210, 3) := by decide +kernel
theorem dX6_digestShape_15 : decode cX6_digestShape 15 = .ok (.lload 5, 2) := by decide +kernel
theorem dX6_digestShape_17 : decode cX6_digestShape 17 = .ok (.lmul, 1) := by decide +kernel
theorem dX6_digestShape_18 : decode cX6_digestShape 18 = .ok (.aload_n 0, 1) := by decide +kernel
theorem dX6_digestShape_19 : decode cX6_digestShape 19 = .ok (.iload_n 3, 1) := by decide +kernel
theorem dX6_digestShape_20 : decode cX6_digestShape 20 = .ok (.iload 4, 2) := by decide +kernel
theorem dX6_digestShape_22 : decode cX6_digestShape 22 = .ok (.iload 7, 2) := by decide +kernel
theorem dX6_digestShape_24 : decode cX6_digestShape 24 = .ok (.invokevirtual 235, 3) := by decide +kernel
theorem dX6_digestShape_27 : decode cX6_digestShape 27 = .ok (.i2l, 1) := by decide +kernel
theorem dX6_digestShape_28 : decode cX6_digestShape 28 = .ok (.ladd, 1) := by decide +kernel
theorem dX6_digestShape_29 : decode cX6_digestShape 29 = .ok (.lstore 5, 2) := by decide +kernel
theorem dX6_digestShape_31 : decode cX6_digestShape 31 = .ok (.iinc 7 1, 3) := by decide +kernel
theorem dX6_digestShape_34 : decode cX6_digestShape 34 = .ok (.goto (-28), 3) := by decide +kernel
theorem dX6_digestShape_37 : decode cX6_digestShape 37 = .ok (.lload 5, 2) := by decide +kernel
theorem dX6_digestShape_39 : decode cX6_digestShape 39 = .ok (.lreturn, 1) := by decide +kernel
theorem dX6_digestBest_0 : decode cX6_digestBest 0 = .ok (.ldc2_w 210, 3) := by decide +kernel
theorem dX6_digestBest_3 : decode cX6_digestBest 3 = .ok (.ldc2_w 210, 3) := by decide +kernel
theorem dX6_digestBest_6 : decode cX6_digestBest 6 = .ok (.lload_n 1, 1) := by decide +kernel
theorem dX6_digestBest_7 : decode cX6_digestBest 7 = .ok (.lmul, 1) := by decide +kernel
theorem dX6_digestBest_8 : decode cX6_digestBest 8 = .ok (.aload_n 0, 1) := by decide +kernel
theorem dX6_digestBest_9 : decode cX6_digestBest 9 = .ok (.iconst 0, 1) := by decide +kernel
theorem dX6_digestBest_10 : decode cX6_digestBest 10 = .ok (.invokevirtual 199, 3) := by decide +kernel
theorem dX6_digestBest_13 : decode cX6_digestBest 13 = .ok (.i2l, 1) := by decide +kernel
theorem dX6_digestBest_14 : decode cX6_digestBest 14 = .ok (.ladd, 1) := by decide +kernel
theorem dX6_digestBest_15 : decode cX6_digestBest 15 = .ok (.lmul, 1) := by decide +kernel
theorem dX6_digestBest_16 : decode cX6_digestBest 16 = .ok (.aload_n 0, 1) := by decide +kernel
theorem dX6_digestBest_17 : decode cX6_digestBest 17 = .ok (.iconst 1, 1) := by decide +kernel
theorem dX6_digestBest_18 : decode cX6_digestBest 18 = .ok (.invokevirtual 199, 3) := by decide +kernel
theorem dX6_digestBest_21 : decode cX6_digestBest 21 = .ok (.i2l, 1) := by decide +kernel
theorem dX6_digestBest_22 : decode cX6_digestBest 22 = .ok (.ladd, 1) := by decide +kernel
theorem dX6_digestBest_23 : decode cX6_digestBest 23 = .ok (.lstore_n 3, 1) := by decide +kernel
theorem dX6_digestBest_24 : decode cX6_digestBest 24 = .ok (.iconst 0, 1) := by decide +kernel
theorem dX6_digestBest_25 : decode cX6_digestBest 25 = .ok (.istore 5, 2) := by decide +kernel
theorem dX6_digestBest_27 : decode cX6_digestBest 27 = .ok (.iload 5, 2) := by decide +kernel
theorem dX6_digestBest_29 : decode cX6_digestBest 29 = .ok (.iconst 4, 1) := by decide +kernel
theorem dX6_digestBest_30 : decode cX6_digestBest 30 = .ok (.if_icmp .gt 23, 3) := by decide +kernel
theorem dX6_digestBest_33 : decode cX6_digestBest 33 = .ok (.ldc2_w 210, 3) := by decide +kernel
theorem dX6_digestBest_36 : decode cX6_digestBest 36 = .ok (.lload_n 3, 1) := by decide +kernel
theorem dX6_digestBest_37 : decode cX6_digestBest 37 = .ok (.lmul, 1) := by decide +kernel
theorem dX6_digestBest_38 : decode cX6_digestBest 38 = .ok (.aload_n 0, 1) := by decide +kernel
theorem dX6_digestBest_39 : decode cX6_digestBest 39 = .ok (.iload 5, 2) := by decide +kernel
theorem dX6_digestBest_41 : decode cX6_digestBest 41 = .ok (.invokevirtual 202, 3) := by decide +kernel
theorem dX6_digestBest_44 : decode cX6_digestBest 44 = .ok (.i2l, 1) := by decide +kernel
theorem dX6_digestBest_45 : decode cX6_digestBest 45 = .ok (.ladd, 1) := by decide +kernel
theorem dX6_digestBest_46 : decode cX6_digestBest 46 = .ok (.lstore_n 3, 1) := by decide +kernel
theorem dX6_digestBest_47 : decode cX6_digestBest 47 = .ok (.iinc 5 1, 3) := by decide +kernel
theorem dX6_digestBest_50 : decode cX6_digestBest 50 = .ok (.goto (-23), 3) := by decide +kernel
theorem dX6_digestBest_53 : decode cX6_digestBest 53 = .ok (.iconst 0, 1) := by decide +kernel
theorem dX6_digestBest_54 : decode cX6_digestBest 54 = .ok (.istore 5, 2) := by decide +kernel
theorem dX6_digestBest_56 : decode cX6_digestBest 56 = .ok (.iload 5, 2) := by decide +kernel
theorem dX6_digestBest_58 : decode cX6_digestBest 58 = .ok (.bipush 9, 2) := by decide +kernel
theorem dX6_digestBest_60 : decode cX6_digestBest 60 = .ok (.if_icmp .gt 54, 3) := by decide +kernel
theorem dX6_digestBest_63 : decode cX6_digestBest 63 = .ok (.ldc2_w 210, 3) := by decide +kernel
theorem dX6_digestBest_66 : decode cX6_digestBest 66 = .ok (.lload_n 3, 1) := by decide +kernel
theorem dX6_digestBest_67 : decode cX6_digestBest 67 = .ok (.lmul, 1) := by decide +kernel
theorem dX6_digestBest_68 : decode cX6_digestBest 68 = .ok (.aload_n 0, 1) := by decide +kernel
theorem dX6_digestBest_69 : decode cX6_digestBest 69 = .ok (.iload 5, 2) := by decide +kernel
theorem dX6_digestBest_71 : decode cX6_digestBest 71 = .ok (.iconst (-1), 1) := by decide +kernel
theorem dX6_digestBest_72 : decode cX6_digestBest 72 = .ok (.invokevirtual 239, 3) := by decide +kernel
theorem dX6_digestBest_75 : decode cX6_digestBest 75 = .ok (.i2l, 1) := by decide +kernel
theorem dX6_digestBest_76 : decode cX6_digestBest 76 = .ok (.ladd, 1) := by decide +kernel
theorem dX6_digestBest_77 : decode cX6_digestBest 77 = .ok (.lstore_n 3, 1) := by decide +kernel
theorem dX6_digestBest_78 : decode cX6_digestBest 78 = .ok (.ldc2_w 210, 3) := by decide +kernel
theorem dX6_digestBest_81 : decode cX6_digestBest 81 = .ok (.lload_n 3, 1) := by decide +kernel
theorem dX6_digestBest_82 : decode cX6_digestBest 82 = .ok (.lmul, 1) := by decide +kernel
theorem dX6_digestBest_83 : decode cX6_digestBest 83 = .ok (.aload_n 0, 1) := by decide +kernel
theorem dX6_digestBest_84 : decode cX6_digestBest 84 = .ok (.iload 5, 2) := by decide +kernel
theorem dX6_digestBest_86 : decode cX6_digestBest 86 = .ok (.iconst 0, 1) := by decide +kernel
theorem dX6_digestBest_87 : decode cX6_digestBest 87 = .ok (.invokevirtual 239, 3) := by decide +kernel
theorem dX6_digestBest_90 : decode cX6_digestBest 90 = .ok (.i2l, 1) := by decide +kernel
theorem dX6_digestBest_91 : decode cX6_digestBest 91 = .ok (.ladd, 1) := by decide +kernel
theorem dX6_digestBest_92 : decode cX6_digestBest 92 = .ok (.lstore_n 3, 1) := by decide +kernel
theorem dX6_digestBest_93 : decode cX6_digestBest 93 = .ok (.ldc2_w 210, 3) := by decide +kernel
theorem dX6_digestBest_96 : decode cX6_digestBest 96 = .ok (.lload_n 3, 1) := by decide +kernel
theorem dX6_digestBest_97 : decode cX6_digestBest 97 = .ok (.lmul, 1) := by decide +kernel
theorem dX6_digestBest_98 : decode cX6_digestBest 98 = .ok (.aload_n 0, 1) := by decide +kernel
theorem dX6_digestBest_99 : decode cX6_digestBest 99 = .ok (.iload 5, 2) := by decide +kernel
theorem dX6_digestBest_101 : decode cX6_digestBest 101 = .ok (.iconst 5, 1) := by decide +kernel
theorem dX6_digestBest_102 : decode cX6_digestBest 102 = .ok (.invokevirtual 239, 3) := by decide +kernel
theorem dX6_digestBest_105 : decode cX6_digestBest 105 = .ok (.i2l, 1) := by decide +kernel
theorem dX6_digestBest_106 : decode cX6_digestBest 106 = .ok (.ladd, 1) := by decide +kernel
theorem dX6_digestBest_107 : decode cX6_digestBest 107 = .ok (.lstore_n 3, 1) := by decide +kernel
theorem dX6_digestBest_108 : decode cX6_digestBest 108 = .ok (.iinc 5 1, 3) := by decide +kernel
theorem dX6_digestBest_111 : decode cX6_digestBest 111 = .ok (.goto (-55), 3) := by decide +kernel
theorem dX6_digestBest_114 : decode cX6_digestBest 114 = .ok (.lload_n 3, 1) := by decide +kernel
theorem dX6_digestBest_115 : decode cX6_digestBest 115 = .ok (.lreturn, 1) := by decide +kernel
theorem dX6_digestWays_0 : decode cX6_digestWays 0 = .ok (.lload_n 1, 1) := by decide +kernel
theorem dX6_digestWays_1 : decode cX6_digestWays 1 = .ok (.lstore_n 3, 1) := by decide +kernel
theorem dX6_digestWays_2 : decode cX6_digestWays 2 = .ok (.iconst 0, 1) := by decide +kernel
theorem dX6_digestWays_3 : decode cX6_digestWays 3 = .ok (.istore 5, 2) := by decide +kernel
theorem dX6_digestWays_5 : decode cX6_digestWays 5 = .ok (.iload 5, 2) := by decide +kernel
theorem dX6_digestWays_7 : decode cX6_digestWays 7 = .ok (.bipush 64, 2) := by decide +kernel
theorem dX6_digestWays_9 : decode cX6_digestWays 9 = .ok (.if_icmp .ge 40, 3) := by decide +kernel
theorem dX6_digestWays_12 : decode cX6_digestWays 12 = .ok (.iconst 0, 1) := by decide +kernel
theorem dX6_digestWays_13 : decode cX6_digestWays 13 = .ok (.istore 6, 2) := by decide +kernel
theorem dX6_digestWays_15 : decode cX6_digestWays 15 = .ok (.iload 6, 2) := by decide +kernel
theorem dX6_digestWays_17 : decode cX6_digestWays 17 = .ok (.iconst 2, 1) := by decide +kernel
theorem dX6_digestWays_18 : decode cX6_digestWays 18 = .ok (.if_icmp .gt 25, 3) := by decide +kernel
theorem dX6_digestWays_21 : decode cX6_digestWays 21 = .ok (.ldc2_w 210, 3) := by decide +kernel
theorem dX6_digestWays_24 : decode cX6_digestWays 24 = .ok (.lload_n 3, 1) := by decide +kernel
theorem dX6_digestWays_25 : decode cX6_digestWays 25 = .ok (.lmul, 1) := by decide +kernel
theorem dX6_digestWays_26 : decode cX6_digestWays 26 = .ok (.aload_n 0, 1) := by decide +kernel
theorem dX6_digestWays_27 : decode cX6_digestWays 27 = .ok (.iload 5, 2) := by decide +kernel
theorem dX6_digestWays_29 : decode cX6_digestWays 29 = .ok (.iload 6, 2) := by decide +kernel
theorem dX6_digestWays_31 : decode cX6_digestWays 31 = .ok (.invokevirtual 242, 3) := by decide +kernel
theorem dX6_digestWays_34 : decode cX6_digestWays 34 = .ok (.i2l, 1) := by decide +kernel
theorem dX6_digestWays_35 : decode cX6_digestWays 35 = .ok (.ladd, 1) := by decide +kernel
theorem dX6_digestWays_36 : decode cX6_digestWays 36 = .ok (.lstore_n 3, 1) := by decide +kernel
theorem dX6_digestWays_37 : decode cX6_digestWays 37 = .ok (.iinc 6 1, 3) := by decide +kernel
theorem dX6_digestWays_40 : decode cX6_digestWays 40 = .ok (.goto (-25), 3) := by decide +kernel
theorem dX6_digestWays_43 : decode cX6_digestWays 43 = .ok (.iinc 5 1, 3) := by decide +kernel
theorem dX6_digestWays_46 : decode cX6_digestWays 46 = .ok (.goto (-41), 3) := by decide +kernel
