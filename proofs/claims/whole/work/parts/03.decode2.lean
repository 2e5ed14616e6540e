theorem dX9_init_0 : decode mX9_init.2.1 0 = .ok (.aload_n 0, 1) := by decide +kernel
theorem dX9_init_1 : decode mX9_init.2.1 1 = .ok (.invokespecial 3, 3) := by decide +kernel
theorem dX9_init_4 : decode mX9_init.2.1 4 = .ok (.aload_n 0, 1) := by decide +kernel
theorem dX9_init_5 : decode mX9_init.2.1 5 = .ok (.new 9, 3) := by decide +kernel
theorem dX9_init_8 : decode mX9_init.2.1 8 = .ok (.dup, 1) := by decide +kernel
theorem dX9_init_9 : decode mX9_init.2.1 9 = .ok (.invokespecial 11, 3) := by decide +kernel
theorem dX9_init_12 : decode mX9_init.2.1 12 = .ok (.putfield 12, 3) := by decide +kernel
theorem dX9_init_15 : decode mX9_init.2.1 15 = .ok (.aload_n 0, 1) := by decide +kernel
theorem dX9_init_16 : decode mX9_init.2.1 16 = .ok (.new 16, 3) := by decide +kernel
theorem dX9_init_19 : decode mX9_init.2.1 19 = .ok (.dup, 1) := by decide +kernel
theorem dX9_init_20 : decode mX9_init.2.1 20 = .ok (.invokespecial 18, 3) := by decide +kernel
theorem dX9_init_23 : decode mX9_init.2.1 23 = .ok (.putfield 19, 3) := by decide +kernel
theorem dX9_init_26 : decode mX9_init.2.1 26 = .ok (.aload_n 0, 1) := by decide +kernel
theorem dX9_init_27 : decode mX9_init.2.1 27 = .ok (.new 16, 3) := by decide +kernel
theorem dX9_init_30 : decode mX9_init.2.1 30 = .ok (.dup, 1) := by decide +kernel
theorem dX9_init_31 : decode mX9_init.2.1 31 = .ok (.invokespecial 18, 3) := by decide +kernel
theorem dX9_init_34 : decode mX9_init.2.1 34 = .ok (.putfield 23, 3) := by decide +kernel
theorem dX9_init_37 : decode mX9_init.2.1 37 = .ok (.aload_n 0, 1) := by decide +kernel
theorem dX9_init_38 : decode mX9_init.2.1 38 = .ok (.new 26, 3) := by decide +kernel
theorem dX9_init_41 : decode mX9_init.2.1 41 = .ok (.dup, 1) := by decide +kernel
theorem dX9_init_42 : decode mX9_init.2.1 42 = .ok (.aload_n 0, 1) := by decide +kernel
theorem dX9_init_43 : decode mX9_init.2.1 43 = .ok (.getfield 12, 3) := by decide +kernel
theorem dX9_init_46 : decode mX9_init.2.1 46 = .ok (.aload_n 0, 1) := by decide +kernel
theorem dX9_init_47 : decode mX9_init.2.1 47 = .ok (.getfield 23, 3) := by decide +kernel
theorem dX9_init_50 : decode mX9_init.2.1 50 = .ok (.invokespecial 28, 3) := by decide +kernel
theorem dX9_init_53 : decode mX9_init.2.1 53 = .ok (.putfield 31, 3) := by decide +kernel
theorem dX9_init_56 : decode mX9_init.2.1 56 = .ok (.aload_n 0, 1) := by decide +kernel
theorem dX9_init_57 : decode mX9_init.2.1 57 = .ok (.new 35, 3) := by decide +kernel
theorem dX9_init_60 : decode mX9_init.2.1 60 = .ok (.dup, 1) := by decide +kernel
theorem dX9_init_61 : decode mX9_init.2.1 61 = .ok (.invokespecial 37, 3) := by decide +kernel
theorem dX9_init_64 : decode mX9_init.2.1 64 = .ok (.putfield 38, 3) := by decide +kernel
theorem dX9_init_67 : decode mX9_init.2.1 67 = .ok (.aload_n 0, 1) := by decide +kernel
theorem dX9_init_68 : decode mX9_init.2.1 68 = .ok (.new 42, 3) := by decide +kernel
theorem dX9_init_71 : decode mX9_init.2.1 71 = .ok (.dup, 1) := by decide +kernel
theorem dX9_init_72 : decode mX9_init.2.1 72 = .ok (.invokespecial 44, 3) := by decide +kernel
theorem dX9_init_75 : decode mX9_init.2.1 75 = .ok (.putfield 45, 3) := by decide +kernel
theorem dX9_init_78 : decode mX9_init.2.1 78 = .ok (.aload_n 0, 1) := by decide +kernel
theorem dX9_init_79 : decode mX9_init.2.1 79 = .ok (.new 49, 3) := by decide +kernel
theorem dX9_init_82 : decode mX9_init.2.1 82 = .ok (.dup, 1) := by decide +kernel
theorem dX9_init_83 : decode mX9_init.2.1 83 = .ok (.aload_n 0, 1) := by decide +kernel
theorem dX9_init_84 : decode mX9_init.2.1 84 = .ok (.getfield 19, 3) := by decide +kernel
theorem dX9_init_87 : decode mX9_init.2.1 87 = .ok (.aload_n 0, 1) := by decide +kernel
theorem dX9_init_88 : decode mX9_init.2.1 88 = .ok (.getfield 45, 3) := by decide +kernel
theorem dX9_init_91 : decode mX9_init.2.1 91 = .ok (.invokespecial 51, 3) := by decide +kernel
theorem dX9_init_94 : decode mX9_init.2.1 94 = .ok (.putfield 54, 3) := by decide +kernel
theorem dX9_init_97 : decode mX9_init.2.1 97 = .ok (.aload_n 0, 1) := by decide +kernel
theorem dX9_init_98 : decode mX9_init.2.1 98 = .ok (.new 58, 3) := by decide +kernel
theorem dX9_init_101 : decode mX9_init.2.1 101 = .ok (.dup, 1) := by decide +kernel
theorem dX9_init_102 : decode mX9_init.2.1 102 = .ok (.aload_n 0, 1) := by decide +kernel
theorem dX9_init_103 : decode mX9_init.2.1 103 = .ok (.getfield 19, 3) := by decide +kernel
theorem dX9_init_106 : decode mX9_init.2.1 106 = .ok (.aload_n 0, 1) := by decide +kernel
theorem dX9_init_107 : decode mX9_init.2.1 107 = .ok (.getfield 45, 3) := by decide +kernel
theorem dX9_init_110 : decode mX9_init.2.1 110 = .ok (.aload_n 0, 1) := by decide +kernel
theorem dX9_init_111 : decode mX9_init.2.1 111 = .ok (.getfield 54, 3) := by decide +kernel
theorem dX9_init_114 : decode mX9_init.2.1 114 = .ok (.invokespecial 60, 3) := by decide +kernel
theorem dX9_init_117 : decode mX9_init.2.1 117 = .ok (.putfield 63, 3) := by decide +kernel
theorem dX9_init_120 : decode mX9_init.2.1 120 = .ok (.aload_n 0, 1) := by decide +kernel
theorem dX9_init_121 : decode mX9_init.2.1 121 = .ok (.new 67, 3) := by decide +kernel
theorem dX9_init_124 : decode mX9_init.2.1 124 = .ok (.dup, 1) := by decide +kernel
theorem dX9_init_125 : decode mX9_init.2.1 125 = .ok (.aload_n 0, 1) := by decide +kernel
theorem dX9_init_126 : decode mX9_init.2.1 126 = .ok (.getfield 19, 3) := by decide +kernel
theorem dX9_init_129 : decode mX9_init.2.1 129 = .ok (.aload_n 0, 1) := by decide +kernel
theorem dX9_init_130 : decode mX9_init.2.1 130 = .ok (.getfield 45, 3) := by decide +kernel
theorem dX9_init_133 : decode mX9_init.2.1 133 = .ok (.aload_n 0, 1) := by decide +kernel
theorem dX9_init_134 : decode mX9_init.2.1 134 = .ok (.getfield 63, 3) := by decide +kernel
theorem dX9_init_137 : decode mX9_init.2.1 137 = .ok (.invokespecial 69, 3) := by decide +kernel
theorem dX9_init_140 : decode mX9_init.2.1 140 = .ok (.putfield 72, 3) := by decide +kernel
theorem dX9_init_143 : decode mX9_init.2.1 143 = .ok (.return_, 1) := by decide +kernel
theorem dX9_type_0 : decode mX9_type.2.1 0 = .ok (.iload_n 1, 1) := by decide +kernel
theorem dX9_type_1 : decode mX9_type.2.1 1 = .ok (.sipush 128, 3) := by decide +kernel
theorem dX9_type_4 : decode mX9_type.2.1 4 = .ok (.invokestatic 76, 3) := by decide +kernel
theorem dX9_type_7 : decode mX9_type.2.1 7 = .ok (.ifCond .eq 8, 3) := by decide +kernel
theorem dX9_type_10 : decode mX9_type.2.1 10 = .ok (.aload_n 0, 1) := by decide +kernel
theorem dX9_type_11 : decode mX9_type.2.1 11 = .ok (.invokevirtual 80, 3) := by decide +kernel
theorem dX9_type_14 : decode mX9_type.2.1 14 = .ok (.ireturn, 1) := by decide +kernel
theorem dX9_type_15 : decode mX9_type.2.1 15 = .ok (.aload_n 0, 1) := by decide +kernel
theorem dX9_type_16 : decode mX9_type.2.1 16 = .ok (.getfield 12, 3) := by decide +kernel
theorem dX9_type_19 : decode mX9_type.2.1 19 = .ok (.invokevirtual 84, 3) := by decide +kernel
theorem dX9_type_22 : decode mX9_type.2.1 22 = .ok (.ifCond .eq 8, 3) := by decide +kernel
theorem dX9_type_25 : decode mX9_type.2.1 25 = .ok (.aload_n 0, 1) := by decide +kernel
theorem dX9_type_26 : decode mX9_type.2.1 26 = .ok (.invokevirtual 88, 3) := by decide +kernel
theorem dX9_type_29 : decode mX9_type.2.1 29 = .ok (.ireturn, 1) := by decide +kernel
theorem dX9_type_30 : decode mX9_type.2.1 30 = .ok (.aload_n 0, 1) := by decide +kernel
theorem dX9_type_31 : decode mX9_type.2.1 31 = .ok (.getfield 12, 3) := by decide +kernel
theorem dX9_type_34 : decode mX9_type.2.1 34 = .ok (.iload_n 1, 1) := by decide +kernel
theorem dX9_type_35 : decode mX9_type.2.1 35 = .ok (.invokevirtual 91, 3) := by decide +kernel
theorem dX9_type_38 : decode mX9_type.2.1 38 = .ok (.aload_n 0, 1) := by decide +kernel
theorem dX9_type_39 : decode mX9_type.2.1 39 = .ok (.getfield 12, 3) := by decide +kernel
theorem dX9_type_42 : decode mX9_type.2.1 42 = .ok (.invokevirtual 95, 3) := by decide +kernel
theorem dX9_type_45 : decode mX9_type.2.1 45 = .ok (.ireturn, 1) := by decide +kernel
theorem dX9_clear_0 : decode mX9_clear.2.1 0 = .ok (.aload_n 0, 1) := by decide +kernel
theorem dX9_clear_1 : decode mX9_clear.2.1 1 = .ok (.getfield 12, 3) := by decide +kernel
theorem dX9_clear_4 : decode mX9_clear.2.1 4 = .ok (.invokevirtual 95, 3) := by decide +kernel
theorem dX9_clear_7 : decode mX9_clear.2.1 7 = .ok (.istore_n 1, 1) := by decide +kernel
theorem dX9_clear_8 : decode mX9_clear.2.1 8 = .ok (.aload_n 0, 1) := by decide +kernel
theorem dX9_clear_9 : decode mX9_clear.2.1 9 = .ok (.getfield 12, 3) := by decide +kernel
theorem dX9_clear_12 : decode mX9_clear.2.1 12 = .ok (.invokevirtual 98, 3) := by decide +kernel
theorem dX9_clear_15 : decode mX9_clear.2.1 15 = .ok (.iload_n 1, 1) := by decide +kernel
theorem dX9_clear_16 : decode mX9_clear.2.1 16 = .ok (.ireturn, 1) := by decide +kernel
theorem dX9_reads_0 : decode mX9_reads.2.1 0 = .ok (.aload_n 0, 1) := by decide +kernel
theorem dX9_reads_1 : decode mX9_reads.2.1 1 = .ok (.getfield 31, 3) := by decide +kernel
theorem dX9_reads_4 : decode mX9_reads.2.1 4 = .ok (.invokevirtual 101, 3) := by decide +kernel
theorem dX9_reads_7 : decode mX9_reads.2.1 7 = .ok (.istore_n 1, 1) := by decide +kernel
theorem dX9_reads_8 : decode mX9_reads.2.1 8 = .ok (.iload_n 1, 1) := by decide +kernel
theorem dX9_reads_9 : decode mX9_reads.2.1 9 = .ok (.iconst (-1), 1) := by decide +kernel
theorem dX9_reads_10 : decode mX9_reads.2.1 10 = .ok (.if_icmp .eq 8, 3) := by decide +kernel
theorem dX9_reads_13 : decode mX9_reads.2.1 13 = .ok (.bipush (-10), 2) := by decide +kernel
theorem dX9_reads_15 : decode mX9_reads.2.1 15 = .ok (.iload_n 1, 1) := by decide +kernel
theorem dX9_reads_16 : decode mX9_reads.2.1 16 = .ok (.isub, 1) := by decide +kernel
theorem dX9_reads_17 : decode mX9_reads.2.1 17 = .ok (.ireturn, 1) := by decide +kernel
theorem dX9_reads_18 : decode mX9_reads.2.1 18 = .ok (.aload_n 0, 1) := by decide +kernel
theorem dX9_reads_19 : decode mX9_reads.2.1 19 = .ok (.invokevirtual 104, 3) := by decide +kernel
theorem dX9_reads_22 : decode mX9_reads.2.1 22 = .ok (.aload_n 0, 1) := by decide +kernel
theorem dX9_reads_23 : decode mX9_reads.2.1 23 = .ok (.getfield 19, 3) := by decide +kernel
theorem dX9_reads_26 : decode mX9_reads.2.1 26 = .ok (.aload_n 0, 1) := by decide +kernel
theorem dX9_reads_27 : decode mX9_reads.2.1 27 = .ok (.getfield 23, 3) := by decide +kernel
theorem dX9_reads_30 : decode mX9_reads.2.1 30 = .ok (.invokevirtual 107, 3) := by decide +kernel
theorem dX9_reads_33 : decode mX9_reads.2.1 33 = .ok (.aload_n 0, 1) := by decide +kernel
theorem dX9_reads_34 : decode mX9_reads.2.1 34 = .ok (.getfield 19, 3) := by decide +kernel
theorem dX9_reads_37 : decode mX9_reads.2.1 37 = .ok (.invokevirtual 111, 3) := by decide +kernel
theorem dX9_reads_40 : decode mX9_reads.2.1 40 = .ok (.ireturn, 1) := by decide +kernel
theorem dX9_drops_0 : decode mX9_drops.2.1 0 = .ok (.aload_n 0, 1) := by decide +kernel
theorem dX9_drops_1 : decode mX9_drops.2.1 1 = .ok (.getfield 19, 3) := by decide +kernel
theorem dX9_drops_4 : decode mX9_drops.2.1 4 = .ok (.iload_n 1, 1) := by decide +kernel
theorem dX9_drops_5 : decode mX9_drops.2.1 5 = .ok (.iload_n 2, 1) := by decide +kernel
theorem dX9_drops_6 : decode mX9_drops.2.1 6 = .ok (.invokevirtual 114, 3) := by decide +kernel
theorem dX9_drops_9 : decode mX9_drops.2.1 9 = .ok (.ifCond .ne 8, 3) := by decide +kernel
theorem dX9_drops_12 : decode mX9_drops.2.1 12 = .ok (.aload_n 0, 1) := by decide +kernel
theorem dX9_drops_13 : decode mX9_drops.2.1 13 = .ok (.invokevirtual 80, 3) := by decide +kernel
theorem dX9_drops_16 : decode mX9_drops.2.1 16 = .ok (.ireturn, 1) := by decide +kernel
theorem dX9_drops_17 : decode mX9_drops.2.1 17 = .ok (.aload_n 0, 1) := by decide +kernel
theorem dX9_drops_18 : decode mX9_drops.2.1 18 = .ok (.invokevirtual 104, 3) := by decide +kernel
theorem dX9_drops_21 : decode mX9_drops.2.1 21 = .ok (.aload_n 0, 1) := by decide +kernel
theorem dX9_drops_22 : decode mX9_drops.2.1 22 = .ok (.getfield 19, 3) := by decide +kernel
theorem dX9_drops_25 : decode mX9_drops.2.1 25 = .ok (.iload_n 1, 1) := by decide +kernel
theorem dX9_drops_26 : decode mX9_drops.2.1 26 = .ok (.iload_n 2, 1) := by decide +kernel
theorem dX9_drops_27 : decode mX9_drops.2.1 27 = .ok (.invokevirtual 117, 3) := by decide +kernel
theorem dX9_drops_30 : decode mX9_drops.2.1 30 = .ok (.aload_n 0, 1) := by decide +kernel
theorem dX9_drops_31 : decode mX9_drops.2.1 31 = .ok (.getfield 19, 3) := by decide +kernel
theorem dX9_drops_34 : decode mX9_drops.2.1 34 = .ok (.iload_n 1, 1) := by decide +kernel
theorem dX9_drops_35 : decode mX9_drops.2.1 35 = .ok (.invokevirtual 121, 3) := by decide +kernel
theorem dX9_drops_38 : decode mX9_drops.2.1 38 = .ok (.ireturn, 1) := by decide +kernel
theorem dX9_swaps_0 : decode mX9_swaps.2.1 0 = .ok (.aload_n 0, 1) := by decide +kernel
theorem dX9_swaps_1 : decode mX9_swaps.2.1 1 = .ok (.getfield 19, 3) := by decide +kernel
theorem dX9_swaps_4 : decode mX9_swaps.2.1 4 = .ok (.iload_n 1, 1) := by decide +kernel
theorem dX9_swaps_5 : decode mX9_swaps.2.1 5 = .ok (.iload_n 2, 1) := by decide +kernel
theorem dX9_swaps_6 : decode mX9_swaps.2.1 6 = .ok (.invokevirtual 114, 3) := by decide +kernel
theorem dX9_swaps_9 : decode mX9_swaps.2.1 9 = .ok (.ifCond .eq 17, 3) := by decide +kernel
theorem dX9_swaps_12 : decode mX9_swaps.2.1 12 = .ok (.aload_n 0, 1) := by decide +kernel
theorem dX9_swaps_13 : decode mX9_swaps.2.1 13 = .ok (.getfield 19, 3) := by decide +kernel
theorem dX9_swaps_16 : decode mX9_swaps.2.1 16 = .ok (.iload_n 1, 1) := by decide +kernel
theorem dX9_swaps_17 : decode mX9_swaps.2.1 17 = .ok (.iload_n 2, 1) := by decide +kernel
theorem dX9_swaps_18 : decode mX9_swaps.2.1 18 = .ok (.iconst 1, 1) := by decide +kernel
theorem dX9_swaps_19 : decode mX9_swaps.2.1 19 = .ok (.iadd, 1) := by decide +kernel
theorem dX9_swaps_20 : decode mX9_swaps.2.1 20 = .ok (.invokevirtual 114, 3) := by decide +kernel
theorem dX9_swaps_23 : decode mX9_swaps.2.1 23 = .ok (.ifCond .ne 8, 3) := by decide +kernel
theorem dX9_swaps_26 : decode mX9_swaps.2.1 26 = .ok (.aload_n 0, 1) := by decide +kernel
theorem dX9_swaps_27 : decode mX9_swaps.2.1 27 = .ok (.invokevirtual 80, 3) := by decide +kernel
theorem dX9_swaps_30 : decode mX9_swaps.2.1 30 = .ok (.ireturn, 1) := by decide +kernel
theorem dX9_swaps_31 : decode mX9_swaps.2.1 31 = .ok (.aload_n 0, 1) := by decide +kernel
theorem dX9_swaps_32 : decode mX9_swaps.2.1 32 = .ok (.invokevirtual 104, 3) := by decide +kernel
theorem dX9_swaps_35 : decode mX9_swaps.2.1 35 = .ok (.aload_n 0, 1) := by decide +kernel
theorem dX9_swaps_36 : decode mX9_swaps.2.1 36 = .ok (.getfield 19, 3) := by decide +kernel
theorem dX9_swaps_39 : decode mX9_swaps.2.1 39 = .ok (.iload_n 1, 1) := by decide +kernel
theorem dX9_swaps_40 : decode mX9_swaps.2.1 40 = .ok (.iload_n 2, 1) := by decide +kernel
theorem dX9_swaps_41 : decode mX9_swaps.2.1 41 = .ok (.invokevirtual 125, 3) := by decide +kernel
theorem dX9_swaps_44 : decode mX9_swaps.2.1 44 = .ok (.iconst 1, 1) := by decide +kernel
theorem dX9_swaps_45 : decode mX9_swaps.2.1 45 = .ok (.ireturn, 1) := by decide +kernel
theorem dX9_of_0 : decode mX9_of.2.1 0 = .ok (.aload_n 0, 1) := by decide +kernel
theorem dX9_of_1 : decode mX9_of.2.1 1 = .ok (.getfield 19, 3) := by decide +kernel
theorem dX9_of_4 : decode mX9_of.2.1 4 = .ok (.iload_n 1, 1) := by decide +kernel
theorem dX9_of_5 : decode mX9_of.2.1 5 = .ok (.invokevirtual 128, 3) := by decide +kernel
theorem dX9_of_8 : decode mX9_of.2.1 8 = .ok (.ifCond .eq 11, 3) := by decide +kernel
theorem dX9_of_11 : decode mX9_of.2.1 11 = .ok (.iload_n 2, 1) := by decide +kernel
theorem dX9_of_12 : decode mX9_of.2.1 12 = .ok (.iconst 5, 1) := by decide +kernel
theorem dX9_of_13 : decode mX9_of.2.1 13 = .ok (.invokestatic 76, 3) := by decide +kernel
theorem dX9_of_16 : decode mX9_of.2.1 16 = .ok (.ifCond .eq 8, 3) := by decide +kernel
theorem dX9_of_19 : decode mX9_of.2.1 19 = .ok (.aload_n 0, 1) := by decide +kernel
theorem dX9_of_20 : decode mX9_of.2.1 20 = .ok (.invokevirtual 80, 3) := by decide +kernel
theorem dX9_of_23 : decode mX9_of.2.1 23 = .ok (.ireturn, 1) := by decide +kernel
theorem dX9_of_24 : decode mX9_of.2.1 24 = .ok (.aload_n 0, 1) := by decide +kernel
theorem dX9_of_25 : decode mX9_of.2.1 25 = .ok (.invokevirtual 132, 3) := by decide +kernel
theorem dX9_of_28 : decode mX9_of.2.1 28 = .ok (.aload_n 0, 1) := by decide +kernel
theorem dX9_of_29 : decode mX9_of.2.1 29 = .ok (.iload_n 1, 1) := by decide +kernel
theorem dX9_of_30 : decode mX9_of.2.1 30 = .ok (.iload_n 2, 1) := by decide +kernel
theorem dX9_of_31 : decode mX9_of.2.1 31 = .ok (.invokevirtual 135, 3) := by decide +kernel
theorem dX9_of_34 : decode mX9_of.2.1 34 = .ok (.ireturn, 1) := by decide +kernel
theorem dX9_line_0 : decode mX9_line.2.1 0 = .ok (.aload_n 0, 1) := by decide +kernel
theorem dX9_line_1 : decode mX9_line.2.1 1 = .ok (.getfield 19, 3) := by decide +kernel
theorem dX9_line_4 : decode mX9_line.2.1 4 = .ok (.iload_n 1, 1) := by decide +kernel
theorem dX9_line_5 : decode mX9_line.2.1 5 = .ok (.iload_n 2, 1) := by decide +kernel
theorem dX9_line_6 : decode mX9_line.2.1 6 = .ok (.invokevirtual 114, 3) := by decide +kernel
theorem dX9_line_9 : decode mX9_line.2.1 9 = .ok (.ifCond .eq 11, 3) := by decide +kernel
theorem dX9_line_12 : decode mX9_line.2.1 12 = .ok (.iload_n 3, 1) := by decide +kernel
theorem dX9_line_13 : decode mX9_line.2.1 13 = .ok (.iconst 5, 1) := by decide +kernel
theorem dX9_line_14 : decode mX9_line.2.1 14 = .ok (.invokestatic 76, 3) := by decide +kernel
theorem dX9_line_17 : decode mX9_line.2.1 17 = .ok (.ifCond .eq 8, 3) := by decide +kernel
theorem dX9_line_20 : decode mX9_line.2.1 20 = .ok (.aload_n 0, 1) := by decide +kernel
theorem dX9_line_21 : decode mX9_line.2.1 21 = .ok (.invokevirtual 80, 3) := by decide +kernel
theorem dX9_line_24 : decode mX9_line.2.1 24 = .ok (.ireturn, 1) := by decide +kernel
theorem dX9_line_25 : decode mX9_line.2.1 25 = .ok (.aload_n 0, 1) := by decide +kernel
theorem dX9_line_26 : decode mX9_line.2.1 26 = .ok (.invokevirtual 132, 3) := by decide +kernel
theorem dX9_line_29 : decode mX9_line.2.1 29 = .ok (.aload_n 0, 1) := by decide +kernel
theorem dX9_line_30 : decode mX9_line.2.1 30 = .ok (.iload_n 1, 1) := by decide +kernel
theorem dX9_line_31 : decode mX9_line.2.1 31 = .ok (.iload_n 2, 1) := by decide +kernel
theorem dX9_line_32 : decode mX9_line.2.1 32 = .ok (.iload_n 3, 1) := by decide +kernel
theorem dX9_line_33 : decode mX9_line.2.1 33 = .ok (.invokevirtual 139, 3) := by decide +kernel
theorem dX9_line_36 : decode mX9_line.2.1 36 = .ok (.ireturn, 1) := by decide +kernel
theorem dX9_site_0 : decode mX9_site.2.1 0 = .ok (.aload_n 0, 1) := by decide +kernel
theorem dX9_site_1 : decode mX9_site.2.1 1 = .ok (.invokevirtual 132, 3) := by decide +kernel
theorem dX9_site_4 : decode mX9_site.2.1 4 = .ok (.iload_n 1, 1) := by decide +kernel
theorem dX9_site_5 : decode mX9_site.2.1 5 = .ok (.aload_n 0, 1) := by decide +kernel
theorem dX9_site_6 : decode mX9_site.2.1 6 = .ok (.getfield 45, 3) := by decide +kernel
theorem dX9_site_9 : decode mX9_site.2.1 9 = .ok (.invokevirtual 143, 3) := by decide +kernel
theorem dX9_site_12 : decode mX9_site.2.1 12 = .ok (.invokestatic 76, 3) := by decide +kernel
theorem dX9_site_15 : decode mX9_site.2.1 15 = .ok (.ifCond .ne 11, 3) := by decide +kernel
theorem dX9_site_18 : decode mX9_site.2.1 18 = .ok (.iload_n 2, 1) := by decide +kernel
theorem dX9_site_19 : decode mX9_site.2.1 19 = .ok (.iconst 4, 1) := by decide +kernel
theorem dX9_site_20 : decode mX9_site.2.1 20 = .ok (.invokestatic 76, 3) := by decide +kernel
theorem dX9_site_23 : decode mX9_site.2.1 23 = .ok (.ifCond .eq 8, 3) := by decide +kernel
theorem dX9_site_26 : decode mX9_site.2.1 26 = .ok (.aload_n 0, 1) := by decide +kernel
theorem dX9_site_27 : decode mX9_site.2.1 27 = .ok (.invokevirtual 80, 3) := by decide +kernel
theorem dX9_site_30 : decode mX9_site.2.1 30 = .ok (.ireturn, 1) := by decide +kernel
theorem dX9_site_31 : decode mX9_site.2.1 31 = .ok (.aload_n 0, 1) := by decide +kernel
theorem dX9_site_32 : decode mX9_site.2.1 32 = .ok (.iload_n 1, 1) := by decide +kernel
theorem dX9_site_33 : decode mX9_site.2.1 33 = .ok (.iload_n 2, 1) := by decide +kernel
theorem dX9_site_34 : decode mX9_site.2.1 34 = .ok (.invokevirtual 144, 3) := by decide +kernel
theorem dX9_site_37 : decode mX9_site.2.1 37 = .ok (.ireturn, 1) := by decide +kernel
theorem dX9_may_0 : decode mX9_may.2.1 0 = .ok (.aload_n 0, 1) := by decide +kernel
theorem dX9_may_1 : decode mX9_may.2.1 1 = .ok (.getfield 19, 3) := by decide +kernel
theorem dX9_may_4 : decode mX9_may.2.1 4 = .ok (.iload_n 1, 1) := by decide +kernel
theorem dX9_may_5 : decode mX9_may.2.1 5 = .ok (.invokevirtual 128, 3) := by decide +kernel
theorem dX9_may_8 : decode mX9_may.2.1 8 = .ok (.ifCond .eq 11, 3) := by decide +kernel
theorem dX9_may_11 : decode mX9_may.2.1 11 = .ok (.iload_n 2, 1) := by decide +kernel
theorem dX9_may_12 : decode mX9_may.2.1 12 = .ok (.iconst 4, 1) := by decide +kernel
theorem dX9_may_13 : decode mX9_may.2.1 13 = .ok (.invokestatic 76, 3) := by decide +kernel
theorem dX9_may_16 : decode mX9_may.2.1 16 = .ok (.ifCond .eq 8, 3) := by decide +kernel
theorem dX9_may_19 : decode mX9_may.2.1 19 = .ok (.aload_n 0, 1) := by decide +kernel
theorem dX9_may_20 : decode mX9_may.2.1 20 = .ok (.invokevirtual 80, 3) := by decide +kernel
theorem dX9_may_23 : decode mX9_may.2.1 23 = .ok (.ireturn, 1) := by decide +kernel
theorem dX9_may_24 : decode mX9_may.2.1 24 = .ok (.aload_n 0, 1) := by decide +kernel
theorem dX9_may_25 : decode mX9_may.2.1 25 = .ok (.invokevirtual 132, 3) := by decide +kernel
theorem dX9_may_28 : decode mX9_may.2.1 28 = .ok (.aload_n 0, 1) := by decide +kernel
theorem dX9_may_29 : decode mX9_may.2.1 29 = .ok (.getfield 54, 3) := by decide +kernel
theorem dX9_may_32 : decode mX9_may.2.1 32 = .ok (.iload_n 1, 1) := by decide +kernel
theorem dX9_may_33 : decode mX9_may.2.1 33 = .ok (.iload_n 2, 1) := by decide +kernel
theorem dX9_may_34 : decode mX9_may.2.1 34 = .ok (.invokevirtual 147, 3) := by decide +kernel
theorem dX9_may_37 : decode mX9_may.2.1 37 = .ok (.ireturn, 1) := by decide +kernel
theorem dX9_open_0 : decode mX9_open.2.1 0 = .ok (.aload_n 0, 1) := by decide +kernel
theorem dX9_open_1 : decode mX9_open.2.1 1 = .ok (.invokevirtual 132, 3) := by decide +kernel
theorem dX9_open_4 : decode mX9_open.2.1 4 = .ok (.aload_n 0, 1) := by decide +kernel
theorem dX9_open_5 : decode mX9_open.2.1 5 = .ok (.getfield 54, 3) := by decide +kernel
theorem dX9_open_8 : decode mX9_open.2.1 8 = .ok (.invokevirtual 150, 3) := by decide +kernel
theorem dX9_open_11 : decode mX9_open.2.1 11 = .ok (.ireturn, 1) := by decide +kernel
theorem dX9_reached_0 : decode mX9_reached.2.1 0 = .ok (.aload_n 0, 1) := by decide +kernel
theorem dX9_reached_1 : decode mX9_reached.2.1 1 = .ok (.getfield 19, 3) := by decide +kernel
theorem dX9_reached_4 : decode mX9_reached.2.1 4 = .ok (.iload_n 1, 1) := by decide +kernel
theorem dX9_reached_5 : decode mX9_reached.2.1 5 = .ok (.invokevirtual 128, 3) := by decide +kernel
theorem dX9_reached_8 : decode mX9_reached.2.1 8 = .ok (.ifCond .eq 11, 3) := by decide +kernel
theorem dX9_reached_11 : decode mX9_reached.2.1 11 = .ok (.iload_n 2, 1) := by decide +kernel
theorem dX9_reached_12 : decode mX9_reached.2.1 12 = .ok (.iconst 4, 1) := by decide +kernel
theorem dX9_reached_13 : decode mX9_reached.2.1 13 = .ok (.invokestatic 76, 3) := by decide +kernel
theorem dX9_reached_16 : decode mX9_reached.2.1 16 = .ok (.ifCond .eq 8, 3) := by decide +kernel
theorem dX9_reached_19 : decode mX9_reached.2.1 19 = .ok (.aload_n 0, 1) := by decide +kernel
theorem dX9_reached_20 : decode mX9_reached.2.1 20 = .ok (.invokevirtual 80, 3) := by decide +kernel
theorem dX9_reached_23 : decode mX9_reached.2.1 23 = .ok (.ireturn, 1) := by decide +kernel
theorem dX9_reached_24 : decode mX9_reached.2.1 24 = .ok (.aload_n 0, 1) := by decide +kernel
theorem dX9_reached_25 : decode mX9_reached.2.1 25 = .ok (.invokevirtual 132, 3) := by decide +kernel
theorem dX9_reached_28 : decode mX9_reached.2.1 28 = .ok (.aload_n 0, 1) := by decide +kernel
theorem dX9_reached_29 : decode mX9_reached.2.1 29 = .ok (.getfield 54, 3) := by decide +kernel
theorem dX9_reached_32 : decode mX9_reached.2.1 32 = .ok (.aload_n 0, 1) := by decide +kernel
theorem dX9_reached_33 : decode mX9_reached.2.1 33 = .ok (.getfield 54, 3) := by decide +kernel
theorem dX9_reached_36 : decode mX9_reached.2.1 36 = .ok (.iload_n 1, 1) := by decide +kernel
theorem dX9_reached_37 : decode mX9_reached.2.1 37 = .ok (.iload_n 2, 1) := by decide +kernel
theorem dX9_reached_38 : decode mX9_reached.2.1 38 = .ok (.invokevirtual 147, 3) := by decide +kernel
theorem dX9_reached_41 : decode mX9_reached.2.1 41 = .ok (.invokevirtual 153, 3) := by decide +kernel
theorem dX9_reached_44 : decode mX9_reached.2.1 44 = .ok (.ireturn, 1) := by decide +kernel
theorem dX9_fates_0 : decode mX9_fates.2.1 0 = .ok (.iload_n 1, 1) := by decide +kernel
theorem dX9_fates_1 : decode mX9_fates.2.1 1 = .ok (.iconst 3, 1) := by decide +kernel
theorem dX9_fates_2 : decode mX9_fates.2.1 2 = .ok (.invokestatic 76, 3) := by decide +kernel
theorem dX9_fates_5 : decode mX9_fates.2.1 5 = .ok (.ifCond .eq 8, 3) := by decide +kernel
theorem dX9_fates_8 : decode mX9_fates.2.1 8 = .ok (.aload_n 0, 1) := by decide +kernel
theorem dX9_fates_9 : decode mX9_fates.2.1 9 = .ok (.invokevirtual 80, 3) := by decide +kernel
theorem dX9_fates_12 : decode mX9_fates.2.1 12 = .ok (.ireturn, 1) := by decide +kernel
theorem dX9_fates_13 : decode mX9_fates.2.1 13 = .ok (.aload_n 0, 1) := by decide +kernel
theorem dX9_fates_14 : decode mX9_fates.2.1 14 = .ok (.invokevirtual 132, 3) := by decide +kernel
theorem dX9_fates_17 : decode mX9_fates.2.1 17 = .ok (.aload_n 0, 1) := by decide +kernel
theorem dX9_fates_18 : decode mX9_fates.2.1 18 = .ok (.getfield 63, 3) := by decide +kernel
theorem dX9_fates_21 : decode mX9_fates.2.1 21 = .ok (.iload_n 1, 1) := by decide +kernel
theorem dX9_fates_22 : decode mX9_fates.2.1 22 = .ok (.invokevirtual 156, 3) := by decide +kernel
theorem dX9_fates_25 : decode mX9_fates.2.1 25 = .ok (.ireturn, 1) := by decide +kernel
theorem dX9_run_0 : decode mX9_run.2.1 0 = .ok (.iload_n 1, 1) := by decide +kernel
theorem dX9_run_1 : decode mX9_run.2.1 1 = .ok (.bipush 6, 2) := by decide +kernel
theorem dX9_run_3 : decode mX9_run.2.1 3 = .ok (.invokestatic 76, 3) := by decide +kernel
theorem dX9_run_6 : decode mX9_run.2.1 6 = .ok (.ifCond .eq 8, 3) := by decide +kernel
theorem dX9_run_9 : decode mX9_run.2.1 9 = .ok (.aload_n 0, 1) := by decide +kernel
theorem dX9_run_10 : decode mX9_run.2.1 10 = .ok (.invokevirtual 80, 3) := by decide +kernel
theorem dX9_run_13 : decode mX9_run.2.1 13 = .ok (.ireturn, 1) := by decide +kernel
theorem dX9_run_14 : decode mX9_run.2.1 14 = .ok (.aload_n 0, 1) := by decide +kernel
theorem dX9_run_15 : decode mX9_run.2.1 15 = .ok (.invokevirtual 159, 3) := by decide +kernel
theorem dX9_run_18 : decode mX9_run.2.1 18 = .ok (.aload_n 0, 1) := by decide +kernel
theorem dX9_run_19 : decode mX9_run.2.1 19 = .ok (.iload_n 1, 1) := by decide +kernel
theorem dX9_run_20 : decode mX9_run.2.1 20 = .ok (.invokevirtual 162, 3) := by decide +kernel
theorem dX9_run_23 : decode mX9_run.2.1 23 = .ok (.ireturn, 1) := by decide +kernel
theorem dX9_ran_0 : decode mX9_ran.2.1 0 = .ok (.aload_n 0, 1) := by decide +kernel
theorem dX9_ran_1 : decode mX9_ran.2.1 1 = .ok (.invokevirtual 132, 3) := by decide +kernel
theorem dX9_ran_4 : decode mX9_ran.2.1 4 = .ok (.iload_n 1, 1) := by decide +kernel
theorem dX9_ran_5 : decode mX9_ran.2.1 5 = .ok (.aload_n 0, 1) := by decide +kernel
theorem dX9_ran_6 : decode mX9_ran.2.1 6 = .ok (.getfield 45, 3) := by decide +kernel
theorem dX9_ran_9 : decode mX9_ran.2.1 9 = .ok (.invokevirtual 143, 3) := by decide +kernel
theorem dX9_ran_12 : decode mX9_ran.2.1 12 = .ok (.invokestatic 76, 3) := by decide +kernel
theorem dX9_ran_15 : decode mX9_ran.2.1 15 = .ok (.ifCond .ne 11, 3) := by decide +kernel
theorem dX9_ran_18 : decode mX9_ran.2.1 18 = .ok (.iload_n 2, 1) := by decide +kernel
theorem dX9_ran_19 : decode mX9_ran.2.1 19 = .ok (.iconst 3, 1) := by decide +kernel
theorem dX9_ran_20 : decode mX9_ran.2.1 20 = .ok (.invokestatic 76, 3) := by decide +kernel
theorem dX9_ran_23 : decode mX9_ran.2.1 23 = .ok (.ifCond .eq 8, 3) := by decide +kernel
theorem dX9_ran_26 : decode mX9_ran.2.1 26 = .ok (.aload_n 0, 1) := by decide +kernel
theorem dX9_ran_27 : decode mX9_ran.2.1 27 = .ok (.invokevirtual 80, 3) := by decide +kernel
theorem dX9_ran_30 : decode mX9_ran.2.1 30 = .ok (.ireturn, 1) := by decide +kernel
theorem dX9_ran_31 : decode mX9_ran.2.1 31 = .ok (.aload_n 0, 1) := by decide +kernel
theorem dX9_ran_32 : decode mX9_ran.2.1 32 = .ok (.invokevirtual 159, 3) := by decide +kernel
theorem dX9_ran_35 : decode mX9_ran.2.1 35 = .ok (.aload_n 0, 1) := by decide +kernel
theorem dX9_ran_36 : decode mX9_ran.2.1 36 = .ok (.iload_n 1, 1) := by decide +kernel
theorem dX9_ran_37 : decode mX9_ran.2.1 37 = .ok (.iload_n 2, 1) := by decide +kernel
theorem dX9_ran_38 : decode mX9_ran.2.1 38 = .ok (.invokevirtual 165, 3) := by decide +kernel
theorem dX9_ran_41 : decode mX9_ran.2.1 41 = .ok (.ireturn, 1) := by decide +kernel
theorem dX9_held_0 : decode mX9_held.2.1 0 = .ok (.aload_n 0, 1) := by decide +kernel
theorem dX9_held_1 : decode mX9_held.2.1 1 = .ok (.invokevirtual 159, 3) := by decide +kernel
theorem dX9_held_4 : decode mX9_held.2.1 4 = .ok (.aload_n 0, 1) := by decide +kernel
theorem dX9_held_5 : decode mX9_held.2.1 5 = .ok (.getfield 72, 3) := by decide +kernel
theorem dX9_held_8 : decode mX9_held.2.1 8 = .ok (.invokevirtual 168, 3) := by decide +kernel
theorem dX9_held_11 : decode mX9_held.2.1 11 = .ok (.ireturn, 1) := by decide +kernel
theorem dX9_back_0 : decode mX9_back.2.1 0 = .ok (.aload_n 0, 1) := by decide +kernel
theorem dX9_back_1 : decode mX9_back.2.1 1 = .ok (.getfield 38, 3) := by decide +kernel
theorem dX9_back_4 : decode mX9_back.2.1 4 = .ok (.invokevirtual 171, 3) := by decide +kernel
theorem dX9_back_7 : decode mX9_back.2.1 7 = .ok (.ifCond .ne 8, 3) := by decide +kernel
theorem dX9_back_10 : decode mX9_back.2.1 10 = .ok (.aload_n 0, 1) := by decide +kernel
theorem dX9_back_11 : decode mX9_back.2.1 11 = .ok (.invokevirtual 172, 3) := by decide +kernel
theorem dX9_back_14 : decode mX9_back.2.1 14 = .ok (.ireturn, 1) := by decide +kernel
theorem dX9_back_15 : decode mX9_back.2.1 15 = .ok (.aload_n 0, 1) := by decide +kernel
theorem dX9_back_16 : decode mX9_back.2.1 16 = .ok (.getfield 38, 3) := by decide +kernel
theorem dX9_back_19 : decode mX9_back.2.1 19 = .ok (.aload_n 0, 1) := by decide +kernel
theorem dX9_back_20 : decode mX9_back.2.1 20 = .ok (.getfield 19, 3) := by decide +kernel
theorem dX9_back_23 : decode mX9_back.2.1 23 = .ok (.invokevirtual 175, 3) := by decide +kernel
theorem dX9_back_26 : decode mX9_back.2.1 26 = .ok (.aload_n 0, 1) := by decide +kernel
theorem dX9_back_27 : decode mX9_back.2.1 27 = .ok (.invokevirtual 178, 3) := by decide +kernel
theorem dX9_back_30 : decode mX9_back.2.1 30 = .ok (.aload_n 0, 1) := by decide +kernel
theorem dX9_back_31 : decode mX9_back.2.1 31 = .ok (.getfield 38, 3) := by decide +kernel
theorem dX9_back_34 : decode mX9_back.2.1 34 = .ok (.invokevirtual 171, 3) := by decide +kernel
theorem dX9_back_37 : decode mX9_back.2.1 37 = .ok (.ireturn, 1) := by decide +kernel
theorem dX9_told_0 : decode mX9_told.2.1 0 = .ok (.iload_n 1, 1) := by decide +kernel
theorem dX9_told_1 : decode mX9_told.2.1 1 = .ok (.bipush 7, 2) := by decide +kernel
theorem dX9_told_3 : decode mX9_told.2.1 3 = .ok (.invokestatic 76, 3) := by decide +kernel
theorem dX9_told_6 : decode mX9_told.2.1 6 = .ok (.ifCond .eq 8, 3) := by decide +kernel
theorem dX9_told_9 : decode mX9_told.2.1 9 = .ok (.aload_n 0, 1) := by decide +kernel
theorem dX9_told_10 : decode mX9_told.2.1 10 = .ok (.invokevirtual 80, 3) := by decide +kernel
theorem dX9_told_13 : decode mX9_told.2.1 13 = .ok (.ireturn, 1) := by decide +kernel
theorem dX9_told_14 : decode mX9_told.2.1 14 = .ok (.aload_n 0, 1) := by decide +kernel
theorem dX9_told_15 : decode mX9_told.2.1 15 = .ok (.invokevirtual 132, 3) := by decide +kernel
theorem dX9_told_18 : decode mX9_told.2.1 18 = .ok (.aload_n 0, 1) := by decide +kernel
theorem dX9_told_19 : decode mX9_told.2.1 19 = .ok (.iload_n 1, 1) := by decide +kernel
theorem dX9_told_20 : decode mX9_told.2.1 20 = .ok (.invokevirtual 181, 3) := by decide +kernel
theorem dX9_told_23 : decode mX9_told.2.1 23 = .ok (.ireturn, 1) := by decide +kernel
theorem dX9_digest_0 : decode mX9_digest.2.1 0 = .ok (.aload_n 0, 1) := by decide +kernel
theorem dX9_digest_1 : decode mX9_digest.2.1 1 = .ok (.invokevirtual 159, 3) := by decide +kernel
theorem dX9_digest_4 : decode mX9_digest.2.1 4 = .ok (.ldc2_w 184, 3) := by decide +kernel
theorem dX9_digest_7 : decode mX9_digest.2.1 7 = .ok (.lstore_n 1, 1) := by decide +kernel
theorem dX9_digest_8 : decode mX9_digest.2.1 8 = .ok (.iconst 0, 1) := by decide +kernel
theorem dX9_digest_9 : decode mX9_digest.2.1 9 = .ok (.istore_n 3, 1) := by decide +kernel
theorem dX9_digest_10 : decode mX9_digest.2.1 10 = .ok (.iload_n 3, 1) := by decide +kernel
theorem dX9_digest_11 : decode mX9_digest.2.1 11 = .ok (.bipush 7, 2) := by decide +kernel
theorem dX9_digest_13 : decode mX9_digest.2.1 13 = .ok (.if_icmp .ge 22, 3) := by decide +kernel
theorem dX9_digest_16 : decode mX9_digest.2.1 16 = .ok (.ldc2_w 186, 3) := by decide +kernel
theorem dX9_digest_19 : decode mX9_digest.2.1 19 = .ok (.lload_n 1, 1) := by decide +kernel
theorem dX9_digest_20 : decode mX9_digest.2.1 20 = .ok (.lmul, 1) := by decide +kernel
theorem dX9_digest_21 : decode mX9_digest.2.1 21 = .ok (.aload_n 0, 1) := by decide +kernel
theorem dX9_digest_22 : decode mX9_digest.2.1 22 = .ok (.iload_n 3, 1) := by decide +kernel
theorem dX9_digest_23 : decode mX9_digest.2.1 23 = .ok (.invokevirtual 181, 3) := by decide +kernel
theorem dX9_digest_26 : decode mX9_digest.2.1 26 = .ok (.i2l, 1) := by decide +kernel
theorem dX9_digest_27 : decode mX9_digest.2.1 27 = .ok (.ladd, 1) := by decide +kernel
theorem dX9_digest_28 : decode mX9_digest.2.1 28 = .ok (.lstore_n 1, 1) := by decide +kernel
theorem dX9_digest_29 : decode mX9_digest.2.1 29 = .ok (.iinc 3 1, 3) := by decide +kernel
theorem dX9_digest_32 : decode mX9_digest.2.1 32 = .ok (.goto (-22), 3) := by decide +kernel
theorem dX9_digest_35 : decode mX9_digest.2.1 35 = .ok (.iconst 0, 1) := by decide +kernel
theorem dX9_digest_36 : decode mX9_digest.2.1 36 = .ok (.istore_n 3, 1) := by decide +kernel
theorem dX9_digest_37 : decode mX9_digest.2.1 37 = .ok (.iload_n 3, 1) := by decide +kernel
theorem dX9_digest_38 : decode mX9_digest.2.1 38 = .ok (.aload_n 0, 1) := by decide +kernel
theorem dX9_digest_39 : decode mX9_digest.2.1 39 = .ok (.getfield 19, 3) := by decide +kernel
theorem dX9_digest_42 : decode mX9_digest.2.1 42 = .ok (.invokevirtual 111, 3) := by decide +kernel
theorem dX9_digest_45 : decode mX9_digest.2.1 45 = .ok (.if_icmp .ge 16, 3) := by decide +kernel
theorem dX9_digest_48 : decode mX9_digest.2.1 48 = .ok (.aload_n 0, 1) := by decide +kernel
theorem dX9_digest_49 : decode mX9_digest.2.1 49 = .ok (.lload_n 1, 1) := by decide +kernel
theorem dX9_digest_50 : decode mX9_digest.2.1 50 = .ok (.iload_n 3, 1) := by decide +kernel
theorem dX9_digest_51 : decode mX9_digest.2.1 51 = .ok (.invokevirtual 188, 3) := by decide +kernel
theorem dX9_digest_54 : decode mX9_digest.2.1 54 = .ok (.lstore_n 1, 1) := by decide +kernel
theorem dX9_digest_55 : decode mX9_digest.2.1 55 = .ok (.iinc 3 1, 3) := by decide +kernel
theorem dX9_digest_58 : decode mX9_digest.2.1 58 = .ok (.goto (-21), 3) := by decide +kernel
theorem dX9_digest_61 : decode mX9_digest.2.1 61 = .ok (.iconst 0, 1) := by decide +kernel
theorem dX9_digest_62 : decode mX9_digest.2.1 62 = .ok (.istore_n 3, 1) := by decide +kernel
theorem dX9_digest_63 : decode mX9_digest.2.1 63 = .ok (.iload_n 3, 1) := by decide +kernel
theorem dX9_digest_64 : decode mX9_digest.2.1 64 = .ok (.aload_n 0, 1) := by decide +kernel
theorem dX9_digest_65 : decode mX9_digest.2.1 65 = .ok (.getfield 45, 3) := by decide +kernel
theorem dX9_digest_68 : decode mX9_digest.2.1 68 = .ok (.invokevirtual 143, 3) := by decide +kernel
theorem dX9_digest_71 : decode mX9_digest.2.1 71 = .ok (.if_icmp .ge 16, 3) := by decide +kernel
theorem dX9_digest_74 : decode mX9_digest.2.1 74 = .ok (.aload_n 0, 1) := by decide +kernel
theorem dX9_digest_75 : decode mX9_digest.2.1 75 = .ok (.lload_n 1, 1) := by decide +kernel
theorem dX9_digest_76 : decode mX9_digest.2.1 76 = .ok (.iload_n 3, 1) := by decide +kernel
theorem dX9_digest_77 : decode mX9_digest.2.1 77 = .ok (.invokevirtual 192, 3) := by decide +kernel
theorem dX9_digest_80 : decode mX9_digest.2.1 80 = .ok (.lstore_n 1, 1) := by decide +kernel
theorem dX9_digest_81 : decode mX9_digest.2.1 81 = .ok (.iinc 3 1, 3) := by decide +kernel
theorem dX9_digest_84 : decode mX9_digest.2.1 84 = .ok (.goto (-21), 3) := by decide +kernel
theorem dX9_digest_87 : decode mX9_digest.2.1 87 = .ok (.ldc2_w 186, 3) := by decide +kernel
theorem dX9_digest_90 : decode mX9_digest.2.1 90 = .ok (.lload_n 1, 1) := by decide +kernel
theorem dX9_digest_91 : decode mX9_digest.2.1 91 = .ok (.lmul, 1) := by decide +kernel
theorem dX9_digest_92 : decode mX9_digest.2.1 92 = .ok (.aload_n 0, 1) := by decide +kernel
theorem dX9_digest_93 : decode mX9_digest.2.1 93 = .ok (.getfield 54, 3) := by decide +kernel
theorem dX9_digest_96 : decode mX9_digest.2.1 96 = .ok (.invokevirtual 150, 3) := by decide +kernel
theorem dX9_digest_99 : decode mX9_digest.2.1 99 = .ok (.i2l, 1) := by decide +kernel
theorem dX9_digest_100 : decode mX9_digest.2.1 100 = .ok (.ladd, 1) := by decide +kernel
theorem dX9_digest_101 : decode mX9_digest.2.1 101 = .ok (.lstore_n 1, 1) := by decide +kernel
theorem dX9_digest_102 : decode mX9_digest.2.1 102 = .ok (.iconst 0, 1) := by decide +kernel
theorem dX9_digest_103 : decode mX9_digest.2.1 103 = .ok (.istore_n 3, 1) := by decide +kernel
theorem dX9_digest_104 : decode mX9_digest.2.1 104 = .ok (.iload_n 3, 1) := by decide +kernel
theorem dX9_digest_105 : decode mX9_digest.2.1 105 = .ok (.bipush 6, 2) := by decide +kernel
theorem dX9_digest_107 : decode mX9_digest.2.1 107 = .ok (.if_icmp .ge 22, 3) := by decide +kernel
theorem dX9_digest_110 : decode mX9_digest.2.1 110 = .ok (.ldc2_w 186, 3) := by decide +kernel
theorem dX9_digest_113 : decode mX9_digest.2.1 113 = .ok (.lload_n 1, 1) := by decide +kernel
theorem dX9_digest_114 : decode mX9_digest.2.1 114 = .ok (.lmul, 1) := by decide +kernel
theorem dX9_digest_115 : decode mX9_digest.2.1 115 = .ok (.aload_n 0, 1) := by decide +kernel
theorem dX9_digest_116 : decode mX9_digest.2.1 116 = .ok (.iload_n 3, 1) := by decide +kernel
theorem dX9_digest_117 : decode mX9_digest.2.1 117 = .ok (.invokevirtual 162, 3) := by decide +kernel
theorem dX9_digest_120 : decode mX9_digest.2.1 120 = .ok (.i2l, 1) := by decide +kernel
theorem dX9_digest_121 : decode mX9_digest.2.1 121 = .ok (.ladd, 1) := by decide +kernel
theorem dX9_digest_122 : decode mX9_digest.2.1 122 = .ok (.lstore_n 1, 1) := by decide +kernel
theorem dX9_digest_123 : decode mX9_digest.2.1 123 = .ok (.iinc 3 1, 3) := by decide +kernel
theorem dX9_digest_126 : decode mX9_digest.2.1 126 = .ok (.goto (-22), 3) := by decide +kernel
theorem dX9_digest_129 : decode mX9_digest.2.1 129 = .ok (.ldc2_w 186, 3) := by decide +kernel
theorem dX9_digest_132 : decode mX9_digest.2.1 132 = .ok (.lload_n 1, 1) := by decide +kernel
theorem dX9_digest_133 : decode mX9_digest.2.1 133 = .ok (.lmul, 1) := by decide +kernel
theorem dX9_digest_134 : decode mX9_digest.2.1 134 = .ok (.aload_n 0, 1) := by decide +kernel
theorem dX9_digest_135 : decode mX9_digest.2.1 135 = .ok (.getfield 72, 3) := by decide +kernel
theorem dX9_digest_138 : decode mX9_digest.2.1 138 = .ok (.invokevirtual 168, 3) := by decide +kernel
theorem dX9_digest_141 : decode mX9_digest.2.1 141 = .ok (.i2l, 1) := by decide +kernel
theorem dX9_digest_142 : decode mX9_digest.2.1 142 = .ok (.ladd, 1) := by decide +kernel
theorem dX9_digest_143 : decode mX9_digest.2.1 143 = .ok (.lreturn, 1) := by decide +kernel
theorem dX9_digestWithMethod_0 : decode mX9_digestWithMethod.2.1 0 = .ok (.lload_n 1, 1) := by decide +kernel
theorem dX9_digestWithMethod_1 : decode mX9_digestWithMethod.2.1 1 = .ok (.lstore 4, 2) := by decide +kernel
theorem dX9_digestWithMethod_3 : decode mX9_digestWithMethod.2.1 3 = .ok (.iconst 0, 1) := by decide +kernel
theorem dX9_digestWithMethod_4 : decode mX9_digestWithMethod.2.1 4 = .ok (.istore 6, 2) := by decide +kernel
theorem dX9_digestWithMethod_6 : decode mX9_digestWithMethod.2.1 6 = .ok (.iload 6, 2) := by decide +kernel
theorem dX9_digestWithMethod_8 : decode mX9_digestWithMethod.2.1 8 = .ok (.iconst 5, 1) := by decide +kernel
theorem dX9_digestWithMethod_9 : decode mX9_digestWithMethod.2.1 9 = .ok (.if_icmp .ge 26, 3) := by decide +kernel
theorem dX9_digestWithMethod_12 : decode mX9_digestWithMethod.2.1 12 = .ok (.ldc2_w 186, 3) := by decide +kernel
theorem dX9_digestWithMethod_15 : decode mX9_digestWithMethod.2.1 15 = .ok (.lload 4, 2) := by decide +kernel
theorem dX9_digestWithMethod_17 : decode mX9_digestWithMethod.2.1 17 = .ok (.lmul, 1) := by decide +kernel
theorem dX9_digestWithMethod_18 : decode mX9_digestWithMethod.2.1 18 = .ok (.aload_n 0, 1) := by decide +kernel
theorem dX9_digestWithMethod_19 : decode mX9_digestWithMethod.2.1 19 = .ok (.iload_n 3, 1) := by decide +kernel
theorem dX9_digestWithMethod_20 : decode mX9_digestWithMethod.2.1 20 = .ok (.iload 6, 2) := by decide +kernel
theorem dX9_digestWithMethod_22 : decode mX9_digestWithMethod.2.1 22 = .ok (.invokevirtual 135, 3) := by decide +kernel
theorem dX9_digestWithMethod_25 : decode mX9_digestWithMethod.2.1 25 = .ok (.i2l, 1) := by decide +kernel
theorem dX9_digestWithMethod_26 : decode mX9_digestWithMethod.2.1 26 = .ok (.ladd, 1) := by decide +kernel
theorem dX9_digestWithMethod_27 : decode mX9_digestWithMethod.2.1 27 = .ok (.lstore 4, 2) := by decide +kernel
theorem dX9_digestWithMethod_29 : decode mX9_digestWithMethod.2.1 29 = .ok (.iinc 6 1, 3) := by decide +kernel
theorem dX9_digestWithMethod_32 : decode mX9_digestWithMethod.2.1 32 = .ok (.goto (-26), 3) := by decide +kernel
theorem dX9_digestWithMethod_35 : decode mX9_digestWithMethod.2.1 35 = .ok (.iconst 0, 1) := by decide +kernel
theorem dX9_digestWithMethod_36 : decode mX9_digestWithMethod.2.1 36 = .ok (.istore 6, 2) := by decide +kernel
theorem dX9_digestWithMethod_38 : decode mX9_digestWithMethod.2.1 38 = .ok (.iload 6, 2) := by decide +kernel
theorem dX9_digestWithMethod_40 : decode mX9_digestWithMethod.2.1 40 = .ok (.iconst 4, 1) := by decide +kernel
theorem dX9_digestWithMethod_41 : decode mX9_digestWithMethod.2.1 41 = .ok (.if_icmp .ge 29, 3) := by decide +kernel
theorem dX9_digestWithMethod_44 : decode mX9_digestWithMethod.2.1 44 = .ok (.ldc2_w 186, 3) := by decide +kernel
theorem dX9_digestWithMethod_47 : decode mX9_digestWithMethod.2.1 47 = .ok (.lload 4, 2) := by decide +kernel
theorem dX9_digestWithMethod_49 : decode mX9_digestWithMethod.2.1 49 = .ok (.lmul, 1) := by decide +kernel
theorem dX9_digestWithMethod_50 : decode mX9_digestWithMethod.2.1 50 = .ok (.aload_n 0, 1) := by decide +kernel
theorem dX9_digestWithMethod_51 : decode mX9_digestWithMethod.2.1 51 = .ok (.getfield 54, 3) := by decide +kernel
theorem dX9_digestWithMethod_54 : decode mX9_digestWithMethod.2.1 54 = .ok (.iload_n 3, 1) := by decide +kernel
theorem dX9_digestWithMethod_55 : decode mX9_digestWithMethod.2.1 55 = .ok (.iload 6, 2) := by decide +kernel
theorem dX9_digestWithMethod_57 : decode mX9_digestWithMethod.2.1 57 = .ok (.invokevirtual 147, 3) := by decide +kernel
theorem dX9_digestWithMethod_60 : decode mX9_digestWithMethod.2.1 60 = .ok (.i2l, 1) := by decide +kernel
theorem dX9_digestWithMethod_61 : decode mX9_digestWithMethod.2.1 61 = .ok (.ladd, 1) := by decide +kernel
theorem dX9_digestWithMethod_62 : decode mX9_digestWithMethod.2.1 62 = .ok (.lstore 4, 2) := by decide +kernel
theorem dX9_digestWithMethod_64 : decode mX9_digestWithMethod.2.1 64 = .ok (.iinc 6 1, 3) := by decide +kernel
theorem dX9_digestWithMethod_67 : decode mX9_digestWithMethod.2.1 67 = .ok (.goto (-29), 3) := by decide +kernel
theorem dX9_digestWithMethod_70 : decode mX9_digestWithMethod.2.1 70 = .ok (.iconst 0, 1) := by decide +kernel
theorem dX9_digestWithMethod_71 : decode mX9_digestWithMethod.2.1 71 = .ok (.istore 6, 2) := by decide +kernel
theorem dX9_digestWithMethod_73 : decode mX9_digestWithMethod.2.1 73 = .ok (.iload 6, 2) := by decide +kernel
theorem dX9_digestWithMethod_75 : decode mX9_digestWithMethod.2.1 75 = .ok (.aload_n 0, 1) := by decide +kernel
theorem dX9_digestWithMethod_76 : decode mX9_digestWithMethod.2.1 76 = .ok (.getfield 19, 3) := by decide +kernel
theorem dX9_digestWithMethod_79 : decode mX9_digestWithMethod.2.1 79 = .ok (.iload_n 3, 1) := by decide +kernel
theorem dX9_digestWithMethod_80 : decode mX9_digestWithMethod.2.1 80 = .ok (.invokevirtual 121, 3) := by decide +kernel
theorem dX9_digestWithMethod_83 : decode mX9_digestWithMethod.2.1 83 = .ok (.if_icmp .ge 43, 3) := by decide +kernel
theorem dX9_digestWithMethod_86 : decode mX9_digestWithMethod.2.1 86 = .ok (.iconst 0, 1) := by decide +kernel
theorem dX9_digestWithMethod_87 : decode mX9_digestWithMethod.2.1 87 = .ok (.istore 7, 2) := by decide +kernel
theorem dX9_digestWithMethod_89 : decode mX9_digestWithMethod.2.1 89 = .ok (.iload 7, 2) := by decide +kernel
theorem dX9_digestWithMethod_91 : decode mX9_digestWithMethod.2.1 91 = .ok (.iconst 5, 1) := by decide +kernel
theorem dX9_digestWithMethod_92 : decode mX9_digestWithMethod.2.1 92 = .ok (.if_icmp .ge 28, 3) := by decide +kernel
theorem dX9_digestWithMethod_95 : decode mX9_digestWithMethod.2.1 95 = .ok (.ldc2_w 186, 3) := by decide +kernel
theorem dX9_digestWithMethod_98 : decode mX9_digestWithMethod.2.1 98 = .ok (.lload 4, 2) := by decide +kernel
theorem dX9_digestWithMethod_100 : decode mX9_digestWithMethod.2.1 100 = .ok (.lmul, 1) := by decide +kernel
theorem dX9_digestWithMethod_101 : decode mX9_digestWithMethod.2.1 101 = .ok (.aload_n 0, 1) := by decide +kernel
theorem dX9_digestWithMethod_102 : decode mX9_digestWithMethod.2.1 102 = .ok (.iload_n 3, 1) := by decide +kernel
theorem dX9_digestWithMethod_103 : decode mX9_digestWithMethod.2.1 103 = .ok (.iload 6, 2) := by decide +kernel
theorem dX9_digestWithMethod_105 : decode mX9_digestWithMethod.2.1 105 = .ok (.iload 7, 2) := by decide +kernel
theorem dX9_digestWithMethod_107 : decode mX9_digestWithMethod.2.1 107 = .ok (.invokevirtual 139, 3) := by decide +kernel
theorem dX9_digestWithMethod_110 : decode mX9_digestWithMethod.2.1 110 = .ok (.i2l, 1) := by decide +kernel
theorem dX9_digestWithMethod_111 : decode mX9_digestWithMethod.2.1 111 = .ok (.ladd, 1) := by decide +kernel
theorem dX9_digestWithMethod_112 : decode mX9_digestWithMethod.2.1 112 = .ok (.lstore 4, 2) := by decide +kernel
theorem dX9_digestWithMethod_114 : decode mX9_digestWithMethod.2.1 114 = .ok (.iinc 7 1, 3) := by decide +kernel
theorem dX9_digestWithMethod_117 : decode mX9_digestWithMethod.2.1 117 = .ok (.goto (-28), 3) := by decide +kernel
theorem dX9_digestWithMethod_120 : decode mX9_digestWithMethod.2.1 120 = .ok (.iinc 6 1, 3) := by decide +kernel
theorem dX9_digestWithMethod_123 : decode mX9_digestWithMethod.2.1 123 = .ok (.goto (-50), 3) := by decide +kernel
theorem dX9_digestWithMethod_126 : decode mX9_digestWithMethod.2.1 126 = .ok (.lload 4, 2) := by decide +kernel
theorem dX9_digestWithMethod_128 : decode mX9_digestWithMethod.2.1 128 = .ok (.lreturn, 1) := by decide +kernel
theorem dX9_digestWithSite_0 : decode mX9_digestWithSite.2.1 0 = .ok (.lload_n 1, 1) := by decide +kernel
theorem dX9_digestWithSite_1 : decode mX9_digestWithSite.2.1 1 = .ok (.lstore 4, 2) := by decide +kernel
theorem dX9_digestWithSite_3 : decode mX9_digestWithSite.2.1 3 = .ok (.iconst 0, 1) := by decide +kernel
theorem dX9_digestWithSite_4 : decode mX9_digestWithSite.2.1 4 = .ok (.istore 6, 2) := by decide +kernel
theorem dX9_digestWithSite_6 : decode mX9_digestWithSite.2.1 6 = .ok (.iload 6, 2) := by decide +kernel
theorem dX9_digestWithSite_8 : decode mX9_digestWithSite.2.1 8 = .ok (.iconst 4, 1) := by decide +kernel
theorem dX9_digestWithSite_9 : decode mX9_digestWithSite.2.1 9 = .ok (.if_icmp .ge 26, 3) := by decide +kernel
theorem dX9_digestWithSite_12 : decode mX9_digestWithSite.2.1 12 = .ok (.ldc2_w 186, 3) := by decide +kernel
theorem dX9_digestWithSite_15 : decode mX9_digestWithSite.2.1 15 = .ok (.lload 4, 2) := by decide +kernel
theorem dX9_digestWithSite_17 : decode mX9_digestWithSite.2.1 17 = .ok (.lmul, 1) := by decide +kernel
theorem dX9_digestWithSite_18 : decode mX9_digestWithSite.2.1 18 = .ok (.aload_n 0, 1) := by decide +kernel
theorem dX9_digestWithSite_19 : decode mX9_digestWithSite.2.1 19 = .ok (.iload_n 3, 1) := by decide +kernel
theorem dX9_digestWithSite_20 : decode mX9_digestWithSite.2.1 20 = .ok (.iload 6, 2) := by decide +kernel
theorem dX9_digestWithSite_22 : decode mX9_digestWithSite.2.1 22 = .ok (.invokevirtual 144, 3) := by decide +kernel
theorem dX9_digestWithSite_25 : decode mX9_digestWithSite.2.1 25 = .ok (.i2l, 1) := by decide +kernel
theorem dX9_digestWithSite_26 : decode mX9_digestWithSite.2.1 26 = .ok (.ladd, 1) := by decide +kernel
theorem dX9_digestWithSite_27 : decode mX9_digestWithSite.2.1 27 = .ok (.lstore 4, 2) := by decide +kernel
theorem dX9_digestWithSite_29 : decode mX9_digestWithSite.2.1 29 = .ok (.iinc 6 1, 3) := by decide +kernel
theorem dX9_digestWithSite_32 : decode mX9_digestWithSite.2.1 32 = .ok (.goto (-26), 3) := by decide +kernel
theorem dX9_digestWithSite_35 : decode mX9_digestWithSite.2.1 35 = .ok (.iconst 0, 1) := by decide +kernel
theorem dX9_digestWithSite_36 : decode mX9_digestWithSite.2.1 36 = .ok (.istore 6, 2) := by decide +kernel
theorem dX9_digestWithSite_38 : decode mX9_digestWithSite.2.1 38 = .ok (.iload 6, 2) := by decide +kernel
theorem dX9_digestWithSite_40 : decode mX9_digestWithSite.2.1 40 = .ok (.iconst 3, 1) := by decide +kernel
theorem dX9_digestWithSite_41 : decode mX9_digestWithSite.2.1 41 = .ok (.if_icmp .ge 26, 3) := by decide +kernel
theorem dX9_digestWithSite_44 : decode mX9_digestWithSite.2.1 44 = .ok (.ldc2_w 186, 3) := by decide +kernel
theorem dX9_digestWithSite_47 : decode mX9_digestWithSite.2.1 47 = .ok (.lload 4, 2) := by decide +kernel
theorem dX9_digestWithSite_49 : decode mX9_digestWithSite.2.1 49 = .ok (.lmul, 1) := by decide +kernel
theorem dX9_digestWithSite_50 : decode mX9_digestWithSite.2.1 50 = .ok (.aload_n 0, 1) := by decide +kernel
theorem dX9_digestWithSite_51 : decode mX9_digestWithSite.2.1 51 = .ok (.iload_n 3, 1) := by decide +kernel
theorem dX9_digestWithSite_52 : decode mX9_digestWithSite.2.1 52 = .ok (.iload 6, 2) := by decide +kernel
theorem dX9_digestWithSite_54 : decode mX9_digestWithSite.2.1 54 = .ok (.invokevirtual 165, 3) := by decide +kernel
theorem dX9_digestWithSite_57 : decode mX9_digestWithSite.2.1 57 = .ok (.i2l, 1) := by decide +kernel
theorem dX9_digestWithSite_58 : decode mX9_digestWithSite.2.1 58 = .ok (.ladd, 1) := by decide +kernel
theorem dX9_digestWithSite_59 : decode mX9_digestWithSite.2.1 59 = .ok (.lstore 4, 2) := by decide +kernel
theorem dX9_digestWithSite_61 : decode mX9_digestWithSite.2.1 61 = .ok (.iinc 6 1, 3) := by decide +kernel
theorem dX9_digestWithSite_64 : decode mX9_digestWithSite.2.1 64 = .ok (.goto (-26), 3) := by decide +kernel
theorem dX9_digestWithSite_67 : decode mX9_digestWithSite.2.1 67 = .ok (.lload 4, 2) := by decide +kernel
theorem dX9_digestWithSite_69 : decode mX9_digestWithSite.2.1 69 = .ok (.lreturn, 1) := by decide +kernel
theorem dX9_ofMethod_0 : decode mX9_ofMethod.2.1 0 = .ok (.iload_n 2, 1) := by decide +kernel
theorem dX9_ofMethod_1 : decode mX9_ofMethod.2.1 1 = .ok (.tableswitch 67 0 3 #[31, 40, 49, 58], 31) := by decide +kernel
theorem dX9_ofMethod_32 : decode mX9_ofMethod.2.1 32 = .ok (.aload_n 0, 1) := by decide +kernel
theorem dX9_ofMethod_33 : decode mX9_ofMethod.2.1 33 = .ok (.getfield 19, 3) := by decide +kernel
theorem dX9_ofMethod_36 : decode mX9_ofMethod.2.1 36 = .ok (.iload_n 1, 1) := by decide +kernel
theorem dX9_ofMethod_37 : decode mX9_ofMethod.2.1 37 = .ok (.invokevirtual 121, 3) := by decide +kernel
theorem dX9_ofMethod_40 : decode mX9_ofMethod.2.1 40 = .ok (.ireturn, 1) := by decide +kernel
theorem dX9_ofMethod_41 : decode mX9_ofMethod.2.1 41 = .ok (.aload_n 0, 1) := by decide +kernel
theorem dX9_ofMethod_42 : decode mX9_ofMethod.2.1 42 = .ok (.getfield 45, 3) := by decide +kernel
theorem dX9_ofMethod_45 : decode mX9_ofMethod.2.1 45 = .ok (.iload_n 1, 1) := by decide +kernel
theorem dX9_ofMethod_46 : decode mX9_ofMethod.2.1 46 = .ok (.invokevirtual 195, 3) := by decide +kernel
theorem dX9_ofMethod_49 : decode mX9_ofMethod.2.1 49 = .ok (.ireturn, 1) := by decide +kernel
theorem dX9_ofMethod_50 : decode mX9_ofMethod.2.1 50 = .ok (.aload_n 0, 1) := by decide +kernel
theorem dX9_ofMethod_51 : decode mX9_ofMethod.2.1 51 = .ok (.getfield 63, 3) := by decide +kernel
theorem dX9_ofMethod_54 : decode mX9_ofMethod.2.1 54 = .ok (.iload_n 1, 1) := by decide +kernel
theorem dX9_ofMethod_55 : decode mX9_ofMethod.2.1 55 = .ok (.invokevirtual 198, 3) := by decide +kernel
theorem dX9_ofMethod_58 : decode mX9_ofMethod.2.1 58 = .ok (.ireturn, 1) := by decide +kernel
theorem dX9_ofMethod_59 : decode mX9_ofMethod.2.1 59 = .ok (.aload_n 0, 1) := by decide +kernel
theorem dX9_ofMethod_60 : decode mX9_ofMethod.2.1 60 = .ok (.getfield 63, 3) := by decide +kernel
theorem dX9_ofMethod_63 : decode mX9_ofMethod.2.1 63 = .ok (.iload_n 1, 1) := by decide +kernel
theorem dX9_ofMethod_64 : decode mX9_ofMethod.2.1 64 = .ok (.invokevirtual 201, 3) := by decide +kernel
theorem dX9_ofMethod_67 : decode mX9_ofMethod.2.1 67 = .ok (.ireturn, 1) := by decide +kernel
theorem dX9_ofMethod_68 : decode mX9_ofMethod.2.1 68 = .ok (.aload_n 0, 1) := by decide +kernel
theorem dX9_ofMethod_69 : decode mX9_ofMethod.2.1 69 = .ok (.getfield 19, 3) := by decide +kernel
theorem dX9_ofMethod_72 : decode mX9_ofMethod.2.1 72 = .ok (.iload_n 1, 1) := by decide +kernel
theorem dX9_ofMethod_73 : decode mX9_ofMethod.2.1 73 = .ok (.invokevirtual 204, 3) := by decide +kernel
theorem dX9_ofMethod_76 : decode mX9_ofMethod.2.1 76 = .ok (.ireturn, 1) := by decide +kernel
theorem dX9_ofLine_0 : decode mX9_ofLine.2.1 0 = .ok (.iload_n 3, 1) := by decide +kernel
theorem dX9_ofLine_1 : decode mX9_ofLine.2.1 1 = .ok (.tableswitch 105 0 3 #[31, 41, 51, 77], 31) := by decide +kernel
theorem dX9_ofLine_32 : decode mX9_ofLine.2.1 32 = .ok (.aload_n 0, 1) := by decide +kernel
theorem dX9_ofLine_33 : decode mX9_ofLine.2.1 33 = .ok (.getfield 19, 3) := by decide +kernel
theorem dX9_ofLine_36 : decode mX9_ofLine.2.1 36 = .ok (.iload_n 1, 1) := by decide +kernel
theorem dX9_ofLine_37 : decode mX9_ofLine.2.1 37 = .ok (.iload_n 2, 1) := by decide +kernel
theorem dX9_ofLine_38 : decode mX9_ofLine.2.1 38 = .ok (.invokevirtual 207, 3) := by decide +kernel
theorem dX9_ofLine_41 : decode mX9_ofLine.2.1 41 = .ok (.ireturn, 1) := by decide +kernel
theorem dX9_ofLine_42 : decode mX9_ofLine.2.1 42 = .ok (.aload_n 0, 1) := by decide +kernel
theorem dX9_ofLine_43 : decode mX9_ofLine.2.1 43 = .ok (.getfield 19, 3) := by decide +kernel
theorem dX9_ofLine_46 : decode mX9_ofLine.2.1 46 = .ok (.iload_n 1, 1) := by decide +kernel
theorem dX9_ofLine_47 : decode mX9_ofLine.2.1 47 = .ok (.iload_n 2, 1) := by decide +kernel
theorem dX9_ofLine_48 : decode mX9_ofLine.2.1 48 = .ok (.invokevirtual 210, 3) := by decide +kernel
theorem dX9_ofLine_51 : decode mX9_ofLine.2.1 51 = .ok (.ireturn, 1) := by decide +kernel
theorem dX9_ofLine_52 : decode mX9_ofLine.2.1 52 = .ok (.aload_n 0, 1) := by decide +kernel
theorem dX9_ofLine_53 : decode mX9_ofLine.2.1 53 = .ok (.getfield 19, 3) := by decide +kernel
theorem dX9_ofLine_56 : decode mX9_ofLine.2.1 56 = .ok (.iload_n 1, 1) := by decide +kernel
theorem dX9_ofLine_57 : decode mX9_ofLine.2.1 57 = .ok (.iload_n 2, 1) := by decide +kernel
theorem dX9_ofLine_58 : decode mX9_ofLine.2.1 58 = .ok (.invokevirtual 213, 3) := by decide +kernel
theorem dX9_ofLine_61 : decode mX9_ofLine.2.1 61 = .ok (.ifCond .eq 15, 3) := by decide +kernel
theorem dX9_ofLine_64 : decode mX9_ofLine.2.1 64 = .ok (.aload_n 0, 1) := by decide +kernel
theorem dX9_ofLine_65 : decode mX9_ofLine.2.1 65 = .ok (.getfield 19, 3) := by decide +kernel
theorem dX9_ofLine_68 : decode mX9_ofLine.2.1 68 = .ok (.iload_n 1, 1) := by decide +kernel
theorem dX9_ofLine_69 : decode mX9_ofLine.2.1 69 = .ok (.iload_n 2, 1) := by decide +kernel
theorem dX9_ofLine_70 : decode mX9_ofLine.2.1 70 = .ok (.invokevirtual 216, 3) := by decide +kernel
theorem dX9_ofLine_73 : decode mX9_ofLine.2.1 73 = .ok (.goto 4, 3) := by decide +kernel
theorem dX9_ofLine_76 : decode mX9_ofLine.2.1 76 = .ok (.iconst (-1), 1) := by decide +kernel
theorem dX9_ofLine_77 : decode mX9_ofLine.2.1 77 = .ok (.ireturn, 1) := by decide +kernel
theorem dX9_ofLine_78 : decode mX9_ofLine.2.1 78 = .ok (.aload_n 0, 1) := by decide +kernel
theorem dX9_ofLine_79 : decode mX9_ofLine.2.1 79 = .ok (.getfield 19, 3) := by decide +kernel
theorem dX9_ofLine_82 : decode mX9_ofLine.2.1 82 = .ok (.iload_n 1, 1) := by decide +kernel
theorem dX9_ofLine_83 : decode mX9_ofLine.2.1 83 = .ok (.iload_n 2, 1) := by decide +kernel
theorem dX9_ofLine_84 : decode mX9_ofLine.2.1 84 = .ok (.invokevirtual 207, 3) := by decide +kernel
theorem dX9_ofLine_87 : decode mX9_ofLine.2.1 87 = .ok (.bipush 7, 2) := by decide +kernel
theorem dX9_ofLine_89 : decode mX9_ofLine.2.1 89 = .ok (.if_icmp .ne 15, 3) := by decide +kernel
theorem dX9_ofLine_92 : decode mX9_ofLine.2.1 92 = .ok (.aload_n 0, 1) := by decide +kernel
theorem dX9_ofLine_93 : decode mX9_ofLine.2.1 93 = .ok (.getfield 19, 3) := by decide +kernel
theorem dX9_ofLine_96 : decode mX9_ofLine.2.1 96 = .ok (.iload_n 1, 1) := by decide +kernel
theorem dX9_ofLine_97 : decode mX9_ofLine.2.1 97 = .ok (.iload_n 2, 1) := by decide +kernel
theorem dX9_ofLine_98 : decode mX9_ofLine.2.1 98 = .ok (.invokevirtual 219, 3) := by decide +kernel
theorem dX9_ofLine_101 : decode mX9_ofLine.2.1 101 = .ok (.goto 4, 3) := by decide +kernel
theorem dX9_ofLine_104 : decode mX9_ofLine.2.1 104 = .ok (.iconst (-1), 1) := by decide +kernel
theorem dX9_ofLine_105 : decode mX9_ofLine.2.1 105 = .ok (.ireturn, 1) := by decide +kernel
theorem dX9_ofLine_106 : decode mX9_ofLine.2.1 106 = .ok (.aload_n 0, 1) := by decide +kernel
theorem dX9_ofLine_107 : decode mX9_ofLine.2.1 107 = .ok (.getfield 45, 3) := by decide +kernel
theorem dX9_ofLine_110 : decode mX9_ofLine.2.1 110 = .ok (.iload_n 1, 1) := by decide +kernel
theorem dX9_ofLine_111 : decode mX9_ofLine.2.1 111 = .ok (.iload_n 2, 1) := by decide +kernel
theorem dX9_ofLine_112 : decode mX9_ofLine.2.1 112 = .ok (.invokevirtual 222, 3) := by decide +kernel
theorem dX9_ofLine_115 : decode mX9_ofLine.2.1 115 = .ok (.ireturn, 1) := by decide +kernel
theorem dX9_ofSite_0 : decode mX9_ofSite.2.1 0 = .ok (.iload_n 2, 1) := by decide +kernel
theorem dX9_ofSite_1 : decode mX9_ofSite.2.1 1 = .ok (.tableswitch 54 0 2 #[27, 36, 45], 27) := by decide +kernel
theorem dX9_ofSite_28 : decode mX9_ofSite.2.1 28 = .ok (.aload_n 0, 1) := by decide +kernel
theorem dX9_ofSite_29 : decode mX9_ofSite.2.1 29 = .ok (.getfield 45, 3) := by decide +kernel
theorem dX9_ofSite_32 : decode mX9_ofSite.2.1 32 = .ok (.iload_n 1, 1) := by decide +kernel
theorem dX9_ofSite_33 : decode mX9_ofSite.2.1 33 = .ok (.invokevirtual 224, 3) := by decide +kernel
theorem dX9_ofSite_36 : decode mX9_ofSite.2.1 36 = .ok (.ireturn, 1) := by decide +kernel
theorem dX9_ofSite_37 : decode mX9_ofSite.2.1 37 = .ok (.aload_n 0, 1) := by decide +kernel
theorem dX9_ofSite_38 : decode mX9_ofSite.2.1 38 = .ok (.getfield 45, 3) := by decide +kernel
theorem dX9_ofSite_41 : decode mX9_ofSite.2.1 41 = .ok (.iload_n 1, 1) := by decide +kernel
theorem dX9_ofSite_42 : decode mX9_ofSite.2.1 42 = .ok (.invokevirtual 227, 3) := by decide +kernel
theorem dX9_ofSite_45 : decode mX9_ofSite.2.1 45 = .ok (.ireturn, 1) := by decide +kernel
theorem dX9_ofSite_46 : decode mX9_ofSite.2.1 46 = .ok (.aload_n 0, 1) := by decide +kernel
theorem dX9_ofSite_47 : decode mX9_ofSite.2.1 47 = .ok (.getfield 63, 3) := by decide +kernel
theorem dX9_ofSite_50 : decode mX9_ofSite.2.1 50 = .ok (.iload_n 1, 1) := by decide +kernel
theorem dX9_ofSite_51 : decode mX9_ofSite.2.1 51 = .ok (.invokevirtual 230, 3) := by decide +kernel
theorem dX9_ofSite_54 : decode mX9_ofSite.2.1 54 = .ok (.ireturn, 1) := by decide +kernel
theorem dX9_ofSite_55 : decode mX9_ofSite.2.1 55 = .ok (.aload_n 0, 1) := by decide +kernel
theorem dX9_ofSite_56 : decode mX9_ofSite.2.1 56 = .ok (.getfield 54, 3) := by decide +kernel
theorem dX9_ofSite_59 : decode mX9_ofSite.2.1 59 = .ok (.iload_n 1, 1) := by decide +kernel
theorem dX9_ofSite_60 : decode mX9_ofSite.2.1 60 = .ok (.invokevirtual 232, 3) := by decide +kernel
theorem dX9_ofSite_63 : decode mX9_ofSite.2.1 63 = .ok (.ireturn, 1) := by decide +kernel
theorem dX9_ofRun_0 : decode mX9_ofRun.2.1 0 = .ok (.iload_n 1, 1) := by decide +kernel
theorem dX9_ofRun_1 : decode mX9_ofRun.2.1 1 = .ok (.tableswitch 83 0 4 #[35, 51, 59, 67, 75], 35) := by decide +kernel
theorem dX9_ofRun_36 : decode mX9_ofRun.2.1 36 = .ok (.aload_n 0, 1) := by decide +kernel
theorem dX9_ofRun_37 : decode mX9_ofRun.2.1 37 = .ok (.getfield 72, 3) := by decide +kernel
theorem dX9_ofRun_40 : decode mX9_ofRun.2.1 40 = .ok (.invokevirtual 235, 3) := by decide +kernel
theorem dX9_ofRun_43 : decode mX9_ofRun.2.1 43 = .ok (.ifCond .eq 7, 3) := by decide +kernel
theorem dX9_ofRun_46 : decode mX9_ofRun.2.1 46 = .ok (.iconst 1, 1) := by decide +kernel
theorem dX9_ofRun_47 : decode mX9_ofRun.2.1 47 = .ok (.goto 4, 3) := by decide +kernel
theorem dX9_ofRun_50 : decode mX9_ofRun.2.1 50 = .ok (.iconst 0, 1) := by decide +kernel
theorem dX9_ofRun_51 : decode mX9_ofRun.2.1 51 = .ok (.ireturn, 1) := by decide +kernel
theorem dX9_ofRun_52 : decode mX9_ofRun.2.1 52 = .ok (.aload_n 0, 1) := by decide +kernel
theorem dX9_ofRun_53 : decode mX9_ofRun.2.1 53 = .ok (.getfield 72, 3) := by decide +kernel
theorem dX9_ofRun_56 : decode mX9_ofRun.2.1 56 = .ok (.invokevirtual 238, 3) := by decide +kernel
theorem dX9_ofRun_59 : decode mX9_ofRun.2.1 59 = .ok (.ireturn, 1) := by decide +kernel
theorem dX9_ofRun_60 : decode mX9_ofRun.2.1 60 = .ok (.aload_n 0, 1) := by decide +kernel
theorem dX9_ofRun_61 : decode mX9_ofRun.2.1 61 = .ok (.getfield 72, 3) := by decide +kernel
theorem dX9_ofRun_64 : decode mX9_ofRun.2.1 64 = .ok (.invokevirtual 241, 3) := by decide +kernel
theorem dX9_ofRun_67 : decode mX9_ofRun.2.1 67 = .ok (.ireturn, 1) := by decide +kernel
theorem dX9_ofRun_68 : decode mX9_ofRun.2.1 68 = .ok (.aload_n 0, 1) := by decide +kernel
theorem dX9_ofRun_69 : decode mX9_ofRun.2.1 69 = .ok (.getfield 72, 3) := by decide +kernel
theorem dX9_ofRun_72 : decode mX9_ofRun.2.1 72 = .ok (.invokevirtual 244, 3) := by decide +kernel
theorem dX9_ofRun_75 : decode mX9_ofRun.2.1 75 = .ok (.ireturn, 1) := by decide +kernel
theorem dX9_ofRun_76 : decode mX9_ofRun.2.1 76 = .ok (.aload_n 0, 1) := by decide +kernel
theorem dX9_ofRun_77 : decode mX9_ofRun.2.1 77 = .ok (.getfield 72, 3) := by decide +kernel
theorem dX9_ofRun_80 : decode mX9_ofRun.2.1 80 = .ok (.invokevirtual 247, 3) := by decide +kernel
theorem dX9_ofRun_83 : decode mX9_ofRun.2.1 83 = .ok (.ireturn, 1) := by decide +kernel
theorem dX9_ofRun_84 : decode mX9_ofRun.2.1 84 = .ok (.aload_n 0, 1) := by decide +kernel
theorem dX9_ofRun_85 : decode mX9_ofRun.2.1 85 = .ok (.getfield 72, 3) := by decide +kernel
theorem dX9_ofRun_88 : decode mX9_ofRun.2.1 88 = .ok (.invokevirtual 250, 3) := by decide +kernel
theorem dX9_ofRun_91 : decode mX9_ofRun.2.1 91 = .ok (.ireturn, 1) := by decide +kernel
theorem dX9_ofSiteRun_0 : decode mX9_ofSiteRun.2.1 0 = .ok (.iload_n 2, 1) := by decide +kernel
theorem dX9_ofSiteRun_1 : decode mX9_ofSiteRun.2.1 1 = .ok (.lookupswitch 45 #[(0, 27), (1, 36)], 27) := by decide +kernel
theorem dX9_ofSiteRun_28 : decode mX9_ofSiteRun.2.1 28 = .ok (.aload_n 0, 1) := by decide +kernel
theorem dX9_ofSiteRun_29 : decode mX9_ofSiteRun.2.1 29 = .ok (.getfield 72, 3) := by decide +kernel
theorem dX9_ofSiteRun_32 : decode mX9_ofSiteRun.2.1 32 = .ok (.iload_n 1, 1) := by decide +kernel
theorem dX9_ofSiteRun_33 : decode mX9_ofSiteRun.2.1 33 = .ok (.invokevirtual 253, 3) := by decide +kernel
theorem dX9_ofSiteRun_36 : decode mX9_ofSiteRun.2.1 36 = .ok (.ireturn, 1) := by decide +kernel
theorem dX9_ofSiteRun_37 : decode mX9_ofSiteRun.2.1 37 = .ok (.aload_n 0, 1) := by decide +kernel
theorem dX9_ofSiteRun_38 : decode mX9_ofSiteRun.2.1 38 = .ok (.getfield 72, 3) := by decide +kernel
theorem dX9_ofSiteRun_41 : decode mX9_ofSiteRun.2.1 41 = .ok (.iload_n 1, 1) := by decide +kernel
theorem dX9_ofSiteRun_42 : decode mX9_ofSiteRun.2.1 42 = .ok (.invokevirtual 256, 3) := by decide +kernel
theorem dX9_ofSiteRun_45 : decode mX9_ofSiteRun.2.1 45 = .ok (.ireturn, 1) := by decide +kernel
theorem dX9_ofSiteRun_46 : decode mX9_ofSiteRun.2.1 46 = .ok (.aload_n 0, 1) := by decide +kernel
theorem dX9_ofSiteRun_47 : decode mX9_ofSiteRun.2.1 47 = .ok (.getfield 72, 3) := by decide +kernel
theorem dX9_ofSiteRun_50 : decode mX9_ofSiteRun.2.1 50 = .ok (.iload_n 1, 1) := by decide +kernel
theorem dX9_ofSiteRun_51 : decode mX9_ofSiteRun.2.1 51 = .ok (.invokevirtual 259, 3) := by decide +kernel
theorem dX9_ofSiteRun_54 : decode mX9_ofSiteRun.2.1 54 = .ok (.ireturn, 1) := by decide +kernel
theorem dX9_ofAll_0 : decode mX9_ofAll.2.1 0 = .ok (.iload_n 1, 1) := by decide +kernel
theorem dX9_ofAll_1 : decode mX9_ofAll.2.1 1 = .ok (.tableswitch 78 0 5 #[39, 44, 49, 54, 62, 70], 39) := by decide +kernel
theorem dX9_ofAll_40 : decode mX9_ofAll.2.1 40 = .ok (.aload_n 0, 1) := by decide +kernel
theorem dX9_ofAll_41 : decode mX9_ofAll.2.1 41 = .ok (.getfield 262, 3) := by decide +kernel
theorem dX9_ofAll_44 : decode mX9_ofAll.2.1 44 = .ok (.ireturn, 1) := by decide +kernel
theorem dX9_ofAll_45 : decode mX9_ofAll.2.1 45 = .ok (.aload_n 0, 1) := by decide +kernel
theorem dX9_ofAll_46 : decode mX9_ofAll.2.1 46 = .ok (.getfield 266, 3) := by decide +kernel
theorem dX9_ofAll_49 : decode mX9_ofAll.2.1 49 = .ok (.ireturn, 1) := by decide +kernel
theorem dX9_ofAll_50 : decode mX9_ofAll.2.1 50 = .ok (.aload_n 0, 1) := by decide +kernel
theorem dX9_ofAll_51 : decode mX9_ofAll.2.1 51 = .ok (.getfield 269, 3) := by decide +kernel
theorem dX9_ofAll_54 : decode mX9_ofAll.2.1 54 = .ok (.ireturn, 1) := by decide +kernel
theorem dX9_ofAll_55 : decode mX9_ofAll.2.1 55 = .ok (.aload_n 0, 1) := by decide +kernel
theorem dX9_ofAll_56 : decode mX9_ofAll.2.1 56 = .ok (.getfield 12, 3) := by decide +kernel
theorem dX9_ofAll_59 : decode mX9_ofAll.2.1 59 = .ok (.invokevirtual 95, 3) := by decide +kernel
theorem dX9_ofAll_62 : decode mX9_ofAll.2.1 62 = .ok (.ireturn, 1) := by decide +kernel
theorem dX9_ofAll_63 : decode mX9_ofAll.2.1 63 = .ok (.aload_n 0, 1) := by decide +kernel
theorem dX9_ofAll_64 : decode mX9_ofAll.2.1 64 = .ok (.getfield 19, 3) := by decide +kernel
theorem dX9_ofAll_67 : decode mX9_ofAll.2.1 67 = .ok (.invokevirtual 111, 3) := by decide +kernel
theorem dX9_ofAll_70 : decode mX9_ofAll.2.1 70 = .ok (.ireturn, 1) := by decide +kernel
theorem dX9_ofAll_71 : decode mX9_ofAll.2.1 71 = .ok (.aload_n 0, 1) := by decide +kernel
theorem dX9_ofAll_72 : decode mX9_ofAll.2.1 72 = .ok (.getfield 45, 3) := by decide +kernel
theorem dX9_ofAll_75 : decode mX9_ofAll.2.1 75 = .ok (.invokevirtual 143, 3) := by decide +kernel
theorem dX9_ofAll_78 : decode mX9_ofAll.2.1 78 = .ok (.ireturn, 1) := by decide +kernel
theorem dX9_ofAll_79 : decode mX9_ofAll.2.1 79 = .ok (.aload_n 0, 1) := by decide +kernel
theorem dX9_ofAll_80 : decode mX9_ofAll.2.1 80 = .ok (.getfield 38, 3) := by decide +kernel
theorem dX9_ofAll_83 : decode mX9_ofAll.2.1 83 = .ok (.invokevirtual 171, 3) := by decide +kernel
theorem dX9_ofAll_86 : decode mX9_ofAll.2.1 86 = .ok (.ireturn, 1) := by decide +kernel
theorem dX9_refusedAsBad_0 : decode mX9_refusedAsBad.2.1 0 = .ok (.aload_n 0, 1) := by decide +kernel
theorem dX9_refusedAsBad_1 : decode mX9_refusedAsBad.2.1 1 = .ok (.dup, 1) := by decide +kernel
theorem dX9_refusedAsBad_2 : decode mX9_refusedAsBad.2.1 2 = .ok (.getfield 262, 3) := by decide +kernel
theorem dX9_refusedAsBad_5 : decode mX9_refusedAsBad.2.1 5 = .ok (.iconst 1, 1) := by decide +kernel
theorem dX9_refusedAsBad_6 : decode mX9_refusedAsBad.2.1 6 = .ok (.iadd, 1) := by decide +kernel
theorem dX9_refusedAsBad_7 : decode mX9_refusedAsBad.2.1 7 = .ok (.putfield 262, 3) := by decide +kernel
theorem dX9_refusedAsBad_10 : decode mX9_refusedAsBad.2.1 10 = .ok (.bipush (-2), 2) := by decide +kernel
theorem dX9_refusedAsBad_12 : decode mX9_refusedAsBad.2.1 12 = .ok (.ireturn, 1) := by decide +kernel
theorem dX9_refusedAsNo_0 : decode mX9_refusedAsNo.2.1 0 = .ok (.aload_n 0, 1) := by decide +kernel
theorem dX9_refusedAsNo_1 : decode mX9_refusedAsNo.2.1 1 = .ok (.dup, 1) := by decide +kernel
theorem dX9_refusedAsNo_2 : decode mX9_refusedAsNo.2.1 2 = .ok (.getfield 266, 3) := by decide +kernel
theorem dX9_refusedAsNo_5 : decode mX9_refusedAsNo.2.1 5 = .ok (.iconst 1, 1) := by decide +kernel
theorem dX9_refusedAsNo_6 : decode mX9_refusedAsNo.2.1 6 = .ok (.iadd, 1) := by decide +kernel
theorem dX9_refusedAsNo_7 : decode mX9_refusedAsNo.2.1 7 = .ok (.putfield 266, 3) := by decide +kernel
theorem dX9_refusedAsNo_10 : decode mX9_refusedAsNo.2.1 10 = .ok (.bipush (-3), 2) := by decide +kernel
theorem dX9_refusedAsNo_12 : decode mX9_refusedAsNo.2.1 12 = .ok (.ireturn, 1) := by decide +kernel
theorem dX9_refusedAsFull_0 : decode mX9_refusedAsFull.2.1 0 = .ok (.aload_n 0, 1) := by decide +kernel
theorem dX9_refusedAsFull_1 : decode mX9_refusedAsFull.2.1 1 = .ok (.dup, 1) := by decide +kernel
theorem dX9_refusedAsFull_2 : decode mX9_refusedAsFull.2.1 2 = .ok (.getfield 269, 3) := by decide +kernel
theorem dX9_refusedAsFull_5 : decode mX9_refusedAsFull.2.1 5 = .ok (.iconst 1, 1) := by decide +kernel
theorem dX9_refusedAsFull_6 : decode mX9_refusedAsFull.2.1 6 = .ok (.iadd, 1) := by decide +kernel
theorem dX9_refusedAsFull_7 : decode mX9_refusedAsFull.2.1 7 = .ok (.putfield 269, 3) := by decide +kernel
theorem dX9_refusedAsFull_10 : decode mX9_refusedAsFull.2.1 10 = .ok (.bipush (-4), 2) := by decide +kernel
theorem dX9_refusedAsFull_12 : decode mX9_refusedAsFull.2.1 12 = .ok (.ireturn, 1) := by decide +kernel
theorem dX9_isOutside_0 : decode mX9_isOutside.2.1 0 = .ok (.iload_n 0, 1) := by decide +kernel
theorem dX9_isOutside_1 : decode mX9_isOutside.2.1 1 = .ok (.ifCond .lt 8, 3) := by decide +kernel
theorem dX9_isOutside_4 : decode mX9_isOutside.2.1 4 = .ok (.iload_n 0, 1) := by decide +kernel
theorem dX9_isOutside_5 : decode mX9_isOutside.2.1 5 = .ok (.iload_n 1, 1) := by decide +kernel
theorem dX9_isOutside_6 : decode mX9_isOutside.2.1 6 = .ok (.if_icmp .lt 7, 3) := by decide +kernel
theorem dX9_isOutside_9 : decode mX9_isOutside.2.1 9 = .ok (.iconst 1, 1) := by decide +kernel
theorem dX9_isOutside_10 : decode mX9_isOutside.2.1 10 = .ok (.goto 4, 3) := by decide +kernel
theorem dX9_isOutside_13 : decode mX9_isOutside.2.1 13 = .ok (.iconst 0, 1) := by decide +kernel
theorem dX9_isOutside_14 : decode mX9_isOutside.2.1 14 = .ok (.ireturn, 1) := by decide +kernel
theorem dX9_leaveState_0 : decode mX9_leaveState.2.1 0 = .ok (.aload_n 0, 1) := by decide +kernel
theorem dX9_leaveState_1 : decode mX9_leaveState.2.1 1 = .ok (.getfield 38, 3) := by decide +kernel
theorem dX9_leaveState_4 : decode mX9_leaveState.2.1 4 = .ok (.aload_n 0, 1) := by decide +kernel
theorem dX9_leaveState_5 : decode mX9_leaveState.2.1 5 = .ok (.getfield 19, 3) := by decide +kernel
theorem dX9_leaveState_8 : decode mX9_leaveState.2.1 8 = .ok (.invokevirtual 272, 3) := by decide +kernel
theorem dX9_leaveState_11 : decode mX9_leaveState.2.1 11 = .ok (.aload_n 0, 1) := by decide +kernel
theorem dX9_leaveState_12 : decode mX9_leaveState.2.1 12 = .ok (.invokevirtual 178, 3) := by decide +kernel
theorem dX9_leaveState_15 : decode mX9_leaveState.2.1 15 = .ok (.return_, 1) := by decide +kernel
theorem dX9_forgetFindings_0 : decode mX9_forgetFindings.2.1 0 = .ok (.aload_n 0, 1) := by decide +kernel
theorem dX9_forgetFindings_1 : decode mX9_forgetFindings.2.1 1 = .ok (.iconst 0, 1) := by decide +kernel
theorem dX9_forgetFindings_2 : decode mX9_forgetFindings.2.1 2 = .ok (.putfield 275, 3) := by decide +kernel
theorem dX9_forgetFindings_5 : decode mX9_forgetFindings.2.1 5 = .ok (.aload_n 0, 1) := by decide +kernel
theorem dX9_forgetFindings_6 : decode mX9_forgetFindings.2.1 6 = .ok (.iconst 0, 1) := by decide +kernel
theorem dX9_forgetFindings_7 : decode mX9_forgetFindings.2.1 7 = .ok (.putfield 279, 3) := by decide +kernel
theorem dX9_forgetFindings_10 : decode mX9_forgetFindings.2.1 10 = .ok (.return_, 1) := by decide +kernel
theorem dX9_findMays_0 : decode mX9_findMays.2.1 0 = .ok (.aload_n 0, 1) := by decide +kernel
theorem dX9_findMays_1 : decode mX9_findMays.2.1 1 = .ok (.getfield 275, 3) := by decide +kernel
theorem dX9_findMays_4 : decode mX9_findMays.2.1 4 = .ok (.ifCond .ne 33, 3) := by decide +kernel
theorem dX9_findMays_7 : decode mX9_findMays.2.1 7 = .ok (.aload_n 0, 1) := by decide +kernel
theorem dX9_findMays_8 : decode mX9_findMays.2.1 8 = .ok (.getfield 45, 3) := by decide +kernel
theorem dX9_findMays_11 : decode mX9_findMays.2.1 11 = .ok (.aload_n 0, 1) := by decide +kernel
theorem dX9_findMays_12 : decode mX9_findMays.2.1 12 = .ok (.getfield 19, 3) := by decide +kernel
theorem dX9_findMays_15 : decode mX9_findMays.2.1 15 = .ok (.invokevirtual 282, 3) := by decide +kernel
theorem dX9_findMays_18 : decode mX9_findMays.2.1 18 = .ok (.aload_n 0, 1) := by decide +kernel
theorem dX9_findMays_19 : decode mX9_findMays.2.1 19 = .ok (.getfield 54, 3) := by decide +kernel
theorem dX9_findMays_22 : decode mX9_findMays.2.1 22 = .ok (.invokevirtual 285, 3) := by decide +kernel
theorem dX9_findMays_25 : decode mX9_findMays.2.1 25 = .ok (.aload_n 0, 1) := by decide +kernel
theorem dX9_findMays_26 : decode mX9_findMays.2.1 26 = .ok (.getfield 63, 3) := by decide +kernel
theorem dX9_findMays_29 : decode mX9_findMays.2.1 29 = .ok (.invokevirtual 288, 3) := by decide +kernel
theorem dX9_findMays_32 : decode mX9_findMays.2.1 32 = .ok (.aload_n 0, 1) := by decide +kernel
theorem dX9_findMays_33 : decode mX9_findMays.2.1 33 = .ok (.iconst 1, 1) := by decide +kernel
theorem dX9_findMays_34 : decode mX9_findMays.2.1 34 = .ok (.putfield 275, 3) := by decide +kernel
theorem dX9_findMays_37 : decode mX9_findMays.2.1 37 = .ok (.return_, 1) := by decide +kernel
theorem dX9_findRun_0 : decode mX9_findRun.2.1 0 = .ok (.aload_n 0, 1) := by decide +kernel
theorem dX9_findRun_1 : decode mX9_findRun.2.1 1 = .ok (.invokevirtual 132, 3) := by decide +kernel
theorem dX9_findRun_4 : decode mX9_findRun.2.1 4 = .ok (.aload_n 0, 1) := by decide +kernel
theorem dX9_findRun_5 : decode mX9_findRun.2.1 5 = .ok (.getfield 279, 3) := by decide +kernel
theorem dX9_findRun_8 : decode mX9_findRun.2.1 8 = .ok (.ifCond .ne 15, 3) := by decide +kernel
theorem dX9_findRun_11 : decode mX9_findRun.2.1 11 = .ok (.aload_n 0, 1) := by decide +kernel
theorem dX9_findRun_12 : decode mX9_findRun.2.1 12 = .ok (.getfield 72, 3) := by decide +kernel
theorem dX9_findRun_15 : decode mX9_findRun.2.1 15 = .ok (.invokevirtual 289, 3) := by decide +kernel
theorem dX9_findRun_18 : decode mX9_findRun.2.1 18 = .ok (.aload_n 0, 1) := by decide +kernel
theorem dX9_findRun_19 : decode mX9_findRun.2.1 19 = .ok (.iconst 1, 1) := by decide +kernel
theorem dX9_findRun_20 : decode mX9_findRun.2.1 20 = .ok (.putfield 279, 3) := by decide +kernel
theorem dX9_findRun_23 : decode mX9_findRun.2.1 23 = .ok (.return_, 1) := by decide +kernel
theorem dJ0_length_8abf5_0 : decode mJ0_length_8abf5.2.1 0 = .ok (.aload_n 0, 1) := by decide +kernel
theorem dJ0_length_8abf5_1 : decode mJ0_length_8abf5.2.1 1 = .ok (.getfield 9, 3) := by decide +kernel
theorem dJ0_length_8abf5_4 : decode mJ0_length_8abf5.2.1 4 = .ok (.arraylength, 1) := by decide +kernel
theorem dJ0_length_8abf5_5 : decode mJ0_length_8abf5.2.1 5 = .ok (.aload_n 0, 1) := by decide +kernel
theorem dJ0_length_8abf5_6 : decode mJ0_length_8abf5.2.1 6 = .ok (.invokevirtual 335, 3) := by decide +kernel
theorem dJ0_length_8abf5_9 : decode mJ0_length_8abf5.2.1 9 = .ok (.ishr, 1) := by decide +kernel
theorem dJ0_length_8abf5_10 : decode mJ0_length_8abf5.2.1 10 = .ok (.ireturn, 1) := by decide +kernel
theorem dJ0_charAt_5068e_0 : decode mJ0_charAt_5068e.2.1 0 = .ok (.aload_n 0, 1) := by decide +kernel
theorem dJ0_charAt_5068e_1 : decode mJ0_charAt_5068e.2.1 1 = .ok (.invokevirtual 492, 3) := by decide +kernel
theorem dJ0_charAt_5068e_4 : decode mJ0_charAt_5068e.2.1 4 = .ok (.ifCond .eq 12, 3) := by decide +kernel
theorem dJ0_charAt_5068e_7 : decode mJ0_charAt_5068e.2.1 7 = .ok (.aload_n 0, 1) := by decide +kernel
theorem dJ0_charAt_5068e_8 : decode mJ0_charAt_5068e.2.1 8 = .ok (.getfield 9, 3) := by decide +kernel
theorem dJ0_charAt_5068e_11 : decode mJ0_charAt_5068e.2.1 11 = .ok (.iload_n 1, 1) := by decide +kernel
theorem dJ0_charAt_5068e_12 : decode mJ0_charAt_5068e.2.1 12 = .ok (.invokestatic 495, 3) := by decide +kernel
theorem dJ0_charAt_5068e_15 : decode mJ0_charAt_5068e.2.1 15 = .ok (.ireturn, 1) := by decide +kernel
theorem dJ0_charAt_5068e_16 : decode mJ0_charAt_5068e.2.1 16 = .ok (.aload_n 0, 1) := by decide +kernel
theorem dJ0_charAt_5068e_17 : decode mJ0_charAt_5068e.2.1 17 = .ok (.getfield 9, 3) := by decide +kernel
theorem dJ0_charAt_5068e_20 : decode mJ0_charAt_5068e.2.1 20 = .ok (.iload_n 1, 1) := by decide +kernel
theorem dJ0_charAt_5068e_21 : decode mJ0_charAt_5068e.2.1 21 = .ok (.invokestatic 498, 3) := by decide +kernel
theorem dJ0_charAt_5068e_24 : decode mJ0_charAt_5068e.2.1 24 = .ok (.ireturn, 1) := by decide +kernel
theorem dJ0_coder_7d493_0 : decode mJ0_coder_7d493.2.1 0 = .ok (.getstatic 38, 3) := by decide +kernel
theorem dJ0_coder_7d493_3 : decode mJ0_coder_7d493.2.1 3 = .ok (.ifCond .eq 10, 3) := by decide +kernel
theorem dJ0_coder_7d493_6 : decode mJ0_coder_7d493.2.1 6 = .ok (.aload_n 0, 1) := by decide +kernel
theorem dJ0_coder_7d493_7 : decode mJ0_coder_7d493.2.1 7 = .ok (.getfield 15, 3) := by decide +kernel
theorem dJ0_coder_7d493_10 : decode mJ0_coder_7d493.2.1 10 = .ok (.goto 4, 3) := by decide +kernel
theorem dJ0_coder_7d493_13 : decode mJ0_coder_7d493.2.1 13 = .ok (.iconst 1, 1) := by decide +kernel
theorem dJ0_coder_7d493_14 : decode mJ0_coder_7d493.2.1 14 = .ok (.ireturn, 1) := by decide +kernel
theorem dJ0_isLatin1_aae02_0 : decode mJ0_isLatin1_aae02.2.1 0 = .ok (.getstatic 38, 3) := by decide +kernel
theorem dJ0_isLatin1_aae02_3 : decode mJ0_isLatin1_aae02.2.1 3 = .ok (.ifCond .eq 14, 3) := by decide +kernel
theorem dJ0_isLatin1_aae02_6 : decode mJ0_isLatin1_aae02.2.1 6 = .ok (.aload_n 0, 1) := by decide +kernel
theorem dJ0_isLatin1_aae02_7 : decode mJ0_isLatin1_aae02.2.1 7 = .ok (.getfield 15, 3) := by decide +kernel
theorem dJ0_isLatin1_aae02_10 : decode mJ0_isLatin1_aae02.2.1 10 = .ok (.ifCond .ne 7, 3) := by decide +kernel
theorem dJ0_isLatin1_aae02_13 : decode mJ0_isLatin1_aae02.2.1 13 = .ok (.iconst 1, 1) := by decide +kernel
theorem dJ0_isLatin1_aae02_14 : decode mJ0_isLatin1_aae02.2.1 14 = .ok (.goto 4, 3) := by decide +kernel
theorem dJ0_isLatin1_aae02_17 : decode mJ0_isLatin1_aae02.2.1 17 = .ok (.iconst 0, 1) := by decide +kernel
theorem dJ0_isLatin1_aae02_18 : decode mJ0_isLatin1_aae02.2.1 18 = .ok (.ireturn, 1) := by decide +kernel
theorem dJ0_checkIndex_df160_0 : decode mJ0_checkIndex_df160.2.1 0 = .ok (.iload_n 0, 1) := by decide +kernel
theorem dJ0_checkIndex_df160_1 : decode mJ0_checkIndex_df160.2.1 1 = .ok (.iload_n 1, 1) := by decide +kernel
theorem dJ0_checkIndex_df160_2 : decode mJ0_checkIndex_df160.2.1 2 = .ok (.getstatic 1053, 3) := by decide +kernel
theorem dJ0_checkIndex_df160_5 : decode mJ0_checkIndex_df160.2.1 5 = .ok (.invokestatic 1059, 3) := by decide +kernel
theorem dJ0_checkIndex_df160_8 : decode mJ0_checkIndex_df160.2.1 8 = .ok (.pop, 1) := by decide +kernel
theorem dJ0_checkIndex_df160_9 : decode mJ0_checkIndex_df160.2.1 9 = .ok (.return_, 1) := by decide +kernel
theorem dJ1_charAt_3b067_0 : decode mJ1_charAt_3b067.2.1 0 = .ok (.iload_n 1, 1) := by decide +kernel
theorem dJ1_charAt_3b067_1 : decode mJ1_charAt_3b067.2.1 1 = .ok (.aload_n 0, 1) := by decide +kernel
theorem dJ1_charAt_3b067_2 : decode mJ1_charAt_3b067.2.1 2 = .ok (.arraylength, 1) := by decide +kernel
theorem dJ1_charAt_3b067_3 : decode mJ1_charAt_3b067.2.1 3 = .ok (.invokestatic 9, 3) := by decide +kernel
theorem dJ1_charAt_3b067_6 : decode mJ1_charAt_3b067.2.1 6 = .ok (.aload_n 0, 1) := by decide +kernel
theorem dJ1_charAt_3b067_7 : decode mJ1_charAt_3b067.2.1 7 = .ok (.iload_n 1, 1) := by decide +kernel
theorem dJ1_charAt_3b067_8 : decode mJ1_charAt_3b067.2.1 8 = .ok (.baload, 1) := by decide +kernel
theorem dJ1_charAt_3b067_9 : decode mJ1_charAt_3b067.2.1 9 = .ok (.sipush 255, 3) := by decide +kernel
theorem dJ1_charAt_3b067_12 : decode mJ1_charAt_3b067.2.1 12 = .ok (.iand, 1) := by decide +kernel
theorem dJ1_charAt_3b067_13 : decode mJ1_charAt_3b067.2.1 13 = .ok (.i2c, 1) := by decide +kernel
theorem dJ1_charAt_3b067_14 : decode mJ1_charAt_3b067.2.1 14 = .ok (.ireturn, 1) := by decide +kernel
theorem dJ7_fill_53178_0 : decode mJ7_fill_53178.2.1 0 = .ok (.iconst 0, 1) := by decide +kernel
theorem dJ7_fill_53178_1 : decode mJ7_fill_53178.2.1 1 = .ok (.istore_n 2, 1) := by decide +kernel
theorem dJ7_fill_53178_2 : decode mJ7_fill_53178.2.1 2 = .ok (.aload_n 0, 1) := by decide +kernel
theorem dJ7_fill_53178_3 : decode mJ7_fill_53178.2.1 3 = .ok (.arraylength, 1) := by decide +kernel
theorem dJ7_fill_53178_4 : decode mJ7_fill_53178.2.1 4 = .ok (.istore_n 3, 1) := by decide +kernel
theorem dJ7_fill_53178_5 : decode mJ7_fill_53178.2.1 5 = .ok (.iload_n 2, 1) := by decide +kernel
theorem dJ7_fill_53178_6 : decode mJ7_fill_53178.2.1 6 = .ok (.iload_n 3, 1) := by decide +kernel
theorem dJ7_fill_53178_7 : decode mJ7_fill_53178.2.1 7 = .ok (.if_icmp .ge 13, 3) := by decide +kernel
theorem dJ7_fill_53178_10 : decode mJ7_fill_53178.2.1 10 = .ok (.aload_n 0, 1) := by decide +kernel
theorem dJ7_fill_53178_11 : decode mJ7_fill_53178.2.1 11 = .ok (.iload_n 2, 1) := by decide +kernel
theorem dJ7_fill_53178_12 : decode mJ7_fill_53178.2.1 12 = .ok (.iload_n 1, 1) := by decide +kernel
theorem dJ7_fill_53178_13 : decode mJ7_fill_53178.2.1 13 = .ok (.iastore, 1) := by decide +kernel
theorem dJ7_fill_53178_14 : decode mJ7_fill_53178.2.1 14 = .ok (.iinc 2 1, 3) := by decide +kernel
theorem dJ7_fill_53178_17 : decode mJ7_fill_53178.2.1 17 = .ok (.goto (-12), 3) := by decide +kernel
theorem dJ7_fill_53178_20 : decode mJ7_fill_53178.2.1 20 = .ok (.return_, 1) := by decide +kernel
theorem dJ7_copyOf_59c91_0 : decode mJ7_copyOf_59c91.2.1 0 = .ok (.iload_n 1, 1) := by decide +kernel
theorem dJ7_copyOf_59c91_1 : decode mJ7_copyOf_59c91.2.1 1 = .ok (.aload_n 0, 1) := by decide +kernel
theorem dJ7_copyOf_59c91_2 : decode mJ7_copyOf_59c91.2.1 2 = .ok (.arraylength, 1) := by decide +kernel
theorem dJ7_copyOf_59c91_3 : decode mJ7_copyOf_59c91.2.1 3 = .ok (.if_icmp .ne 11, 3) := by decide +kernel
theorem dJ7_copyOf_59c91_6 : decode mJ7_copyOf_59c91.2.1 6 = .ok (.aload_n 0, 1) := by decide +kernel
theorem dJ7_copyOf_59c91_7 : decode mJ7_copyOf_59c91.2.1 7 = .ok (.invokevirtual 316, 3) := by decide +kernel
theorem dJ7_copyOf_59c91_10 : decode mJ7_copyOf_59c91.2.1 10 = .ok (.checkcast 317, 3) := by decide +kernel
theorem dJ7_copyOf_59c91_13 : decode mJ7_copyOf_59c91.2.1 13 = .ok (.areturn, 1) := by decide +kernel
theorem dJ7_copyOf_59c91_14 : decode mJ7_copyOf_59c91.2.1 14 = .ok (.iload_n 1, 1) := by decide +kernel
theorem dJ7_copyOf_59c91_15 : decode mJ7_copyOf_59c91.2.1 15 = .ok (.newarray .int, 2) := by decide +kernel
theorem dJ7_copyOf_59c91_17 : decode mJ7_copyOf_59c91.2.1 17 = .ok (.astore_n 2, 1) := by decide +kernel
theorem dJ7_copyOf_59c91_18 : decode mJ7_copyOf_59c91.2.1 18 = .ok (.aload_n 0, 1) := by decide +kernel
theorem dJ7_copyOf_59c91_19 : decode mJ7_copyOf_59c91.2.1 19 = .ok (.iconst 0, 1) := by decide +kernel
theorem dJ7_copyOf_59c91_20 : decode mJ7_copyOf_59c91.2.1 20 = .ok (.aload_n 2, 1) := by decide +kernel
theorem dJ7_copyOf_59c91_21 : decode mJ7_copyOf_59c91.2.1 21 = .ok (.iconst 0, 1) := by decide +kernel
theorem dJ7_copyOf_59c91_22 : decode mJ7_copyOf_59c91.2.1 22 = .ok (.aload_n 0, 1) := by decide +kernel
theorem dJ7_copyOf_59c91_23 : decode mJ7_copyOf_59c91.2.1 23 = .ok (.arraylength, 1) := by decide +kernel
theorem dJ7_copyOf_59c91_24 : decode mJ7_copyOf_59c91.2.1 24 = .ok (.iload_n 1, 1) := by decide +kernel
theorem dJ7_copyOf_59c91_25 : decode mJ7_copyOf_59c91.2.1 25 = .ok (.invokestatic 304, 3) := by decide +kernel
theorem dJ7_copyOf_59c91_28 : decode mJ7_copyOf_59c91.2.1 28 = .ok (.invokestatic 150, 3) := by decide +kernel
theorem dJ7_copyOf_59c91_31 : decode mJ7_copyOf_59c91.2.1 31 = .ok (.aload_n 2, 1) := by decide +kernel
theorem dJ7_copyOf_59c91_32 : decode mJ7_copyOf_59c91.2.1 32 = .ok (.areturn, 1) := by decide +kernel
theorem dJ3_checkIndex_8e157_0 : decode mJ3_checkIndex_8e157.2.1 0 = .ok (.iload_n 0, 1) := by decide +kernel
theorem dJ3_checkIndex_8e157_1 : decode mJ3_checkIndex_8e157.2.1 1 = .ok (.ifCond .lt 8, 3) := by decide +kernel
theorem dJ3_checkIndex_8e157_4 : decode mJ3_checkIndex_8e157.2.1 4 = .ok (.iload_n 0, 1) := by decide +kernel
theorem dJ3_checkIndex_8e157_5 : decode mJ3_checkIndex_8e157.2.1 5 = .ok (.iload_n 1, 1) := by decide +kernel
theorem dJ3_checkIndex_8e157_6 : decode mJ3_checkIndex_8e157.2.1 6 = .ok (.if_icmp .lt 10, 3) := by decide +kernel
theorem dJ3_checkIndex_8e157_9 : decode mJ3_checkIndex_8e157.2.1 9 = .ok (.aload_n 2, 1) := by decide +kernel
theorem dJ3_checkIndex_8e157_10 : decode mJ3_checkIndex_8e157.2.1 10 = .ok (.iload_n 0, 1) := by decide +kernel
theorem dJ3_checkIndex_8e157_11 : decode mJ3_checkIndex_8e157.2.1 11 = .ok (.iload_n 1, 1) := by decide +kernel
theorem dJ3_checkIndex_8e157_12 : decode mJ3_checkIndex_8e157.2.1 12 = .ok (.invokestatic 95, 3) := by decide +kernel
theorem dJ3_checkIndex_8e157_15 : decode mJ3_checkIndex_8e157.2.1 15 = .ok (.athrow, 1) := by decide +kernel
theorem dJ3_checkIndex_8e157_16 : decode mJ3_checkIndex_8e157.2.1 16 = .ok (.iload_n 0, 1) := by decide +kernel
theorem dJ3_checkIndex_8e157_17 : decode mJ3_checkIndex_8e157.2.1 17 = .ok (.ireturn, 1) := by decide +kernel
theorem dL_law_0 : decode mL_law.2.1 0 = .ok (.new 7, 3) := by decide +kernel
theorem dL_law_3 : decode mL_law.2.1 3 = .ok (.dup, 1) := by decide +kernel
theorem dL_law_4 : decode mL_law.2.1 4 = .ok (.invokespecial 9, 3) := by decide +kernel
theorem dL_law_7 : decode mL_law.2.1 7 = .ok (.astore_n 1, 1) := by decide +kernel
theorem dL_law_8 : decode mL_law.2.1 8 = .ok (.new 10, 3) := by decide +kernel
theorem dL_law_11 : decode mL_law.2.1 11 = .ok (.dup, 1) := by decide +kernel
theorem dL_law_12 : decode mL_law.2.1 12 = .ok (.invokespecial 12, 3) := by decide +kernel
theorem dL_law_15 : decode mL_law.2.1 15 = .ok (.astore_n 2, 1) := by decide +kernel
theorem dL_law_16 : decode mL_law.2.1 16 = .ok (.iconst 0, 1) := by decide +kernel
theorem dL_law_17 : decode mL_law.2.1 17 = .ok (.istore_n 3, 1) := by decide +kernel
theorem dL_law_18 : decode mL_law.2.1 18 = .ok (.iload_n 3, 1) := by decide +kernel
theorem dL_law_19 : decode mL_law.2.1 19 = .ok (.aload_n 0, 1) := by decide +kernel
theorem dL_law_20 : decode mL_law.2.1 20 = .ok (.arraylength, 1) := by decide +kernel
theorem dL_law_21 : decode mL_law.2.1 21 = .ok (.iconst 4, 1) := by decide +kernel
theorem dL_law_22 : decode mL_law.2.1 22 = .ok (.isub, 1) := by decide +kernel
theorem dL_law_23 : decode mL_law.2.1 23 = .ok (.if_icmp .gt 548, 3) := by decide +kernel
theorem dL_law_26 : decode mL_law.2.1 26 = .ok (.aload_n 0, 1) := by decide +kernel
theorem dL_law_27 : decode mL_law.2.1 27 = .ok (.iload_n 3, 1) := by decide +kernel
theorem dL_law_28 : decode mL_law.2.1 28 = .ok (.iaload, 1) := by decide +kernel
theorem dL_law_29 : decode mL_law.2.1 29 = .ok (.bipush 31, 2) := by decide +kernel
theorem dL_law_31 : decode mL_law.2.1 31 = .ok (.iand, 1) := by decide +kernel
theorem dL_law_32 : decode mL_law.2.1 32 = .ok (.tableswitch 533 0 17 #[88, 111, 124, 137, 170, 203, 236, 279, 312, 345, 358, 391, 414, 437, 470, 483, 496, 519], 88) := by decide +kernel
theorem dL_law_120 : decode mL_law.2.1 120 = .ok (.aload_n 1, 1) := by decide +kernel
theorem dL_law_121 : decode mL_law.2.1 121 = .ok (.aload_n 0, 1) := by decide +kernel
theorem dL_law_122 : decode mL_law.2.1 122 = .ok (.iload_n 3, 1) := by decide +kernel
theorem dL_law_123 : decode mL_law.2.1 123 = .ok (.iconst 1, 1) := by decide +kernel
theorem dL_law_124 : decode mL_law.2.1 124 = .ok (.iadd, 1) := by decide +kernel
theorem dL_law_125 : decode mL_law.2.1 125 = .ok (.iaload, 1) := by decide +kernel
theorem dL_law_126 : decode mL_law.2.1 126 = .ok (.invokevirtual 13, 3) := by decide +kernel
theorem dL_law_129 : decode mL_law.2.1 129 = .ok (.aload_n 2, 1) := by decide +kernel
theorem dL_law_130 : decode mL_law.2.1 130 = .ok (.aload_n 0, 1) := by decide +kernel
theorem dL_law_131 : decode mL_law.2.1 131 = .ok (.iload_n 3, 1) := by decide +kernel
theorem dL_law_132 : decode mL_law.2.1 132 = .ok (.iconst 1, 1) := by decide +kernel
theorem dL_law_133 : decode mL_law.2.1 133 = .ok (.iadd, 1) := by decide +kernel
theorem dL_law_134 : decode mL_law.2.1 134 = .ok (.iaload, 1) := by decide +kernel
theorem dL_law_135 : decode mL_law.2.1 135 = .ok (.invokevirtual 17, 3) := by decide +kernel
theorem dL_law_138 : decode mL_law.2.1 138 = .ok (.if_icmp .eq 427, 3) := by decide +kernel
theorem dL_law_141 : decode mL_law.2.1 141 = .ok (.iconst 0, 1) := by decide +kernel
theorem dL_law_142 : decode mL_law.2.1 142 = .ok (.ireturn, 1) := by decide +kernel
theorem dL_law_143 : decode mL_law.2.1 143 = .ok (.aload_n 1, 1) := by decide +kernel
theorem dL_law_144 : decode mL_law.2.1 144 = .ok (.invokevirtual 18, 3) := by decide +kernel
theorem dL_law_147 : decode mL_law.2.1 147 = .ok (.aload_n 2, 1) := by decide +kernel
theorem dL_law_148 : decode mL_law.2.1 148 = .ok (.invokevirtual 22, 3) := by decide +kernel
theorem dL_law_151 : decode mL_law.2.1 151 = .ok (.if_icmp .eq 414, 3) := by decide +kernel
theorem dL_law_154 : decode mL_law.2.1 154 = .ok (.iconst 0, 1) := by decide +kernel
theorem dL_law_155 : decode mL_law.2.1 155 = .ok (.ireturn, 1) := by decide +kernel
theorem dL_law_156 : decode mL_law.2.1 156 = .ok (.aload_n 1, 1) := by decide +kernel
theorem dL_law_157 : decode mL_law.2.1 157 = .ok (.invokevirtual 23, 3) := by decide +kernel
theorem dL_law_160 : decode mL_law.2.1 160 = .ok (.aload_n 2, 1) := by decide +kernel
theorem dL_law_161 : decode mL_law.2.1 161 = .ok (.invokevirtual 26, 3) := by decide +kernel
theorem dL_law_164 : decode mL_law.2.1 164 = .ok (.if_icmp .eq 401, 3) := by decide +kernel
theorem dL_law_167 : decode mL_law.2.1 167 = .ok (.iconst 0, 1) := by decide +kernel
theorem dL_law_168 : decode mL_law.2.1 168 = .ok (.ireturn, 1) := by decide +kernel
theorem dL_law_169 : decode mL_law.2.1 169 = .ok (.aload_n 1, 1) := by decide +kernel
theorem dL_law_170 : decode mL_law.2.1 170 = .ok (.aload_n 0, 1) := by decide +kernel
theorem dL_law_171 : decode mL_law.2.1 171 = .ok (.iload_n 3, 1) := by decide +kernel
theorem dL_law_172 : decode mL_law.2.1 172 = .ok (.iconst 1, 1) := by decide +kernel
theorem dL_law_173 : decode mL_law.2.1 173 = .ok (.iadd, 1) := by decide +kernel
theorem dL_law_174 : decode mL_law.2.1 174 = .ok (.iaload, 1) := by decide +kernel
theorem dL_law_175 : decode mL_law.2.1 175 = .ok (.aload_n 0, 1) := by decide +kernel
theorem dL_law_176 : decode mL_law.2.1 176 = .ok (.iload_n 3, 1) := by decide +kernel
theorem dL_law_177 : decode mL_law.2.1 177 = .ok (.iconst 2, 1) := by decide +kernel
theorem dL_law_178 : decode mL_law.2.1 178 = .ok (.iadd, 1) := by decide +kernel
theorem dL_law_179 : decode mL_law.2.1 179 = .ok (.iaload, 1) := by decide +kernel
theorem dL_law_180 : decode mL_law.2.1 180 = .ok (.invokevirtual 27, 3) := by decide +kernel
theorem dL_law_183 : decode mL_law.2.1 183 = .ok (.aload_n 2, 1) := by decide +kernel
theorem dL_law_184 : decode mL_law.2.1 184 = .ok (.aload_n 0, 1) := by decide +kernel
theorem dL_law_185 : decode mL_law.2.1 185 = .ok (.iload_n 3, 1) := by decide +kernel
theorem dL_law_186 : decode mL_law.2.1 186 = .ok (.iconst 1, 1) := by decide +kernel
theorem dL_law_187 : decode mL_law.2.1 187 = .ok (.iadd, 1) := by decide +kernel
theorem dL_law_188 : decode mL_law.2.1 188 = .ok (.iaload, 1) := by decide +kernel
theorem dL_law_189 : decode mL_law.2.1 189 = .ok (.aload_n 0, 1) := by decide +kernel
theorem dL_law_190 : decode mL_law.2.1 190 = .ok (.iload_n 3, 1) := by decide +kernel
theorem dL_law_191 : decode mL_law.2.1 191 = .ok (.iconst 2, 1) := by decide +kernel
theorem dL_law_192 : decode mL_law.2.1 192 = .ok (.iadd, 1) := by decide +kernel
theorem dL_law_193 : decode mL_law.2.1 193 = .ok (.iaload, 1) := by decide +kernel
theorem dL_law_194 : decode mL_law.2.1 194 = .ok (.invokevirtual 31, 3) := by decide +kernel
theorem dL_law_197 : decode mL_law.2.1 197 = .ok (.if_icmp .eq 368, 3) := by decide +kernel
theorem dL_law_200 : decode mL_law.2.1 200 = .ok (.iconst 0, 1) := by decide +kernel
theorem dL_law_201 : decode mL_law.2.1 201 = .ok (.ireturn, 1) := by decide +kernel
theorem dL_law_202 : decode mL_law.2.1 202 = .ok (.aload_n 1, 1) := by decide +kernel
theorem dL_law_203 : decode mL_law.2.1 203 = .ok (.aload_n 0, 1) := by decide +kernel
theorem dL_law_204 : decode mL_law.2.1 204 = .ok (.iload_n 3, 1) := by decide +kernel
theorem dL_law_205 : decode mL_law.2.1 205 = .ok (.iconst 1, 1) := by decide +kernel
theorem dL_law_206 : decode mL_law.2.1 206 = .ok (.iadd, 1) := by decide +kernel
theorem dL_law_207 : decode mL_law.2.1 207 = .ok (.iaload, 1) := by decide +kernel
theorem dL_law_208 : decode mL_law.2.1 208 = .ok (.aload_n 0, 1) := by decide +kernel
theorem dL_law_209 : decode mL_law.2.1 209 = .ok (.iload_n 3, 1) := by decide +kernel
theorem dL_law_210 : decode mL_law.2.1 210 = .ok (.iconst 2, 1) := by decide +kernel
theorem dL_law_211 : decode mL_law.2.1 211 = .ok (.iadd, 1) := by decide +kernel
theorem dL_law_212 : decode mL_law.2.1 212 = .ok (.iaload, 1) := by decide +kernel
theorem dL_law_213 : decode mL_law.2.1 213 = .ok (.invokevirtual 32, 3) := by decide +kernel
theorem dL_law_216 : decode mL_law.2.1 216 = .ok (.aload_n 2, 1) := by decide +kernel
theorem dL_law_217 : decode mL_law.2.1 217 = .ok (.aload_n 0, 1) := by decide +kernel
theorem dL_law_218 : decode mL_law.2.1 218 = .ok (.iload_n 3, 1) := by decide +kernel
theorem dL_law_219 : decode mL_law.2.1 219 = .ok (.iconst 1, 1) := by decide +kernel
theorem dL_law_220 : decode mL_law.2.1 220 = .ok (.iadd, 1) := by decide +kernel
theorem dL_law_221 : decode mL_law.2.1 221 = .ok (.iaload, 1) := by decide +kernel
theorem dL_law_222 : decode mL_law.2.1 222 = .ok (.aload_n 0, 1) := by decide +kernel
theorem dL_law_223 : decode mL_law.2.1 223 = .ok (.iload_n 3, 1) := by decide +kernel
theorem dL_law_224 : decode mL_law.2.1 224 = .ok (.iconst 2, 1) := by decide +kernel
theorem dL_law_225 : decode mL_law.2.1 225 = .ok (.iadd, 1) := by decide +kernel
theorem dL_law_226 : decode mL_law.2.1 226 = .ok (.iaload, 1) := by decide +kernel
theorem dL_law_227 : decode mL_law.2.1 227 = .ok (.invokevirtual 35, 3) := by decide +kernel
theorem dL_law_230 : decode mL_law.2.1 230 = .ok (.if_icmp .eq 335, 3) := by decide +kernel
theorem dL_law_233 : decode mL_law.2.1 233 = .ok (.iconst 0, 1) := by decide +kernel
theorem dL_law_234 : decode mL_law.2.1 234 = .ok (.ireturn, 1) := by decide +kernel
theorem dL_law_235 : decode mL_law.2.1 235 = .ok (.aload_n 1, 1) := by decide +kernel
theorem dL_law_236 : decode mL_law.2.1 236 = .ok (.aload_n 0, 1) := by decide +kernel
theorem dL_law_237 : decode mL_law.2.1 237 = .ok (.iload_n 3, 1) := by decide +kernel
theorem dL_law_238 : decode mL_law.2.1 238 = .ok (.iconst 1, 1) := by decide +kernel
theorem dL_law_239 : decode mL_law.2.1 239 = .ok (.iadd, 1) := by decide +kernel
theorem dL_law_240 : decode mL_law.2.1 240 = .ok (.iaload, 1) := by decide +kernel
theorem dL_law_241 : decode mL_law.2.1 241 = .ok (.aload_n 0, 1) := by decide +kernel
theorem dL_law_242 : decode mL_law.2.1 242 = .ok (.iload_n 3, 1) := by decide +kernel
theorem dL_law_243 : decode mL_law.2.1 243 = .ok (.iconst 2, 1) := by decide +kernel
theorem dL_law_244 : decode mL_law.2.1 244 = .ok (.iadd, 1) := by decide +kernel
theorem dL_law_245 : decode mL_law.2.1 245 = .ok (.iaload, 1) := by decide +kernel
theorem dL_law_246 : decode mL_law.2.1 246 = .ok (.invokevirtual 36, 3) := by decide +kernel
theorem dL_law_249 : decode mL_law.2.1 249 = .ok (.aload_n 2, 1) := by decide +kernel
theorem dL_law_250 : decode mL_law.2.1 250 = .ok (.aload_n 0, 1) := by decide +kernel
theorem dL_law_251 : decode mL_law.2.1 251 = .ok (.iload_n 3, 1) := by decide +kernel
theorem dL_law_252 : decode mL_law.2.1 252 = .ok (.iconst 1, 1) := by decide +kernel
theorem dL_law_253 : decode mL_law.2.1 253 = .ok (.iadd, 1) := by decide +kernel
theorem dL_law_254 : decode mL_law.2.1 254 = .ok (.iaload, 1) := by decide +kernel
theorem dL_law_255 : decode mL_law.2.1 255 = .ok (.aload_n 0, 1) := by decide +kernel
theorem dL_law_256 : decode mL_law.2.1 256 = .ok (.iload_n 3, 1) := by decide +kernel
theorem dL_law_257 : decode mL_law.2.1 257 = .ok (.iconst 2, 1) := by decide +kernel
theorem dL_law_258 : decode mL_law.2.1 258 = .ok (.iadd, 1) := by decide +kernel
theorem dL_law_259 : decode mL_law.2.1 259 = .ok (.iaload, 1) := by decide +kernel
theorem dL_law_260 : decode mL_law.2.1 260 = .ok (.invokevirtual 39, 3) := by decide +kernel
theorem dL_law_263 : decode mL_law.2.1 263 = .ok (.if_icmp .eq 302, 3) := by decide +kernel
theorem dL_law_266 : decode mL_law.2.1 266 = .ok (.iconst 0, 1) := by decide +kernel
theorem dL_law_267 : decode mL_law.2.1 267 = .ok (.ireturn, 1) := by decide +kernel
theorem dL_law_268 : decode mL_law.2.1 268 = .ok (.aload_n 1, 1) := by decide +kernel
theorem dL_law_269 : decode mL_law.2.1 269 = .ok (.aload_n 0, 1) := by decide +kernel
theorem dL_law_270 : decode mL_law.2.1 270 = .ok (.iload_n 3, 1) := by decide +kernel
theorem dL_law_271 : decode mL_law.2.1 271 = .ok (.iconst 1, 1) := by decide +kernel
theorem dL_law_272 : decode mL_law.2.1 272 = .ok (.iadd, 1) := by decide +kernel
theorem dL_law_273 : decode mL_law.2.1 273 = .ok (.iaload, 1) := by decide +kernel
theorem dL_law_274 : decode mL_law.2.1 274 = .ok (.aload_n 0, 1) := by decide +kernel
theorem dL_law_275 : decode mL_law.2.1 275 = .ok (.iload_n 3, 1) := by decide +kernel
theorem dL_law_276 : decode mL_law.2.1 276 = .ok (.iconst 2, 1) := by decide +kernel
theorem dL_law_277 : decode mL_law.2.1 277 = .ok (.iadd, 1) := by decide +kernel
theorem dL_law_278 : decode mL_law.2.1 278 = .ok (.iaload, 1) := by decide +kernel
theorem dL_law_279 : decode mL_law.2.1 279 = .ok (.aload_n 0, 1) := by decide +kernel
theorem dL_law_280 : decode mL_law.2.1 280 = .ok (.iload_n 3, 1) := by decide +kernel
theorem dL_law_281 : decode mL_law.2.1 281 = .ok (.iconst 3, 1) := by decide +kernel
theorem dL_law_282 : decode mL_law.2.1 282 = .ok (.iadd, 1) := by decide +kernel
theorem dL_law_283 : decode mL_law.2.1 283 = .ok (.iaload, 1) := by decide +kernel
theorem dL_law_284 : decode mL_law.2.1 284 = .ok (.invokevirtual 40, 3) := by decide +kernel
theorem dL_law_287 : decode mL_law.2.1 287 = .ok (.aload_n 2, 1) := by decide +kernel
theorem dL_law_288 : decode mL_law.2.1 288 = .ok (.aload_n 0, 1) := by decide +kernel
theorem dL_law_289 : decode mL_law.2.1 289 = .ok (.iload_n 3, 1) := by decide +kernel
theorem dL_law_290 : decode mL_law.2.1 290 = .ok (.iconst 1, 1) := by decide +kernel
theorem dL_law_291 : decode mL_law.2.1 291 = .ok (.iadd, 1) := by decide +kernel
theorem dL_law_292 : decode mL_law.2.1 292 = .ok (.iaload, 1) := by decide +kernel
theorem dL_law_293 : decode mL_law.2.1 293 = .ok (.aload_n 0, 1) := by decide +kernel
theorem dL_law_294 : decode mL_law.2.1 294 = .ok (.iload_n 3, 1) := by decide +kernel
theorem dL_law_295 : decode mL_law.2.1 295 = .ok (.iconst 2, 1) := by decide +kernel
theorem dL_law_296 : decode mL_law.2.1 296 = .ok (.iadd, 1) := by decide +kernel
theorem dL_law_297 : decode mL_law.2.1 297 = .ok (.iaload, 1) := by decide +kernel
theorem dL_law_298 : decode mL_law.2.1 298 = .ok (.aload_n 0, 1) := by decide +kernel
theorem dL_law_299 : decode mL_law.2.1 299 = .ok (.iload_n 3, 1) := by decide +kernel
theorem dL_law_300 : decode mL_law.2.1 300 = .ok (.iconst 3, 1) := by decide +kernel
theorem dL_law_301 : decode mL_law.2.1 301 = .ok (.iadd, 1) := by decide +kernel
theorem dL_law_302 : decode mL_law.2.1 302 = .ok (.iaload, 1) := by decide +kernel
theorem dL_law_303 : decode mL_law.2.1 303 = .ok (.invokevirtual 44, 3) := by decide +kernel
theorem dL_law_306 : decode mL_law.2.1 306 = .ok (.if_icmp .eq 259, 3) := by decide +kernel
theorem dL_law_309 : decode mL_law.2.1 309 = .ok (.iconst 0, 1) := by decide +kernel
theorem dL_law_310 : decode mL_law.2.1 310 = .ok (.ireturn, 1) := by decide +kernel
theorem dL_law_311 : decode mL_law.2.1 311 = .ok (.aload_n 1, 1) := by decide +kernel
theorem dL_law_312 : decode mL_law.2.1 312 = .ok (.aload_n 0, 1) := by decide +kernel
theorem dL_law_313 : decode mL_law.2.1 313 = .ok (.iload_n 3, 1) := by decide +kernel
theorem dL_law_314 : decode mL_law.2.1 314 = .ok (.iconst 1, 1) := by decide +kernel
theorem dL_law_315 : decode mL_law.2.1 315 = .ok (.iadd, 1) := by decide +kernel
theorem dL_law_316 : decode mL_law.2.1 316 = .ok (.iaload, 1) := by decide +kernel
theorem dL_law_317 : decode mL_law.2.1 317 = .ok (.aload_n 0, 1) := by decide +kernel
theorem dL_law_318 : decode mL_law.2.1 318 = .ok (.iload_n 3, 1) := by decide +kernel
theorem dL_law_319 : decode mL_law.2.1 319 = .ok (.iconst 2, 1) := by decide +kernel
theorem dL_law_320 : decode mL_law.2.1 320 = .ok (.iadd, 1) := by decide +kernel
theorem dL_law_321 : decode mL_law.2.1 321 = .ok (.iaload, 1) := by decide +kernel
theorem dL_law_322 : decode mL_law.2.1 322 = .ok (.invokevirtual 45, 3) := by decide +kernel
theorem dL_law_325 : decode mL_law.2.1 325 = .ok (.aload_n 2, 1) := by decide +kernel
theorem dL_law_326 : decode mL_law.2.1 326 = .ok (.aload_n 0, 1) := by decide +kernel
theorem dL_law_327 : decode mL_law.2.1 327 = .ok (.iload_n 3, 1) := by decide +kernel
theorem dL_law_328 : decode mL_law.2.1 328 = .ok (.iconst 1, 1) := by decide +kernel
theorem dL_law_329 : decode mL_law.2.1 329 = .ok (.iadd, 1) := by decide +kernel
theorem dL_law_330 : decode mL_law.2.1 330 = .ok (.iaload, 1) := by decide +kernel
theorem dL_law_331 : decode mL_law.2.1 331 = .ok (.aload_n 0, 1) := by decide +kernel
theorem dL_law_332 : decode mL_law.2.1 332 = .ok (.iload_n 3, 1) := by decide +kernel
theorem dL_law_333 : decode mL_law.2.1 333 = .ok (.iconst 2, 1) := by decide +kernel
theorem dL_law_334 : decode mL_law.2.1 334 = .ok (.iadd, 1) := by decide +kernel
theorem dL_law_335 : decode mL_law.2.1 335 = .ok (.iaload, 1) := by decide +kernel
theorem dL_law_336 : decode mL_law.2.1 336 = .ok (.invokevirtual 48, 3) := by decide +kernel
theorem dL_law_339 : decode mL_law.2.1 339 = .ok (.if_icmp .eq 226, 3) := by decide +kernel
theorem dL_law_342 : decode mL_law.2.1 342 = .ok (.iconst 0, 1) := by decide +kernel
theorem dL_law_343 : decode mL_law.2.1 343 = .ok (.ireturn, 1) := by decide +kernel
theorem dL_law_344 : decode mL_law.2.1 344 = .ok (.aload_n 1, 1) := by decide +kernel
theorem dL_law_345 : decode mL_law.2.1 345 = .ok (.aload_n 0, 1) := by decide +kernel
theorem dL_law_346 : decode mL_law.2.1 346 = .ok (.iload_n 3, 1) := by decide +kernel
theorem dL_law_347 : decode mL_law.2.1 347 = .ok (.iconst 1, 1) := by decide +kernel
theorem dL_law_348 : decode mL_law.2.1 348 = .ok (.iadd, 1) := by decide +kernel
theorem dL_law_349 : decode mL_law.2.1 349 = .ok (.iaload, 1) := by decide +kernel
theorem dL_law_350 : decode mL_law.2.1 350 = .ok (.aload_n 0, 1) := by decide +kernel
theorem dL_law_351 : decode mL_law.2.1 351 = .ok (.iload_n 3, 1) := by decide +kernel
theorem dL_law_352 : decode mL_law.2.1 352 = .ok (.iconst 2, 1) := by decide +kernel
theorem dL_law_353 : decode mL_law.2.1 353 = .ok (.iadd, 1) := by decide +kernel
theorem dL_law_354 : decode mL_law.2.1 354 = .ok (.iaload, 1) := by decide +kernel
theorem dL_law_355 : decode mL_law.2.1 355 = .ok (.invokevirtual 49, 3) := by decide +kernel
theorem dL_law_358 : decode mL_law.2.1 358 = .ok (.aload_n 2, 1) := by decide +kernel
theorem dL_law_359 : decode mL_law.2.1 359 = .ok (.aload_n 0, 1) := by decide +kernel
theorem dL_law_360 : decode mL_law.2.1 360 = .ok (.iload_n 3, 1) := by decide +kernel
theorem dL_law_361 : decode mL_law.2.1 361 = .ok (.iconst 1, 1) := by decide +kernel
theorem dL_law_362 : decode mL_law.2.1 362 = .ok (.iadd, 1) := by decide +kernel
theorem dL_law_363 : decode mL_law.2.1 363 = .ok (.iaload, 1) := by decide +kernel
theorem dL_law_364 : decode mL_law.2.1 364 = .ok (.aload_n 0, 1) := by decide +kernel
theorem dL_law_365 : decode mL_law.2.1 365 = .ok (.iload_n 3, 1) := by decide +kernel
theorem dL_law_366 : decode mL_law.2.1 366 = .ok (.iconst 2, 1) := by decide +kernel
theorem dL_law_367 : decode mL_law.2.1 367 = .ok (.iadd, 1) := by decide +kernel
theorem dL_law_368 : decode mL_law.2.1 368 = .ok (.iaload, 1) := by decide +kernel
theorem dL_law_369 : decode mL_law.2.1 369 = .ok (.invokevirtual 52, 3) := by decide +kernel
theorem dL_law_372 : decode mL_law.2.1 372 = .ok (.if_icmp .eq 193, 3) := by decide +kernel
theorem dL_law_375 : decode mL_law.2.1 375 = .ok (.iconst 0, 1) := by decide +kernel
theorem dL_law_376 : decode mL_law.2.1 376 = .ok (.ireturn, 1) := by decide +kernel
theorem dL_law_377 : decode mL_law.2.1 377 = .ok (.aload_n 1, 1) := by decide +kernel
theorem dL_law_378 : decode mL_law.2.1 378 = .ok (.invokevirtual 53, 3) := by decide +kernel
theorem dL_law_381 : decode mL_law.2.1 381 = .ok (.aload_n 2, 1) := by decide +kernel
theorem dL_law_382 : decode mL_law.2.1 382 = .ok (.invokevirtual 56, 3) := by decide +kernel
theorem dL_law_385 : decode mL_law.2.1 385 = .ok (.if_icmp .eq 180, 3) := by decide +kernel
theorem dL_law_388 : decode mL_law.2.1 388 = .ok (.iconst 0, 1) := by decide +kernel
theorem dL_law_389 : decode mL_law.2.1 389 = .ok (.ireturn, 1) := by decide +kernel
theorem dL_law_390 : decode mL_law.2.1 390 = .ok (.aload_n 1, 1) := by decide +kernel
theorem dL_law_391 : decode mL_law.2.1 391 = .ok (.aload_n 0, 1) := by decide +kernel
theorem dL_law_392 : decode mL_law.2.1 392 = .ok (.iload_n 3, 1) := by decide +kernel
theorem dL_law_393 : decode mL_law.2.1 393 = .ok (.iconst 1, 1) := by decide +kernel
theorem dL_law_394 : decode mL_law.2.1 394 = .ok (.iadd, 1) := by decide +kernel
theorem dL_law_395 : decode mL_law.2.1 395 = .ok (.iaload, 1) := by decide +kernel
theorem dL_law_396 : decode mL_law.2.1 396 = .ok (.aload_n 0, 1) := by decide +kernel
theorem dL_law_397 : decode mL_law.2.1 397 = .ok (.iload_n 3, 1) := by decide +kernel
theorem dL_law_398 : decode mL_law.2.1 398 = .ok (.iconst 2, 1) := by decide +kernel
theorem dL_law_399 : decode mL_law.2.1 399 = .ok (.iadd, 1) := by decide +kernel
theorem dL_law_400 : decode mL_law.2.1 400 = .ok (.iaload, 1) := by decide +kernel
theorem dL_law_401 : decode mL_law.2.1 401 = .ok (.invokevirtual 57, 3) := by decide +kernel
theorem dL_law_404 : decode mL_law.2.1 404 = .ok (.aload_n 2, 1) := by decide +kernel
theorem dL_law_405 : decode mL_law.2.1 405 = .ok (.aload_n 0, 1) := by decide +kernel
theorem dL_law_406 : decode mL_law.2.1 406 = .ok (.iload_n 3, 1) := by decide +kernel
theorem dL_law_407 : decode mL_law.2.1 407 = .ok (.iconst 1, 1) := by decide +kernel
theorem dL_law_408 : decode mL_law.2.1 408 = .ok (.iadd, 1) := by decide +kernel
theorem dL_law_409 : decode mL_law.2.1 409 = .ok (.iaload, 1) := by decide +kernel
theorem dL_law_410 : decode mL_law.2.1 410 = .ok (.aload_n 0, 1) := by decide +kernel
theorem dL_law_411 : decode mL_law.2.1 411 = .ok (.iload_n 3, 1) := by decide +kernel
theorem dL_law_412 : decode mL_law.2.1 412 = .ok (.iconst 2, 1) := by decide +kernel
theorem dL_law_413 : decode mL_law.2.1 413 = .ok (.iadd, 1) := by decide +kernel
theorem dL_law_414 : decode mL_law.2.1 414 = .ok (.iaload, 1) := by decide +kernel
theorem dL_law_415 : decode mL_law.2.1 415 = .ok (.invokevirtual 60, 3) := by decide +kernel
theorem dL_law_418 : decode mL_law.2.1 418 = .ok (.if_icmp .eq 147, 3) := by decide +kernel
theorem dL_law_421 : decode mL_law.2.1 421 = .ok (.iconst 0, 1) := by decide +kernel
theorem dL_law_422 : decode mL_law.2.1 422 = .ok (.ireturn, 1) := by decide +kernel
theorem dL_law_423 : decode mL_law.2.1 423 = .ok (.aload_n 1, 1) := by decide +kernel
theorem dL_law_424 : decode mL_law.2.1 424 = .ok (.aload_n 0, 1) := by decide +kernel
theorem dL_law_425 : decode mL_law.2.1 425 = .ok (.iload_n 3, 1) := by decide +kernel
theorem dL_law_426 : decode mL_law.2.1 426 = .ok (.iconst 1, 1) := by decide +kernel
theorem dL_law_427 : decode mL_law.2.1 427 = .ok (.iadd, 1) := by decide +kernel
theorem dL_law_428 : decode mL_law.2.1 428 = .ok (.iaload, 1) := by decide +kernel
theorem dL_law_429 : decode mL_law.2.1 429 = .ok (.invokevirtual 61, 3) := by decide +kernel
theorem dL_law_432 : decode mL_law.2.1 432 = .ok (.aload_n 2, 1) := by decide +kernel
theorem dL_law_433 : decode mL_law.2.1 433 = .ok (.aload_n 0, 1) := by decide +kernel
theorem dL_law_434 : decode mL_law.2.1 434 = .ok (.iload_n 3, 1) := by decide +kernel
theorem dL_law_435 : decode mL_law.2.1 435 = .ok (.iconst 1, 1) := by decide +kernel
theorem dL_law_436 : decode mL_law.2.1 436 = .ok (.iadd, 1) := by decide +kernel
theorem dL_law_437 : decode mL_law.2.1 437 = .ok (.iaload, 1) := by decide +kernel
theorem dL_law_438 : decode mL_law.2.1 438 = .ok (.invokevirtual 64, 3) := by decide +kernel
theorem dL_law_441 : decode mL_law.2.1 441 = .ok (.if_icmp .eq 124, 3) := by decide +kernel
theorem dL_law_444 : decode mL_law.2.1 444 = .ok (.iconst 0, 1) := by decide +kernel
theorem dL_law_445 : decode mL_law.2.1 445 = .ok (.ireturn, 1) := by decide +kernel
theorem dL_law_446 : decode mL_law.2.1 446 = .ok (.aload_n 1, 1) := by decide +kernel
theorem dL_law_447 : decode mL_law.2.1 447 = .ok (.aload_n 0, 1) := by decide +kernel
theorem dL_law_448 : decode mL_law.2.1 448 = .ok (.iload_n 3, 1) := by decide +kernel
theorem dL_law_449 : decode mL_law.2.1 449 = .ok (.iconst 1, 1) := by decide +kernel
theorem dL_law_450 : decode mL_law.2.1 450 = .ok (.iadd, 1) := by decide +kernel
theorem dL_law_451 : decode mL_law.2.1 451 = .ok (.iaload, 1) := by decide +kernel
theorem dL_law_452 : decode mL_law.2.1 452 = .ok (.invokevirtual 65, 3) := by decide +kernel
theorem dL_law_455 : decode mL_law.2.1 455 = .ok (.aload_n 2, 1) := by decide +kernel
theorem dL_law_456 : decode mL_law.2.1 456 = .ok (.aload_n 0, 1) := by decide +kernel
theorem dL_law_457 : decode mL_law.2.1 457 = .ok (.iload_n 3, 1) := by decide +kernel
theorem dL_law_458 : decode mL_law.2.1 458 = .ok (.iconst 1, 1) := by decide +kernel
theorem dL_law_459 : decode mL_law.2.1 459 = .ok (.iadd, 1) := by decide +kernel
theorem dL_law_460 : decode mL_law.2.1 460 = .ok (.iaload, 1) := by decide +kernel
theorem dL_law_461 : decode mL_law.2.1 461 = .ok (.invokevirtual 68, 3) := by decide +kernel
theorem dL_law_464 : decode mL_law.2.1 464 = .ok (.if_icmp .eq 101, 3) := by decide +kernel
theorem dL_law_467 : decode mL_law.2.1 467 = .ok (.iconst 0, 1) := by decide +kernel
theorem dL_law_468 : decode mL_law.2.1 468 = .ok (.ireturn, 1) := by decide +kernel
theorem dL_law_469 : decode mL_law.2.1 469 = .ok (.aload_n 1, 1) := by decide +kernel
theorem dL_law_470 : decode mL_law.2.1 470 = .ok (.aload_n 0, 1) := by decide +kernel
theorem dL_law_471 : decode mL_law.2.1 471 = .ok (.iload_n 3, 1) := by decide +kernel
theorem dL_law_472 : decode mL_law.2.1 472 = .ok (.iconst 1, 1) := by decide +kernel
theorem dL_law_473 : decode mL_law.2.1 473 = .ok (.iadd, 1) := by decide +kernel
theorem dL_law_474 : decode mL_law.2.1 474 = .ok (.iaload, 1) := by decide +kernel
theorem dL_law_475 : decode mL_law.2.1 475 = .ok (.aload_n 0, 1) := by decide +kernel
theorem dL_law_476 : decode mL_law.2.1 476 = .ok (.iload_n 3, 1) := by decide +kernel
theorem dL_law_477 : decode mL_law.2.1 477 = .ok (.iconst 2, 1) := by decide +kernel
theorem dL_law_478 : decode mL_law.2.1 478 = .ok (.iadd, 1) := by decide +kernel
theorem dL_law_479 : decode mL_law.2.1 479 = .ok (.iaload, 1) := by decide +kernel
theorem dL_law_480 : decode mL_law.2.1 480 = .ok (.invokevirtual 69, 3) := by decide +kernel
theorem dL_law_483 : decode mL_law.2.1 483 = .ok (.aload_n 2, 1) := by decide +kernel
theorem dL_law_484 : decode mL_law.2.1 484 = .ok (.aload_n 0, 1) := by decide +kernel
theorem dL_law_485 : decode mL_law.2.1 485 = .ok (.iload_n 3, 1) := by decide +kernel
theorem dL_law_486 : decode mL_law.2.1 486 = .ok (.iconst 1, 1) := by decide +kernel
theorem dL_law_487 : decode mL_law.2.1 487 = .ok (.iadd, 1) := by decide +kernel
theorem dL_law_488 : decode mL_law.2.1 488 = .ok (.iaload, 1) := by decide +kernel
theorem dL_law_489 : decode mL_law.2.1 489 = .ok (.aload_n 0, 1) := by decide +kernel
theorem dL_law_490 : decode mL_law.2.1 490 = .ok (.iload_n 3, 1) := by decide +kernel
theorem dL_law_491 : decode mL_law.2.1 491 = .ok (.iconst 2, 1) := by decide +kernel
theorem dL_law_492 : decode mL_law.2.1 492 = .ok (.iadd, 1) := by decide +kernel
theorem dL_law_493 : decode mL_law.2.1 493 = .ok (.iaload, 1) := by decide +kernel
theorem dL_law_494 : decode mL_law.2.1 494 = .ok (.invokevirtual 72, 3) := by decide +kernel
theorem dL_law_497 : decode mL_law.2.1 497 = .ok (.if_icmp .eq 68, 3) := by decide +kernel
theorem dL_law_500 : decode mL_law.2.1 500 = .ok (.iconst 0, 1) := by decide +kernel
theorem dL_law_501 : decode mL_law.2.1 501 = .ok (.ireturn, 1) := by decide +kernel
theorem dL_law_502 : decode mL_law.2.1 502 = .ok (.aload_n 1, 1) := by decide +kernel
theorem dL_law_503 : decode mL_law.2.1 503 = .ok (.invokevirtual 73, 3) := by decide +kernel
theorem dL_law_506 : decode mL_law.2.1 506 = .ok (.aload_n 2, 1) := by decide +kernel
theorem dL_law_507 : decode mL_law.2.1 507 = .ok (.invokevirtual 76, 3) := by decide +kernel
theorem dL_law_510 : decode mL_law.2.1 510 = .ok (.if_icmp .eq 55, 3) := by decide +kernel
theorem dL_law_513 : decode mL_law.2.1 513 = .ok (.iconst 0, 1) := by decide +kernel
theorem dL_law_514 : decode mL_law.2.1 514 = .ok (.ireturn, 1) := by decide +kernel
theorem dL_law_515 : decode mL_law.2.1 515 = .ok (.aload_n 1, 1) := by decide +kernel
theorem dL_law_516 : decode mL_law.2.1 516 = .ok (.invokevirtual 77, 3) := by decide +kernel
theorem dL_law_519 : decode mL_law.2.1 519 = .ok (.aload_n 2, 1) := by decide +kernel
theorem dL_law_520 : decode mL_law.2.1 520 = .ok (.invokevirtual 80, 3) := by decide +kernel
theorem dL_law_523 : decode mL_law.2.1 523 = .ok (.if_icmp .eq 42, 3) := by decide +kernel
theorem dL_law_526 : decode mL_law.2.1 526 = .ok (.iconst 0, 1) := by decide +kernel
theorem dL_law_527 : decode mL_law.2.1 527 = .ok (.ireturn, 1) := by decide +kernel
theorem dL_law_528 : decode mL_law.2.1 528 = .ok (.aload_n 1, 1) := by decide +kernel
theorem dL_law_529 : decode mL_law.2.1 529 = .ok (.aload_n 0, 1) := by decide +kernel
theorem dL_law_530 : decode mL_law.2.1 530 = .ok (.iload_n 3, 1) := by decide +kernel
theorem dL_law_531 : decode mL_law.2.1 531 = .ok (.iconst 1, 1) := by decide +kernel
theorem dL_law_532 : decode mL_law.2.1 532 = .ok (.iadd, 1) := by decide +kernel
theorem dL_law_533 : decode mL_law.2.1 533 = .ok (.iaload, 1) := by decide +kernel
theorem dL_law_534 : decode mL_law.2.1 534 = .ok (.invokevirtual 81, 3) := by decide +kernel
theorem dL_law_537 : decode mL_law.2.1 537 = .ok (.aload_n 2, 1) := by decide +kernel
theorem dL_law_538 : decode mL_law.2.1 538 = .ok (.aload_n 0, 1) := by decide +kernel
theorem dL_law_539 : decode mL_law.2.1 539 = .ok (.iload_n 3, 1) := by decide +kernel
theorem dL_law_540 : decode mL_law.2.1 540 = .ok (.iconst 1, 1) := by decide +kernel
theorem dL_law_541 : decode mL_law.2.1 541 = .ok (.iadd, 1) := by decide +kernel
theorem dL_law_542 : decode mL_law.2.1 542 = .ok (.iaload, 1) := by decide +kernel
theorem dL_law_543 : decode mL_law.2.1 543 = .ok (.invokevirtual 84, 3) := by decide +kernel
theorem dL_law_546 : decode mL_law.2.1 546 = .ok (.if_icmp .eq 19, 3) := by decide +kernel
theorem dL_law_549 : decode mL_law.2.1 549 = .ok (.iconst 0, 1) := by decide +kernel
theorem dL_law_550 : decode mL_law.2.1 550 = .ok (.ireturn, 1) := by decide +kernel
theorem dL_law_551 : decode mL_law.2.1 551 = .ok (.aload_n 1, 1) := by decide +kernel
theorem dL_law_552 : decode mL_law.2.1 552 = .ok (.invokevirtual 85, 3) := by decide +kernel
theorem dL_law_555 : decode mL_law.2.1 555 = .ok (.aload_n 2, 1) := by decide +kernel
theorem dL_law_556 : decode mL_law.2.1 556 = .ok (.invokevirtual 89, 3) := by decide +kernel
theorem dL_law_559 : decode mL_law.2.1 559 = .ok (.lcmp, 1) := by decide +kernel
theorem dL_law_560 : decode mL_law.2.1 560 = .ok (.ifCond .eq 5, 3) := by decide +kernel
theorem dL_law_563 : decode mL_law.2.1 563 = .ok (.iconst 0, 1) := by decide +kernel
theorem dL_law_564 : decode mL_law.2.1 564 = .ok (.ireturn, 1) := by decide +kernel
theorem dL_law_565 : decode mL_law.2.1 565 = .ok (.iinc 3 4, 3) := by decide +kernel
theorem dL_law_568 : decode mL_law.2.1 568 = .ok (.goto (-550), 3) := by decide +kernel
theorem dL_law_571 : decode mL_law.2.1 571 = .ok (.iconst 1, 1) := by decide +kernel
theorem dL_law_572 : decode mL_law.2.1 572 = .ok (.ireturn, 1) := by decide +kernel
