theorem dX0_init_0 : decode mX0_init.2.1 0 = .ok (.aload_n 0, 1) := by decide +kernel
theorem dX0_init_1 : decode mX0_init.2.1 1 = .ok (.invokespecial 3, 3) := by decide +kernel
theorem dX0_init_4 : decode mX0_init.2.1 4 = .ok (.aload_n 0, 1) := by decide +kernel
theorem dX0_init_5 : decode mX0_init.2.1 5 = .ok (.bipush 32, 2) := by decide +kernel
theorem dX0_init_7 : decode mX0_init.2.1 7 = .ok (.newarray .int, 2) := by decide +kernel
theorem dX0_init_9 : decode mX0_init.2.1 9 = .ok (.putfield 9, 3) := by decide +kernel
theorem dX0_init_12 : decode mX0_init.2.1 12 = .ok (.aload_n 0, 1) := by decide +kernel
theorem dX0_init_13 : decode mX0_init.2.1 13 = .ok (.iconst 4, 1) := by decide +kernel
theorem dX0_init_14 : decode mX0_init.2.1 14 = .ok (.newarray .int, 2) := by decide +kernel
theorem dX0_init_16 : decode mX0_init.2.1 16 = .ok (.putfield 15, 3) := by decide +kernel
theorem dX0_init_19 : decode mX0_init.2.1 19 = .ok (.aload_n 0, 1) := by decide +kernel
theorem dX0_init_20 : decode mX0_init.2.1 20 = .ok (.aload_n 1, 1) := by decide +kernel
theorem dX0_init_21 : decode mX0_init.2.1 21 = .ok (.putfield 18, 3) := by decide +kernel
theorem dX0_init_24 : decode mX0_init.2.1 24 = .ok (.aload_n 0, 1) := by decide +kernel
theorem dX0_init_25 : decode mX0_init.2.1 25 = .ok (.aload_n 2, 1) := by decide +kernel
theorem dX0_init_26 : decode mX0_init.2.1 26 = .ok (.putfield 22, 3) := by decide +kernel
theorem dX0_init_29 : decode mX0_init.2.1 29 = .ok (.aload_n 0, 1) := by decide +kernel
theorem dX0_init_30 : decode mX0_init.2.1 30 = .ok (.aload_n 3, 1) := by decide +kernel
theorem dX0_init_31 : decode mX0_init.2.1 31 = .ok (.putfield 26, 3) := by decide +kernel
theorem dX0_init_34 : decode mX0_init.2.1 34 = .ok (.return_, 1) := by decide +kernel
theorem dX0_ofSite_0 : decode mX0_ofSite.2.1 0 = .ok (.iload_n 1, 1) := by decide +kernel
theorem dX0_ofSite_1 : decode mX0_ofSite.2.1 1 = .ok (.bipush 32, 2) := by decide +kernel
theorem dX0_ofSite_3 : decode mX0_ofSite.2.1 3 = .ok (.invokestatic 30, 3) := by decide +kernel
theorem dX0_ofSite_6 : decode mX0_ofSite.2.1 6 = .ok (.ifCond .eq 7, 3) := by decide +kernel
theorem dX0_ofSite_9 : decode mX0_ofSite.2.1 9 = .ok (.iconst 0, 1) := by decide +kernel
theorem dX0_ofSite_10 : decode mX0_ofSite.2.1 10 = .ok (.goto 9, 3) := by decide +kernel
theorem dX0_ofSite_13 : decode mX0_ofSite.2.1 13 = .ok (.aload_n 0, 1) := by decide +kernel
theorem dX0_ofSite_14 : decode mX0_ofSite.2.1 14 = .ok (.getfield 9, 3) := by decide +kernel
theorem dX0_ofSite_17 : decode mX0_ofSite.2.1 17 = .ok (.iload_n 1, 1) := by decide +kernel
theorem dX0_ofSite_18 : decode mX0_ofSite.2.1 18 = .ok (.iaload, 1) := by decide +kernel
theorem dX0_ofSite_19 : decode mX0_ofSite.2.1 19 = .ok (.ireturn, 1) := by decide +kernel
theorem dX0_idleLines_0 : decode mX0_idleLines.2.1 0 = .ok (.iload_n 1, 1) := by decide +kernel
theorem dX0_idleLines_1 : decode mX0_idleLines.2.1 1 = .ok (.iconst 4, 1) := by decide +kernel
theorem dX0_idleLines_2 : decode mX0_idleLines.2.1 2 = .ok (.invokestatic 30, 3) := by decide +kernel
theorem dX0_idleLines_5 : decode mX0_idleLines.2.1 5 = .ok (.ifCond .eq 7, 3) := by decide +kernel
theorem dX0_idleLines_8 : decode mX0_idleLines.2.1 8 = .ok (.iconst 0, 1) := by decide +kernel
theorem dX0_idleLines_9 : decode mX0_idleLines.2.1 9 = .ok (.goto 9, 3) := by decide +kernel
theorem dX0_idleLines_12 : decode mX0_idleLines.2.1 12 = .ok (.aload_n 0, 1) := by decide +kernel
theorem dX0_idleLines_13 : decode mX0_idleLines.2.1 13 = .ok (.getfield 15, 3) := by decide +kernel
theorem dX0_idleLines_16 : decode mX0_idleLines.2.1 16 = .ok (.iload_n 1, 1) := by decide +kernel
theorem dX0_idleLines_17 : decode mX0_idleLines.2.1 17 = .ok (.iaload, 1) := by decide +kernel
theorem dX0_idleLines_18 : decode mX0_idleLines.2.1 18 = .ok (.ireturn, 1) := by decide +kernel
theorem dX0_countOf_0 : decode mX0_countOf.2.1 0 = .ok (.iconst 0, 1) := by decide +kernel
theorem dX0_countOf_1 : decode mX0_countOf.2.1 1 = .ok (.istore_n 2, 1) := by decide +kernel
theorem dX0_countOf_2 : decode mX0_countOf.2.1 2 = .ok (.iconst 0, 1) := by decide +kernel
theorem dX0_countOf_3 : decode mX0_countOf.2.1 3 = .ok (.istore_n 3, 1) := by decide +kernel
theorem dX0_countOf_4 : decode mX0_countOf.2.1 4 = .ok (.iload_n 3, 1) := by decide +kernel
theorem dX0_countOf_5 : decode mX0_countOf.2.1 5 = .ok (.aload_n 0, 1) := by decide +kernel
theorem dX0_countOf_6 : decode mX0_countOf.2.1 6 = .ok (.getfield 22, 3) := by decide +kernel
theorem dX0_countOf_9 : decode mX0_countOf.2.1 9 = .ok (.invokevirtual 34, 3) := by decide +kernel
theorem dX0_countOf_12 : decode mX0_countOf.2.1 12 = .ok (.if_icmp .ge 22, 3) := by decide +kernel
theorem dX0_countOf_15 : decode mX0_countOf.2.1 15 = .ok (.aload_n 0, 1) := by decide +kernel
theorem dX0_countOf_16 : decode mX0_countOf.2.1 16 = .ok (.getfield 9, 3) := by decide +kernel
theorem dX0_countOf_19 : decode mX0_countOf.2.1 19 = .ok (.iload_n 3, 1) := by decide +kernel
theorem dX0_countOf_20 : decode mX0_countOf.2.1 20 = .ok (.iaload, 1) := by decide +kernel
theorem dX0_countOf_21 : decode mX0_countOf.2.1 21 = .ok (.iload_n 1, 1) := by decide +kernel
theorem dX0_countOf_22 : decode mX0_countOf.2.1 22 = .ok (.if_icmp .ne 6, 3) := by decide +kernel
theorem dX0_countOf_25 : decode mX0_countOf.2.1 25 = .ok (.iinc 2 1, 3) := by decide +kernel
theorem dX0_countOf_28 : decode mX0_countOf.2.1 28 = .ok (.iinc 3 1, 3) := by decide +kernel
theorem dX0_countOf_31 : decode mX0_countOf.2.1 31 = .ok (.goto (-27), 3) := by decide +kernel
theorem dX0_countOf_34 : decode mX0_countOf.2.1 34 = .ok (.iload_n 2, 1) := by decide +kernel
theorem dX0_countOf_35 : decode mX0_countOf.2.1 35 = .ok (.ireturn, 1) := by decide +kernel
theorem dX0_keptIn_0 : decode mX0_keptIn.2.1 0 = .ok (.iconst 0, 1) := by decide +kernel
theorem dX0_keptIn_1 : decode mX0_keptIn.2.1 1 = .ok (.istore_n 2, 1) := by decide +kernel
theorem dX0_keptIn_2 : decode mX0_keptIn.2.1 2 = .ok (.iconst 0, 1) := by decide +kernel
theorem dX0_keptIn_3 : decode mX0_keptIn.2.1 3 = .ok (.istore_n 3, 1) := by decide +kernel
theorem dX0_keptIn_4 : decode mX0_keptIn.2.1 4 = .ok (.iload_n 3, 1) := by decide +kernel
theorem dX0_keptIn_5 : decode mX0_keptIn.2.1 5 = .ok (.aload_n 0, 1) := by decide +kernel
theorem dX0_keptIn_6 : decode mX0_keptIn.2.1 6 = .ok (.getfield 22, 3) := by decide +kernel
theorem dX0_keptIn_9 : decode mX0_keptIn.2.1 9 = .ok (.invokevirtual 34, 3) := by decide +kernel
theorem dX0_keptIn_12 : decode mX0_keptIn.2.1 12 = .ok (.if_icmp .ge 33, 3) := by decide +kernel
theorem dX0_keptIn_15 : decode mX0_keptIn.2.1 15 = .ok (.aload_n 0, 1) := by decide +kernel
theorem dX0_keptIn_16 : decode mX0_keptIn.2.1 16 = .ok (.getfield 22, 3) := by decide +kernel
theorem dX0_keptIn_19 : decode mX0_keptIn.2.1 19 = .ok (.iload_n 3, 1) := by decide +kernel
theorem dX0_keptIn_20 : decode mX0_keptIn.2.1 20 = .ok (.invokevirtual 40, 3) := by decide +kernel
theorem dX0_keptIn_23 : decode mX0_keptIn.2.1 23 = .ok (.iload_n 1, 1) := by decide +kernel
theorem dX0_keptIn_24 : decode mX0_keptIn.2.1 24 = .ok (.if_icmp .ne 15, 3) := by decide +kernel
theorem dX0_keptIn_27 : decode mX0_keptIn.2.1 27 = .ok (.aload_n 0, 1) := by decide +kernel
theorem dX0_keptIn_28 : decode mX0_keptIn.2.1 28 = .ok (.getfield 9, 3) := by decide +kernel
theorem dX0_keptIn_31 : decode mX0_keptIn.2.1 31 = .ok (.iload_n 3, 1) := by decide +kernel
theorem dX0_keptIn_32 : decode mX0_keptIn.2.1 32 = .ok (.iaload, 1) := by decide +kernel
theorem dX0_keptIn_33 : decode mX0_keptIn.2.1 33 = .ok (.ifCond .ne 6, 3) := by decide +kernel
theorem dX0_keptIn_36 : decode mX0_keptIn.2.1 36 = .ok (.iinc 2 1, 3) := by decide +kernel
theorem dX0_keptIn_39 : decode mX0_keptIn.2.1 39 = .ok (.iinc 3 1, 3) := by decide +kernel
theorem dX0_keptIn_42 : decode mX0_keptIn.2.1 42 = .ok (.goto (-38), 3) := by decide +kernel
theorem dX0_keptIn_45 : decode mX0_keptIn.2.1 45 = .ok (.iload_n 2, 1) := by decide +kernel
theorem dX0_keptIn_46 : decode mX0_keptIn.2.1 46 = .ok (.ireturn, 1) := by decide +kernel
theorem dX0_find_0 : decode mX0_find.2.1 0 = .ok (.aload_n 0, 1) := by decide +kernel
theorem dX0_find_1 : decode mX0_find.2.1 1 = .ok (.getfield 26, 3) := by decide +kernel
theorem dX0_find_4 : decode mX0_find.2.1 4 = .ok (.aload_n 0, 1) := by decide +kernel
theorem dX0_find_5 : decode mX0_find.2.1 5 = .ok (.getfield 26, 3) := by decide +kernel
theorem dX0_find_8 : decode mX0_find.2.1 8 = .ok (.invokevirtual 44, 3) := by decide +kernel
theorem dX0_find_11 : decode mX0_find.2.1 11 = .ok (.invokevirtual 49, 3) := by decide +kernel
theorem dX0_find_14 : decode mX0_find.2.1 14 = .ok (.istore_n 1, 1) := by decide +kernel
theorem dX0_find_15 : decode mX0_find.2.1 15 = .ok (.iconst 0, 1) := by decide +kernel
theorem dX0_find_16 : decode mX0_find.2.1 16 = .ok (.istore_n 2, 1) := by decide +kernel
theorem dX0_find_17 : decode mX0_find.2.1 17 = .ok (.iload_n 2, 1) := by decide +kernel
theorem dX0_find_18 : decode mX0_find.2.1 18 = .ok (.aload_n 0, 1) := by decide +kernel
theorem dX0_find_19 : decode mX0_find.2.1 19 = .ok (.getfield 18, 3) := by decide +kernel
theorem dX0_find_22 : decode mX0_find.2.1 22 = .ok (.invokevirtual 52, 3) := by decide +kernel
theorem dX0_find_25 : decode mX0_find.2.1 25 = .ok (.if_icmp .ge 43, 3) := by decide +kernel
theorem dX0_find_28 : decode mX0_find.2.1 28 = .ok (.aload_n 0, 1) := by decide +kernel
theorem dX0_find_29 : decode mX0_find.2.1 29 = .ok (.getfield 26, 3) := by decide +kernel
theorem dX0_find_32 : decode mX0_find.2.1 32 = .ok (.aload_n 0, 1) := by decide +kernel
theorem dX0_find_33 : decode mX0_find.2.1 33 = .ok (.getfield 26, 3) := by decide +kernel
theorem dX0_find_36 : decode mX0_find.2.1 36 = .ok (.iload_n 2, 1) := by decide +kernel
theorem dX0_find_37 : decode mX0_find.2.1 37 = .ok (.iconst 0, 1) := by decide +kernel
theorem dX0_find_38 : decode mX0_find.2.1 38 = .ok (.invokevirtual 55, 3) := by decide +kernel
theorem dX0_find_41 : decode mX0_find.2.1 41 = .ok (.aload_n 0, 1) := by decide +kernel
theorem dX0_find_42 : decode mX0_find.2.1 42 = .ok (.getfield 26, 3) := by decide +kernel
theorem dX0_find_45 : decode mX0_find.2.1 45 = .ok (.iload_n 2, 1) := by decide +kernel
theorem dX0_find_46 : decode mX0_find.2.1 46 = .ok (.iconst 3, 1) := by decide +kernel
theorem dX0_find_47 : decode mX0_find.2.1 47 = .ok (.invokevirtual 55, 3) := by decide +kernel
theorem dX0_find_50 : decode mX0_find.2.1 50 = .ok (.ior, 1) := by decide +kernel
theorem dX0_find_51 : decode mX0_find.2.1 51 = .ok (.invokevirtual 49, 3) := by decide +kernel
theorem dX0_find_54 : decode mX0_find.2.1 54 = .ok (.istore_n 3, 1) := by decide +kernel
theorem dX0_find_55 : decode mX0_find.2.1 55 = .ok (.aload_n 0, 1) := by decide +kernel
theorem dX0_find_56 : decode mX0_find.2.1 56 = .ok (.iload_n 2, 1) := by decide +kernel
theorem dX0_find_57 : decode mX0_find.2.1 57 = .ok (.iload_n 1, 1) := by decide +kernel
theorem dX0_find_58 : decode mX0_find.2.1 58 = .ok (.iload_n 3, 1) := by decide +kernel
theorem dX0_find_59 : decode mX0_find.2.1 59 = .ok (.invokevirtual 59, 3) := by decide +kernel
theorem dX0_find_62 : decode mX0_find.2.1 62 = .ok (.iinc 2 1, 3) := by decide +kernel
theorem dX0_find_65 : decode mX0_find.2.1 65 = .ok (.goto (-48), 3) := by decide +kernel
theorem dX0_find_68 : decode mX0_find.2.1 68 = .ok (.aload_n 0, 1) := by decide +kernel
theorem dX0_find_69 : decode mX0_find.2.1 69 = .ok (.invokevirtual 63, 3) := by decide +kernel
theorem dX0_find_72 : decode mX0_find.2.1 72 = .ok (.istore_n 2, 1) := by decide +kernel
theorem dX0_find_73 : decode mX0_find.2.1 73 = .ok (.iconst 0, 1) := by decide +kernel
theorem dX0_find_74 : decode mX0_find.2.1 74 = .ok (.istore_n 3, 1) := by decide +kernel
theorem dX0_find_75 : decode mX0_find.2.1 75 = .ok (.iload_n 3, 1) := by decide +kernel
theorem dX0_find_76 : decode mX0_find.2.1 76 = .ok (.aload_n 0, 1) := by decide +kernel
theorem dX0_find_77 : decode mX0_find.2.1 77 = .ok (.getfield 18, 3) := by decide +kernel
theorem dX0_find_80 : decode mX0_find.2.1 80 = .ok (.invokevirtual 52, 3) := by decide +kernel
theorem dX0_find_83 : decode mX0_find.2.1 83 = .ok (.if_icmp .ge 21, 3) := by decide +kernel
theorem dX0_find_86 : decode mX0_find.2.1 86 = .ok (.aload_n 0, 1) := by decide +kernel
theorem dX0_find_87 : decode mX0_find.2.1 87 = .ok (.getfield 15, 3) := by decide +kernel
theorem dX0_find_90 : decode mX0_find.2.1 90 = .ok (.iload_n 3, 1) := by decide +kernel
theorem dX0_find_91 : decode mX0_find.2.1 91 = .ok (.aload_n 0, 1) := by decide +kernel
theorem dX0_find_92 : decode mX0_find.2.1 92 = .ok (.iload_n 3, 1) := by decide +kernel
theorem dX0_find_93 : decode mX0_find.2.1 93 = .ok (.iload_n 2, 1) := by decide +kernel
theorem dX0_find_94 : decode mX0_find.2.1 94 = .ok (.invokevirtual 66, 3) := by decide +kernel
theorem dX0_find_97 : decode mX0_find.2.1 97 = .ok (.iastore, 1) := by decide +kernel
theorem dX0_find_98 : decode mX0_find.2.1 98 = .ok (.iinc 3 1, 3) := by decide +kernel
theorem dX0_find_101 : decode mX0_find.2.1 101 = .ok (.goto (-26), 3) := by decide +kernel
theorem dX0_find_104 : decode mX0_find.2.1 104 = .ok (.return_, 1) := by decide +kernel
theorem dX0_giveFates_0 : decode mX0_giveFates.2.1 0 = .ok (.iconst 0, 1) := by decide +kernel
theorem dX0_giveFates_1 : decode mX0_giveFates.2.1 1 = .ok (.istore 4, 2) := by decide +kernel
theorem dX0_giveFates_3 : decode mX0_giveFates.2.1 3 = .ok (.iload 4, 2) := by decide +kernel
theorem dX0_giveFates_5 : decode mX0_giveFates.2.1 5 = .ok (.aload_n 0, 1) := by decide +kernel
theorem dX0_giveFates_6 : decode mX0_giveFates.2.1 6 = .ok (.getfield 22, 3) := by decide +kernel
theorem dX0_giveFates_9 : decode mX0_giveFates.2.1 9 = .ok (.invokevirtual 34, 3) := by decide +kernel
theorem dX0_giveFates_12 : decode mX0_giveFates.2.1 12 = .ok (.if_icmp .ge 44, 3) := by decide +kernel
theorem dX0_giveFates_15 : decode mX0_giveFates.2.1 15 = .ok (.aload_n 0, 1) := by decide +kernel
theorem dX0_giveFates_16 : decode mX0_giveFates.2.1 16 = .ok (.getfield 22, 3) := by decide +kernel
theorem dX0_giveFates_19 : decode mX0_giveFates.2.1 19 = .ok (.iload 4, 2) := by decide +kernel
theorem dX0_giveFates_21 : decode mX0_giveFates.2.1 21 = .ok (.invokevirtual 40, 3) := by decide +kernel
theorem dX0_giveFates_24 : decode mX0_giveFates.2.1 24 = .ok (.iload_n 1, 1) := by decide +kernel
theorem dX0_giveFates_25 : decode mX0_giveFates.2.1 25 = .ok (.if_icmp .ne 25, 3) := by decide +kernel
theorem dX0_giveFates_28 : decode mX0_giveFates.2.1 28 = .ok (.aload_n 0, 1) := by decide +kernel
theorem dX0_giveFates_29 : decode mX0_giveFates.2.1 29 = .ok (.getfield 9, 3) := by decide +kernel
theorem dX0_giveFates_32 : decode mX0_giveFates.2.1 32 = .ok (.iload 4, 2) := by decide +kernel
theorem dX0_giveFates_34 : decode mX0_giveFates.2.1 34 = .ok (.iload_n 2, 1) := by decide +kernel
theorem dX0_giveFates_35 : decode mX0_giveFates.2.1 35 = .ok (.iload 4, 2) := by decide +kernel
theorem dX0_giveFates_37 : decode mX0_giveFates.2.1 37 = .ok (.ishr, 1) := by decide +kernel
theorem dX0_giveFates_38 : decode mX0_giveFates.2.1 38 = .ok (.iconst 1, 1) := by decide +kernel
theorem dX0_giveFates_39 : decode mX0_giveFates.2.1 39 = .ok (.iand, 1) := by decide +kernel
theorem dX0_giveFates_40 : decode mX0_giveFates.2.1 40 = .ok (.iload_n 3, 1) := by decide +kernel
theorem dX0_giveFates_41 : decode mX0_giveFates.2.1 41 = .ok (.iload 4, 2) := by decide +kernel
theorem dX0_giveFates_43 : decode mX0_giveFates.2.1 43 = .ok (.ishr, 1) := by decide +kernel
theorem dX0_giveFates_44 : decode mX0_giveFates.2.1 44 = .ok (.iconst 1, 1) := by decide +kernel
theorem dX0_giveFates_45 : decode mX0_giveFates.2.1 45 = .ok (.iand, 1) := by decide +kernel
theorem dX0_giveFates_46 : decode mX0_giveFates.2.1 46 = .ok (.invokestatic 69, 3) := by decide +kernel
theorem dX0_giveFates_49 : decode mX0_giveFates.2.1 49 = .ok (.iastore, 1) := by decide +kernel
theorem dX0_giveFates_50 : decode mX0_giveFates.2.1 50 = .ok (.iinc 4 1, 3) := by decide +kernel
theorem dX0_giveFates_53 : decode mX0_giveFates.2.1 53 = .ok (.goto (-50), 3) := by decide +kernel
theorem dX0_giveFates_56 : decode mX0_giveFates.2.1 56 = .ok (.return_, 1) := by decide +kernel
theorem dX0_fateOf_0 : decode mX0_fateOf.2.1 0 = .ok (.iload_n 0, 1) := by decide +kernel
theorem dX0_fateOf_1 : decode mX0_fateOf.2.1 1 = .ok (.iconst 1, 1) := by decide +kernel
theorem dX0_fateOf_2 : decode mX0_fateOf.2.1 2 = .ok (.if_icmp .ne 5, 3) := by decide +kernel
theorem dX0_fateOf_5 : decode mX0_fateOf.2.1 5 = .ok (.iconst 2, 1) := by decide +kernel
theorem dX0_fateOf_6 : decode mX0_fateOf.2.1 6 = .ok (.ireturn, 1) := by decide +kernel
theorem dX0_fateOf_7 : decode mX0_fateOf.2.1 7 = .ok (.iload_n 1, 1) := by decide +kernel
theorem dX0_fateOf_8 : decode mX0_fateOf.2.1 8 = .ok (.iconst 1, 1) := by decide +kernel
theorem dX0_fateOf_9 : decode mX0_fateOf.2.1 9 = .ok (.if_icmp .ne 7, 3) := by decide +kernel
theorem dX0_fateOf_12 : decode mX0_fateOf.2.1 12 = .ok (.iconst 1, 1) := by decide +kernel
theorem dX0_fateOf_13 : decode mX0_fateOf.2.1 13 = .ok (.goto 4, 3) := by decide +kernel
theorem dX0_fateOf_16 : decode mX0_fateOf.2.1 16 = .ok (.iconst 0, 1) := by decide +kernel
theorem dX0_fateOf_17 : decode mX0_fateOf.2.1 17 = .ok (.ireturn, 1) := by decide +kernel
theorem dX0_allKept_0 : decode mX0_allKept.2.1 0 = .ok (.iconst 0, 1) := by decide +kernel
theorem dX0_allKept_1 : decode mX0_allKept.2.1 1 = .ok (.istore_n 1, 1) := by decide +kernel
theorem dX0_allKept_2 : decode mX0_allKept.2.1 2 = .ok (.iconst 0, 1) := by decide +kernel
theorem dX0_allKept_3 : decode mX0_allKept.2.1 3 = .ok (.istore_n 2, 1) := by decide +kernel
theorem dX0_allKept_4 : decode mX0_allKept.2.1 4 = .ok (.iload_n 2, 1) := by decide +kernel
theorem dX0_allKept_5 : decode mX0_allKept.2.1 5 = .ok (.aload_n 0, 1) := by decide +kernel
theorem dX0_allKept_6 : decode mX0_allKept.2.1 6 = .ok (.getfield 22, 3) := by decide +kernel
theorem dX0_allKept_9 : decode mX0_allKept.2.1 9 = .ok (.invokevirtual 34, 3) := by decide +kernel
theorem dX0_allKept_12 : decode mX0_allKept.2.1 12 = .ok (.if_icmp .ge 24, 3) := by decide +kernel
theorem dX0_allKept_15 : decode mX0_allKept.2.1 15 = .ok (.aload_n 0, 1) := by decide +kernel
theorem dX0_allKept_16 : decode mX0_allKept.2.1 16 = .ok (.getfield 9, 3) := by decide +kernel
theorem dX0_allKept_19 : decode mX0_allKept.2.1 19 = .ok (.iload_n 2, 1) := by decide +kernel
theorem dX0_allKept_20 : decode mX0_allKept.2.1 20 = .ok (.iaload, 1) := by decide +kernel
theorem dX0_allKept_21 : decode mX0_allKept.2.1 21 = .ok (.ifCond .ne 9, 3) := by decide +kernel
theorem dX0_allKept_24 : decode mX0_allKept.2.1 24 = .ok (.iload_n 1, 1) := by decide +kernel
theorem dX0_allKept_25 : decode mX0_allKept.2.1 25 = .ok (.iconst 1, 1) := by decide +kernel
theorem dX0_allKept_26 : decode mX0_allKept.2.1 26 = .ok (.iload_n 2, 1) := by decide +kernel
theorem dX0_allKept_27 : decode mX0_allKept.2.1 27 = .ok (.ishl, 1) := by decide +kernel
theorem dX0_allKept_28 : decode mX0_allKept.2.1 28 = .ok (.ior, 1) := by decide +kernel
theorem dX0_allKept_29 : decode mX0_allKept.2.1 29 = .ok (.istore_n 1, 1) := by decide +kernel
theorem dX0_allKept_30 : decode mX0_allKept.2.1 30 = .ok (.iinc 2 1, 3) := by decide +kernel
theorem dX0_allKept_33 : decode mX0_allKept.2.1 33 = .ok (.goto (-29), 3) := by decide +kernel
theorem dX0_allKept_36 : decode mX0_allKept.2.1 36 = .ok (.iload_n 1, 1) := by decide +kernel
theorem dX0_allKept_37 : decode mX0_allKept.2.1 37 = .ok (.ireturn, 1) := by decide +kernel
theorem dX0_idleAmong_0 : decode mX0_idleAmong.2.1 0 = .ok (.iconst 0, 1) := by decide +kernel
theorem dX0_idleAmong_1 : decode mX0_idleAmong.2.1 1 = .ok (.istore_n 3, 1) := by decide +kernel
theorem dX0_idleAmong_2 : decode mX0_idleAmong.2.1 2 = .ok (.iconst 0, 1) := by decide +kernel
theorem dX0_idleAmong_3 : decode mX0_idleAmong.2.1 3 = .ok (.istore 4, 2) := by decide +kernel
theorem dX0_idleAmong_5 : decode mX0_idleAmong.2.1 5 = .ok (.iload 4, 2) := by decide +kernel
theorem dX0_idleAmong_7 : decode mX0_idleAmong.2.1 7 = .ok (.aload_n 0, 1) := by decide +kernel
theorem dX0_idleAmong_8 : decode mX0_idleAmong.2.1 8 = .ok (.getfield 18, 3) := by decide +kernel
theorem dX0_idleAmong_11 : decode mX0_idleAmong.2.1 11 = .ok (.iload_n 1, 1) := by decide +kernel
theorem dX0_idleAmong_12 : decode mX0_idleAmong.2.1 12 = .ok (.invokevirtual 72, 3) := by decide +kernel
theorem dX0_idleAmong_15 : decode mX0_idleAmong.2.1 15 = .ok (.if_icmp .ge 65, 3) := by decide +kernel
theorem dX0_idleAmong_18 : decode mX0_idleAmong.2.1 18 = .ok (.aload_n 0, 1) := by decide +kernel
theorem dX0_idleAmong_19 : decode mX0_idleAmong.2.1 19 = .ok (.getfield 26, 3) := by decide +kernel
theorem dX0_idleAmong_22 : decode mX0_idleAmong.2.1 22 = .ok (.iload_n 1, 1) := by decide +kernel
theorem dX0_idleAmong_23 : decode mX0_idleAmong.2.1 23 = .ok (.aload_n 0, 1) := by decide +kernel
theorem dX0_idleAmong_24 : decode mX0_idleAmong.2.1 24 = .ok (.getfield 18, 3) := by decide +kernel
theorem dX0_idleAmong_27 : decode mX0_idleAmong.2.1 27 = .ok (.iload_n 1, 1) := by decide +kernel
theorem dX0_idleAmong_28 : decode mX0_idleAmong.2.1 28 = .ok (.iload 4, 2) := by decide +kernel
theorem dX0_idleAmong_30 : decode mX0_idleAmong.2.1 30 = .ok (.invokevirtual 75, 3) := by decide +kernel
theorem dX0_idleAmong_33 : decode mX0_idleAmong.2.1 33 = .ok (.invokevirtual 55, 3) := by decide +kernel
theorem dX0_idleAmong_36 : decode mX0_idleAmong.2.1 36 = .ok (.istore 5, 2) := by decide +kernel
theorem dX0_idleAmong_38 : decode mX0_idleAmong.2.1 38 = .ok (.aload_n 0, 1) := by decide +kernel
theorem dX0_idleAmong_39 : decode mX0_idleAmong.2.1 39 = .ok (.getfield 18, 3) := by decide +kernel
theorem dX0_idleAmong_42 : decode mX0_idleAmong.2.1 42 = .ok (.iload_n 1, 1) := by decide +kernel
theorem dX0_idleAmong_43 : decode mX0_idleAmong.2.1 43 = .ok (.iload 4, 2) := by decide +kernel
theorem dX0_idleAmong_45 : decode mX0_idleAmong.2.1 45 = .ok (.invokevirtual 78, 3) := by decide +kernel
theorem dX0_idleAmong_48 : decode mX0_idleAmong.2.1 48 = .ok (.bipush 6, 2) := by decide +kernel
theorem dX0_idleAmong_50 : decode mX0_idleAmong.2.1 50 = .ok (.if_icmp .ne 24, 3) := by decide +kernel
theorem dX0_idleAmong_53 : decode mX0_idleAmong.2.1 53 = .ok (.iload 5, 2) := by decide +kernel
theorem dX0_idleAmong_55 : decode mX0_idleAmong.2.1 55 = .ok (.ifCond .eq 19, 3) := by decide +kernel
theorem dX0_idleAmong_58 : decode mX0_idleAmong.2.1 58 = .ok (.iload 5, 2) := by decide +kernel
theorem dX0_idleAmong_60 : decode mX0_idleAmong.2.1 60 = .ok (.iload_n 2, 1) := by decide +kernel
theorem dX0_idleAmong_61 : decode mX0_idleAmong.2.1 61 = .ok (.iconst (-1), 1) := by decide +kernel
theorem dX0_idleAmong_62 : decode mX0_idleAmong.2.1 62 = .ok (.ixor, 1) := by decide +kernel
theorem dX0_idleAmong_63 : decode mX0_idleAmong.2.1 63 = .ok (.iand, 1) := by decide +kernel
theorem dX0_idleAmong_64 : decode mX0_idleAmong.2.1 64 = .ok (.ifCond .ne 10, 3) := by decide +kernel
theorem dX0_idleAmong_67 : decode mX0_idleAmong.2.1 67 = .ok (.iload_n 3, 1) := by decide +kernel
theorem dX0_idleAmong_68 : decode mX0_idleAmong.2.1 68 = .ok (.iconst 1, 1) := by decide +kernel
theorem dX0_idleAmong_69 : decode mX0_idleAmong.2.1 69 = .ok (.iload 4, 2) := by decide +kernel
theorem dX0_idleAmong_71 : decode mX0_idleAmong.2.1 71 = .ok (.ishl, 1) := by decide +kernel
theorem dX0_idleAmong_72 : decode mX0_idleAmong.2.1 72 = .ok (.ior, 1) := by decide +kernel
theorem dX0_idleAmong_73 : decode mX0_idleAmong.2.1 73 = .ok (.istore_n 3, 1) := by decide +kernel
theorem dX0_idleAmong_74 : decode mX0_idleAmong.2.1 74 = .ok (.iinc 4 1, 3) := by decide +kernel
theorem dX0_idleAmong_77 : decode mX0_idleAmong.2.1 77 = .ok (.goto (-72), 3) := by decide +kernel
theorem dX0_idleAmong_80 : decode mX0_idleAmong.2.1 80 = .ok (.iload_n 3, 1) := by decide +kernel
theorem dX0_idleAmong_81 : decode mX0_idleAmong.2.1 81 = .ok (.ireturn, 1) := by decide +kernel
theorem dX1_init_0 : decode mX1_init.2.1 0 = .ok (.aload_n 0, 1) := by decide +kernel
theorem dX1_init_1 : decode mX1_init.2.1 1 = .ok (.invokespecial 3, 3) := by decide +kernel
theorem dX1_init_4 : decode mX1_init.2.1 4 = .ok (.aload_n 0, 1) := by decide +kernel
theorem dX1_init_5 : decode mX1_init.2.1 5 = .ok (.bipush 16, 2) := by decide +kernel
theorem dX1_init_7 : decode mX1_init.2.1 7 = .ok (.newarray .int, 2) := by decide +kernel
theorem dX1_init_9 : decode mX1_init.2.1 9 = .ok (.putfield 9, 3) := by decide +kernel
theorem dX1_init_12 : decode mX1_init.2.1 12 = .ok (.aload_n 0, 1) := by decide +kernel
theorem dX1_init_13 : decode mX1_init.2.1 13 = .ok (.bipush 32, 2) := by decide +kernel
theorem dX1_init_15 : decode mX1_init.2.1 15 = .ok (.newarray .int, 2) := by decide +kernel
theorem dX1_init_17 : decode mX1_init.2.1 17 = .ok (.putfield 15, 3) := by decide +kernel
theorem dX1_init_20 : decode mX1_init.2.1 20 = .ok (.aload_n 0, 1) := by decide +kernel
theorem dX1_init_21 : decode mX1_init.2.1 21 = .ok (.aload_n 1, 1) := by decide +kernel
theorem dX1_init_22 : decode mX1_init.2.1 22 = .ok (.putfield 18, 3) := by decide +kernel
theorem dX1_init_25 : decode mX1_init.2.1 25 = .ok (.aload_n 0, 1) := by decide +kernel
theorem dX1_init_26 : decode mX1_init.2.1 26 = .ok (.aload_n 2, 1) := by decide +kernel
theorem dX1_init_27 : decode mX1_init.2.1 27 = .ok (.putfield 22, 3) := by decide +kernel
theorem dX1_init_30 : decode mX1_init.2.1 30 = .ok (.return_, 1) := by decide +kernel
theorem dX1_inName_0 : decode mX1_inName.2.1 0 = .ok (.iload_n 1, 1) := by decide +kernel
theorem dX1_inName_1 : decode mX1_inName.2.1 1 = .ok (.iconst 4, 1) := by decide +kernel
theorem dX1_inName_2 : decode mX1_inName.2.1 2 = .ok (.invokestatic 26, 3) := by decide +kernel
theorem dX1_inName_5 : decode mX1_inName.2.1 5 = .ok (.ifCond .ne 11, 3) := by decide +kernel
theorem dX1_inName_8 : decode mX1_inName.2.1 8 = .ok (.iload_n 2, 1) := by decide +kernel
theorem dX1_inName_9 : decode mX1_inName.2.1 9 = .ok (.iconst 4, 1) := by decide +kernel
theorem dX1_inName_10 : decode mX1_inName.2.1 10 = .ok (.invokestatic 26, 3) := by decide +kernel
theorem dX1_inName_13 : decode mX1_inName.2.1 13 = .ok (.ifCond .eq 7, 3) := by decide +kernel
theorem dX1_inName_16 : decode mX1_inName.2.1 16 = .ok (.iconst 0, 1) := by decide +kernel
theorem dX1_inName_17 : decode mX1_inName.2.1 17 = .ok (.goto 13, 3) := by decide +kernel
theorem dX1_inName_20 : decode mX1_inName.2.1 20 = .ok (.aload_n 0, 1) := by decide +kernel
theorem dX1_inName_21 : decode mX1_inName.2.1 21 = .ok (.getfield 9, 3) := by decide +kernel
theorem dX1_inName_24 : decode mX1_inName.2.1 24 = .ok (.iload_n 1, 1) := by decide +kernel
theorem dX1_inName_25 : decode mX1_inName.2.1 25 = .ok (.iconst 4, 1) := by decide +kernel
theorem dX1_inName_26 : decode mX1_inName.2.1 26 = .ok (.imul, 1) := by decide +kernel
theorem dX1_inName_27 : decode mX1_inName.2.1 27 = .ok (.iload_n 2, 1) := by decide +kernel
theorem dX1_inName_28 : decode mX1_inName.2.1 28 = .ok (.iadd, 1) := by decide +kernel
theorem dX1_inName_29 : decode mX1_inName.2.1 29 = .ok (.iaload, 1) := by decide +kernel
theorem dX1_inName_30 : decode mX1_inName.2.1 30 = .ok (.ireturn, 1) := by decide +kernel
theorem dX1_inField_0 : decode mX1_inField.2.1 0 = .ok (.iload_n 1, 1) := by decide +kernel
theorem dX1_inField_1 : decode mX1_inField.2.1 1 = .ok (.bipush 32, 2) := by decide +kernel
theorem dX1_inField_3 : decode mX1_inField.2.1 3 = .ok (.invokestatic 26, 3) := by decide +kernel
theorem dX1_inField_6 : decode mX1_inField.2.1 6 = .ok (.ifCond .eq 7, 3) := by decide +kernel
theorem dX1_inField_9 : decode mX1_inField.2.1 9 = .ok (.iconst 0, 1) := by decide +kernel
theorem dX1_inField_10 : decode mX1_inField.2.1 10 = .ok (.goto 9, 3) := by decide +kernel
theorem dX1_inField_13 : decode mX1_inField.2.1 13 = .ok (.aload_n 0, 1) := by decide +kernel
theorem dX1_inField_14 : decode mX1_inField.2.1 14 = .ok (.getfield 15, 3) := by decide +kernel
theorem dX1_inField_17 : decode mX1_inField.2.1 17 = .ok (.iload_n 1, 1) := by decide +kernel
theorem dX1_inField_18 : decode mX1_inField.2.1 18 = .ok (.iaload, 1) := by decide +kernel
theorem dX1_inField_19 : decode mX1_inField.2.1 19 = .ok (.ireturn, 1) := by decide +kernel
theorem dX1_inOpenPlace_0 : decode mX1_inOpenPlace.2.1 0 = .ok (.aload_n 0, 1) := by decide +kernel
theorem dX1_inOpenPlace_1 : decode mX1_inOpenPlace.2.1 1 = .ok (.getfield 30, 3) := by decide +kernel
theorem dX1_inOpenPlace_4 : decode mX1_inOpenPlace.2.1 4 = .ok (.ireturn, 1) := by decide +kernel
theorem dX1_reachedFrom_0 : decode mX1_reachedFrom.2.1 0 = .ok (.iload_n 1, 1) := by decide +kernel
theorem dX1_reachedFrom_1 : decode mX1_reachedFrom.2.1 1 = .ok (.istore_n 2, 1) := by decide +kernel
theorem dX1_reachedFrom_2 : decode mX1_reachedFrom.2.1 2 = .ok (.iconst 0, 1) := by decide +kernel
theorem dX1_reachedFrom_3 : decode mX1_reachedFrom.2.1 3 = .ok (.istore_n 3, 1) := by decide +kernel
theorem dX1_reachedFrom_4 : decode mX1_reachedFrom.2.1 4 = .ok (.iconst 0, 1) := by decide +kernel
theorem dX1_reachedFrom_5 : decode mX1_reachedFrom.2.1 5 = .ok (.istore 4, 2) := by decide +kernel
theorem dX1_reachedFrom_7 : decode mX1_reachedFrom.2.1 7 = .ok (.iload 4, 2) := by decide +kernel
theorem dX1_reachedFrom_9 : decode mX1_reachedFrom.2.1 9 = .ok (.bipush 32, 2) := by decide +kernel
theorem dX1_reachedFrom_11 : decode mX1_reachedFrom.2.1 11 = .ok (.if_icmp .gt 24, 3) := by decide +kernel
theorem dX1_reachedFrom_14 : decode mX1_reachedFrom.2.1 14 = .ok (.iload_n 2, 1) := by decide +kernel
theorem dX1_reachedFrom_15 : decode mX1_reachedFrom.2.1 15 = .ok (.iload_n 3, 1) := by decide +kernel
theorem dX1_reachedFrom_16 : decode mX1_reachedFrom.2.1 16 = .ok (.if_icmp .eq 19, 3) := by decide +kernel
theorem dX1_reachedFrom_19 : decode mX1_reachedFrom.2.1 19 = .ok (.iload_n 2, 1) := by decide +kernel
theorem dX1_reachedFrom_20 : decode mX1_reachedFrom.2.1 20 = .ok (.istore_n 3, 1) := by decide +kernel
theorem dX1_reachedFrom_21 : decode mX1_reachedFrom.2.1 21 = .ok (.iload_n 2, 1) := by decide +kernel
theorem dX1_reachedFrom_22 : decode mX1_reachedFrom.2.1 22 = .ok (.aload_n 0, 1) := by decide +kernel
theorem dX1_reachedFrom_23 : decode mX1_reachedFrom.2.1 23 = .ok (.iload_n 2, 1) := by decide +kernel
theorem dX1_reachedFrom_24 : decode mX1_reachedFrom.2.1 24 = .ok (.invokevirtual 34, 3) := by decide +kernel
theorem dX1_reachedFrom_27 : decode mX1_reachedFrom.2.1 27 = .ok (.ior, 1) := by decide +kernel
theorem dX1_reachedFrom_28 : decode mX1_reachedFrom.2.1 28 = .ok (.istore_n 2, 1) := by decide +kernel
theorem dX1_reachedFrom_29 : decode mX1_reachedFrom.2.1 29 = .ok (.iinc 4 1, 3) := by decide +kernel
theorem dX1_reachedFrom_32 : decode mX1_reachedFrom.2.1 32 = .ok (.goto (-25), 3) := by decide +kernel
theorem dX1_reachedFrom_35 : decode mX1_reachedFrom.2.1 35 = .ok (.iload_n 2, 1) := by decide +kernel
theorem dX1_reachedFrom_36 : decode mX1_reachedFrom.2.1 36 = .ok (.ireturn, 1) := by decide +kernel
theorem dX1_find_0 : decode mX1_find.2.1 0 = .ok (.aload_n 0, 1) := by decide +kernel
theorem dX1_find_1 : decode mX1_find.2.1 1 = .ok (.getfield 9, 3) := by decide +kernel
theorem dX1_find_4 : decode mX1_find.2.1 4 = .ok (.iconst 0, 1) := by decide +kernel
theorem dX1_find_5 : decode mX1_find.2.1 5 = .ok (.invokestatic 38, 3) := by decide +kernel
theorem dX1_find_8 : decode mX1_find.2.1 8 = .ok (.aload_n 0, 1) := by decide +kernel
theorem dX1_find_9 : decode mX1_find.2.1 9 = .ok (.getfield 15, 3) := by decide +kernel
theorem dX1_find_12 : decode mX1_find.2.1 12 = .ok (.iconst 0, 1) := by decide +kernel
theorem dX1_find_13 : decode mX1_find.2.1 13 = .ok (.invokestatic 38, 3) := by decide +kernel
theorem dX1_find_16 : decode mX1_find.2.1 16 = .ok (.aload_n 0, 1) := by decide +kernel
theorem dX1_find_17 : decode mX1_find.2.1 17 = .ok (.iconst 0, 1) := by decide +kernel
theorem dX1_find_18 : decode mX1_find.2.1 18 = .ok (.putfield 30, 3) := by decide +kernel
theorem dX1_find_21 : decode mX1_find.2.1 21 = .ok (.aload_n 0, 1) := by decide +kernel
theorem dX1_find_22 : decode mX1_find.2.1 22 = .ok (.iconst 1, 1) := by decide +kernel
theorem dX1_find_23 : decode mX1_find.2.1 23 = .ok (.putfield 44, 3) := by decide +kernel
theorem dX1_find_26 : decode mX1_find.2.1 26 = .ok (.iconst 0, 1) := by decide +kernel
theorem dX1_find_27 : decode mX1_find.2.1 27 = .ok (.istore_n 1, 1) := by decide +kernel
theorem dX1_find_28 : decode mX1_find.2.1 28 = .ok (.iload_n 1, 1) := by decide +kernel
theorem dX1_find_29 : decode mX1_find.2.1 29 = .ok (.sipush 1569, 3) := by decide +kernel
theorem dX1_find_32 : decode mX1_find.2.1 32 = .ok (.if_icmp .ge 66, 3) := by decide +kernel
theorem dX1_find_35 : decode mX1_find.2.1 35 = .ok (.aload_n 0, 1) := by decide +kernel
theorem dX1_find_36 : decode mX1_find.2.1 36 = .ok (.getfield 44, 3) := by decide +kernel
theorem dX1_find_39 : decode mX1_find.2.1 39 = .ok (.ifCond .eq 59, 3) := by decide +kernel
theorem dX1_find_42 : decode mX1_find.2.1 42 = .ok (.aload_n 0, 1) := by decide +kernel
theorem dX1_find_43 : decode mX1_find.2.1 43 = .ok (.iconst 0, 1) := by decide +kernel
theorem dX1_find_44 : decode mX1_find.2.1 44 = .ok (.putfield 44, 3) := by decide +kernel
theorem dX1_find_47 : decode mX1_find.2.1 47 = .ok (.iconst 0, 1) := by decide +kernel
theorem dX1_find_48 : decode mX1_find.2.1 48 = .ok (.istore_n 2, 1) := by decide +kernel
theorem dX1_find_49 : decode mX1_find.2.1 49 = .ok (.iload_n 2, 1) := by decide +kernel
theorem dX1_find_50 : decode mX1_find.2.1 50 = .ok (.aload_n 0, 1) := by decide +kernel
theorem dX1_find_51 : decode mX1_find.2.1 51 = .ok (.getfield 18, 3) := by decide +kernel
theorem dX1_find_54 : decode mX1_find.2.1 54 = .ok (.invokevirtual 48, 3) := by decide +kernel
theorem dX1_find_57 : decode mX1_find.2.1 57 = .ok (.if_icmp .ge 35, 3) := by decide +kernel
theorem dX1_find_60 : decode mX1_find.2.1 60 = .ok (.iconst 0, 1) := by decide +kernel
theorem dX1_find_61 : decode mX1_find.2.1 61 = .ok (.istore_n 3, 1) := by decide +kernel
theorem dX1_find_62 : decode mX1_find.2.1 62 = .ok (.iload_n 3, 1) := by decide +kernel
theorem dX1_find_63 : decode mX1_find.2.1 63 = .ok (.aload_n 0, 1) := by decide +kernel
theorem dX1_find_64 : decode mX1_find.2.1 64 = .ok (.getfield 18, 3) := by decide +kernel
theorem dX1_find_67 : decode mX1_find.2.1 67 = .ok (.iload_n 2, 1) := by decide +kernel
theorem dX1_find_68 : decode mX1_find.2.1 68 = .ok (.invokevirtual 54, 3) := by decide +kernel
theorem dX1_find_71 : decode mX1_find.2.1 71 = .ok (.if_icmp .ge 15, 3) := by decide +kernel
theorem dX1_find_74 : decode mX1_find.2.1 74 = .ok (.aload_n 0, 1) := by decide +kernel
theorem dX1_find_75 : decode mX1_find.2.1 75 = .ok (.iload_n 2, 1) := by decide +kernel
theorem dX1_find_76 : decode mX1_find.2.1 76 = .ok (.iload_n 3, 1) := by decide +kernel
theorem dX1_find_77 : decode mX1_find.2.1 77 = .ok (.invokevirtual 57, 3) := by decide +kernel
theorem dX1_find_80 : decode mX1_find.2.1 80 = .ok (.iinc 3 1, 3) := by decide +kernel
theorem dX1_find_83 : decode mX1_find.2.1 83 = .ok (.goto (-21), 3) := by decide +kernel
theorem dX1_find_86 : decode mX1_find.2.1 86 = .ok (.iinc 2 1, 3) := by decide +kernel
theorem dX1_find_89 : decode mX1_find.2.1 89 = .ok (.goto (-40), 3) := by decide +kernel
theorem dX1_find_92 : decode mX1_find.2.1 92 = .ok (.iinc 1 1, 3) := by decide +kernel
theorem dX1_find_95 : decode mX1_find.2.1 95 = .ok (.goto (-67), 3) := by decide +kernel
theorem dX1_find_98 : decode mX1_find.2.1 98 = .ok (.return_, 1) := by decide +kernel
theorem dX1_addByLine_0 : decode mX1_addByLine.2.1 0 = .ok (.aload_n 0, 1) := by decide +kernel
theorem dX1_addByLine_1 : decode mX1_addByLine.2.1 1 = .ok (.getfield 18, 3) := by decide +kernel
theorem dX1_addByLine_4 : decode mX1_addByLine.2.1 4 = .ok (.iload_n 1, 1) := by decide +kernel
theorem dX1_addByLine_5 : decode mX1_addByLine.2.1 5 = .ok (.iload_n 2, 1) := by decide +kernel
theorem dX1_addByLine_6 : decode mX1_addByLine.2.1 6 = .ok (.invokevirtual 61, 3) := by decide +kernel
theorem dX1_addByLine_9 : decode mX1_addByLine.2.1 9 = .ok (.istore_n 3, 1) := by decide +kernel
theorem dX1_addByLine_10 : decode mX1_addByLine.2.1 10 = .ok (.aload_n 0, 1) := by decide +kernel
theorem dX1_addByLine_11 : decode mX1_addByLine.2.1 11 = .ok (.iload_n 1, 1) := by decide +kernel
theorem dX1_addByLine_12 : decode mX1_addByLine.2.1 12 = .ok (.aload_n 0, 1) := by decide +kernel
theorem dX1_addByLine_13 : decode mX1_addByLine.2.1 13 = .ok (.getfield 18, 3) := by decide +kernel
theorem dX1_addByLine_16 : decode mX1_addByLine.2.1 16 = .ok (.iload_n 1, 1) := by decide +kernel
theorem dX1_addByLine_17 : decode mX1_addByLine.2.1 17 = .ok (.iload_n 2, 1) := by decide +kernel
theorem dX1_addByLine_18 : decode mX1_addByLine.2.1 18 = .ok (.invokevirtual 65, 3) := by decide +kernel
theorem dX1_addByLine_21 : decode mX1_addByLine.2.1 21 = .ok (.invokevirtual 68, 3) := by decide +kernel
theorem dX1_addByLine_24 : decode mX1_addByLine.2.1 24 = .ok (.istore 4, 2) := by decide +kernel
theorem dX1_addByLine_26 : decode mX1_addByLine.2.1 26 = .ok (.aload_n 0, 1) := by decide +kernel
theorem dX1_addByLine_27 : decode mX1_addByLine.2.1 27 = .ok (.getfield 18, 3) := by decide +kernel
theorem dX1_addByLine_30 : decode mX1_addByLine.2.1 30 = .ok (.iload_n 1, 1) := by decide +kernel
theorem dX1_addByLine_31 : decode mX1_addByLine.2.1 31 = .ok (.iload_n 2, 1) := by decide +kernel
theorem dX1_addByLine_32 : decode mX1_addByLine.2.1 32 = .ok (.invokevirtual 71, 3) := by decide +kernel
theorem dX1_addByLine_35 : decode mX1_addByLine.2.1 35 = .ok (.tableswitch 171 0 7 #[45, 65, 76, 91, 106, 119, 171, 132], 45) := by decide +kernel
theorem dX1_addByLine_80 : decode mX1_addByLine.2.1 80 = .ok (.aload_n 0, 1) := by decide +kernel
theorem dX1_addByLine_81 : decode mX1_addByLine.2.1 81 = .ok (.iload_n 1, 1) := by decide +kernel
theorem dX1_addByLine_82 : decode mX1_addByLine.2.1 82 = .ok (.iload_n 3, 1) := by decide +kernel
theorem dX1_addByLine_83 : decode mX1_addByLine.2.1 83 = .ok (.iconst 1, 1) := by decide +kernel
theorem dX1_addByLine_84 : decode mX1_addByLine.2.1 84 = .ok (.aload_n 0, 1) := by decide +kernel
theorem dX1_addByLine_85 : decode mX1_addByLine.2.1 85 = .ok (.getfield 22, 3) := by decide +kernel
theorem dX1_addByLine_88 : decode mX1_addByLine.2.1 88 = .ok (.iload_n 1, 1) := by decide +kernel
theorem dX1_addByLine_89 : decode mX1_addByLine.2.1 89 = .ok (.iload_n 2, 1) := by decide +kernel
theorem dX1_addByLine_90 : decode mX1_addByLine.2.1 90 = .ok (.invokevirtual 74, 3) := by decide +kernel
theorem dX1_addByLine_93 : decode mX1_addByLine.2.1 93 = .ok (.ishl, 1) := by decide +kernel
theorem dX1_addByLine_94 : decode mX1_addByLine.2.1 94 = .ok (.invokevirtual 79, 3) := by decide +kernel
theorem dX1_addByLine_97 : decode mX1_addByLine.2.1 97 = .ok (.goto 109, 3) := by decide +kernel
theorem dX1_addByLine_100 : decode mX1_addByLine.2.1 100 = .ok (.aload_n 0, 1) := by decide +kernel
theorem dX1_addByLine_101 : decode mX1_addByLine.2.1 101 = .ok (.iload_n 1, 1) := by decide +kernel
theorem dX1_addByLine_102 : decode mX1_addByLine.2.1 102 = .ok (.iload_n 3, 1) := by decide +kernel
theorem dX1_addByLine_103 : decode mX1_addByLine.2.1 103 = .ok (.iload 4, 2) := by decide +kernel
theorem dX1_addByLine_105 : decode mX1_addByLine.2.1 105 = .ok (.invokevirtual 79, 3) := by decide +kernel
theorem dX1_addByLine_108 : decode mX1_addByLine.2.1 108 = .ok (.goto 98, 3) := by decide +kernel
theorem dX1_addByLine_111 : decode mX1_addByLine.2.1 111 = .ok (.aload_n 0, 1) := by decide +kernel
theorem dX1_addByLine_112 : decode mX1_addByLine.2.1 112 = .ok (.aload_n 0, 1) := by decide +kernel
theorem dX1_addByLine_113 : decode mX1_addByLine.2.1 113 = .ok (.iload_n 1, 1) := by decide +kernel
theorem dX1_addByLine_114 : decode mX1_addByLine.2.1 114 = .ok (.iload_n 3, 1) := by decide +kernel
theorem dX1_addByLine_115 : decode mX1_addByLine.2.1 115 = .ok (.invokevirtual 68, 3) := by decide +kernel
theorem dX1_addByLine_118 : decode mX1_addByLine.2.1 118 = .ok (.iload 4, 2) := by decide +kernel
theorem dX1_addByLine_120 : decode mX1_addByLine.2.1 120 = .ok (.invokevirtual 83, 3) := by decide +kernel
theorem dX1_addByLine_123 : decode mX1_addByLine.2.1 123 = .ok (.goto 83, 3) := by decide +kernel
theorem dX1_addByLine_126 : decode mX1_addByLine.2.1 126 = .ok (.aload_n 0, 1) := by decide +kernel
theorem dX1_addByLine_127 : decode mX1_addByLine.2.1 127 = .ok (.iload_n 1, 1) := by decide +kernel
theorem dX1_addByLine_128 : decode mX1_addByLine.2.1 128 = .ok (.iload_n 3, 1) := by decide +kernel
theorem dX1_addByLine_129 : decode mX1_addByLine.2.1 129 = .ok (.aload_n 0, 1) := by decide +kernel
theorem dX1_addByLine_130 : decode mX1_addByLine.2.1 130 = .ok (.iload 4, 2) := by decide +kernel
theorem dX1_addByLine_132 : decode mX1_addByLine.2.1 132 = .ok (.invokevirtual 34, 3) := by decide +kernel
theorem dX1_addByLine_135 : decode mX1_addByLine.2.1 135 = .ok (.invokevirtual 79, 3) := by decide +kernel
theorem dX1_addByLine_138 : decode mX1_addByLine.2.1 138 = .ok (.goto 68, 3) := by decide +kernel
theorem dX1_addByLine_141 : decode mX1_addByLine.2.1 141 = .ok (.aload_n 0, 1) := by decide +kernel
theorem dX1_addByLine_142 : decode mX1_addByLine.2.1 142 = .ok (.aload_n 0, 1) := by decide +kernel
theorem dX1_addByLine_143 : decode mX1_addByLine.2.1 143 = .ok (.iload_n 1, 1) := by decide +kernel
theorem dX1_addByLine_144 : decode mX1_addByLine.2.1 144 = .ok (.iload_n 3, 1) := by decide +kernel
theorem dX1_addByLine_145 : decode mX1_addByLine.2.1 145 = .ok (.invokevirtual 68, 3) := by decide +kernel
theorem dX1_addByLine_148 : decode mX1_addByLine.2.1 148 = .ok (.invokevirtual 86, 3) := by decide +kernel
theorem dX1_addByLine_151 : decode mX1_addByLine.2.1 151 = .ok (.goto 55, 3) := by decide +kernel
theorem dX1_addByLine_154 : decode mX1_addByLine.2.1 154 = .ok (.aload_n 0, 1) := by decide +kernel
theorem dX1_addByLine_155 : decode mX1_addByLine.2.1 155 = .ok (.iload_n 1, 1) := by decide +kernel
theorem dX1_addByLine_156 : decode mX1_addByLine.2.1 156 = .ok (.iload_n 3, 1) := by decide +kernel
theorem dX1_addByLine_157 : decode mX1_addByLine.2.1 157 = .ok (.aload_n 0, 1) := by decide +kernel
theorem dX1_addByLine_158 : decode mX1_addByLine.2.1 158 = .ok (.getfield 30, 3) := by decide +kernel
theorem dX1_addByLine_161 : decode mX1_addByLine.2.1 161 = .ok (.invokevirtual 79, 3) := by decide +kernel
theorem dX1_addByLine_164 : decode mX1_addByLine.2.1 164 = .ok (.goto 42, 3) := by decide +kernel
theorem dX1_addByLine_167 : decode mX1_addByLine.2.1 167 = .ok (.aload_n 0, 1) := by decide +kernel
theorem dX1_addByLine_168 : decode mX1_addByLine.2.1 168 = .ok (.aload_n 0, 1) := by decide +kernel
theorem dX1_addByLine_169 : decode mX1_addByLine.2.1 169 = .ok (.getfield 18, 3) := by decide +kernel
theorem dX1_addByLine_172 : decode mX1_addByLine.2.1 172 = .ok (.iload_n 1, 1) := by decide +kernel
theorem dX1_addByLine_173 : decode mX1_addByLine.2.1 173 = .ok (.iload_n 2, 1) := by decide +kernel
theorem dX1_addByLine_174 : decode mX1_addByLine.2.1 174 = .ok (.invokevirtual 90, 3) := by decide +kernel
theorem dX1_addByLine_177 : decode mX1_addByLine.2.1 177 = .ok (.iconst 0, 1) := by decide +kernel
theorem dX1_addByLine_178 : decode mX1_addByLine.2.1 178 = .ok (.iload 4, 2) := by decide +kernel
theorem dX1_addByLine_180 : decode mX1_addByLine.2.1 180 = .ok (.invokevirtual 79, 3) := by decide +kernel
theorem dX1_addByLine_183 : decode mX1_addByLine.2.1 183 = .ok (.aload_n 0, 1) := by decide +kernel
theorem dX1_addByLine_184 : decode mX1_addByLine.2.1 184 = .ok (.iload_n 1, 1) := by decide +kernel
theorem dX1_addByLine_185 : decode mX1_addByLine.2.1 185 = .ok (.iload_n 3, 1) := by decide +kernel
theorem dX1_addByLine_186 : decode mX1_addByLine.2.1 186 = .ok (.aload_n 0, 1) := by decide +kernel
theorem dX1_addByLine_187 : decode mX1_addByLine.2.1 187 = .ok (.aload_n 0, 1) := by decide +kernel
theorem dX1_addByLine_188 : decode mX1_addByLine.2.1 188 = .ok (.getfield 18, 3) := by decide +kernel
theorem dX1_addByLine_191 : decode mX1_addByLine.2.1 191 = .ok (.iload_n 1, 1) := by decide +kernel
theorem dX1_addByLine_192 : decode mX1_addByLine.2.1 192 = .ok (.iload_n 2, 1) := by decide +kernel
theorem dX1_addByLine_193 : decode mX1_addByLine.2.1 193 = .ok (.invokevirtual 90, 3) := by decide +kernel
theorem dX1_addByLine_196 : decode mX1_addByLine.2.1 196 = .ok (.iconst 3, 1) := by decide +kernel
theorem dX1_addByLine_197 : decode mX1_addByLine.2.1 197 = .ok (.invokevirtual 68, 3) := by decide +kernel
theorem dX1_addByLine_200 : decode mX1_addByLine.2.1 200 = .ok (.invokevirtual 79, 3) := by decide +kernel
theorem dX1_addByLine_203 : decode mX1_addByLine.2.1 203 = .ok (.goto 3, 3) := by decide +kernel
theorem dX1_addByLine_206 : decode mX1_addByLine.2.1 206 = .ok (.return_, 1) := by decide +kernel
theorem dX1_addToName_0 : decode mX1_addToName.2.1 0 = .ok (.iload_n 1, 1) := by decide +kernel
theorem dX1_addToName_1 : decode mX1_addToName.2.1 1 = .ok (.iconst 4, 1) := by decide +kernel
theorem dX1_addToName_2 : decode mX1_addToName.2.1 2 = .ok (.invokestatic 26, 3) := by decide +kernel
theorem dX1_addToName_5 : decode mX1_addToName.2.1 5 = .ok (.ifCond .ne 11, 3) := by decide +kernel
theorem dX1_addToName_8 : decode mX1_addToName.2.1 8 = .ok (.iload_n 2, 1) := by decide +kernel
theorem dX1_addToName_9 : decode mX1_addToName.2.1 9 = .ok (.iconst 4, 1) := by decide +kernel
theorem dX1_addToName_10 : decode mX1_addToName.2.1 10 = .ok (.invokestatic 26, 3) := by decide +kernel
theorem dX1_addToName_13 : decode mX1_addToName.2.1 13 = .ok (.ifCond .eq 4, 3) := by decide +kernel
theorem dX1_addToName_16 : decode mX1_addToName.2.1 16 = .ok (.return_, 1) := by decide +kernel
theorem dX1_addToName_17 : decode mX1_addToName.2.1 17 = .ok (.iload_n 1, 1) := by decide +kernel
theorem dX1_addToName_18 : decode mX1_addToName.2.1 18 = .ok (.iconst 4, 1) := by decide +kernel
theorem dX1_addToName_19 : decode mX1_addToName.2.1 19 = .ok (.imul, 1) := by decide +kernel
theorem dX1_addToName_20 : decode mX1_addToName.2.1 20 = .ok (.iload_n 2, 1) := by decide +kernel
theorem dX1_addToName_21 : decode mX1_addToName.2.1 21 = .ok (.iadd, 1) := by decide +kernel
theorem dX1_addToName_22 : decode mX1_addToName.2.1 22 = .ok (.istore 4, 2) := by decide +kernel
theorem dX1_addToName_24 : decode mX1_addToName.2.1 24 = .ok (.aload_n 0, 1) := by decide +kernel
theorem dX1_addToName_25 : decode mX1_addToName.2.1 25 = .ok (.getfield 9, 3) := by decide +kernel
theorem dX1_addToName_28 : decode mX1_addToName.2.1 28 = .ok (.iload 4, 2) := by decide +kernel
theorem dX1_addToName_30 : decode mX1_addToName.2.1 30 = .ok (.iaload, 1) := by decide +kernel
theorem dX1_addToName_31 : decode mX1_addToName.2.1 31 = .ok (.iload_n 3, 1) := by decide +kernel
theorem dX1_addToName_32 : decode mX1_addToName.2.1 32 = .ok (.ior, 1) := by decide +kernel
theorem dX1_addToName_33 : decode mX1_addToName.2.1 33 = .ok (.aload_n 0, 1) := by decide +kernel
theorem dX1_addToName_34 : decode mX1_addToName.2.1 34 = .ok (.getfield 9, 3) := by decide +kernel
theorem dX1_addToName_37 : decode mX1_addToName.2.1 37 = .ok (.iload 4, 2) := by decide +kernel
theorem dX1_addToName_39 : decode mX1_addToName.2.1 39 = .ok (.iaload, 1) := by decide +kernel
theorem dX1_addToName_40 : decode mX1_addToName.2.1 40 = .ok (.if_icmp .eq 19, 3) := by decide +kernel
theorem dX1_addToName_43 : decode mX1_addToName.2.1 43 = .ok (.aload_n 0, 1) := by decide +kernel
theorem dX1_addToName_44 : decode mX1_addToName.2.1 44 = .ok (.getfield 9, 3) := by decide +kernel
theorem dX1_addToName_47 : decode mX1_addToName.2.1 47 = .ok (.iload 4, 2) := by decide +kernel
theorem dX1_addToName_49 : decode mX1_addToName.2.1 49 = .ok (.dup2, 1) := by decide +kernel
theorem dX1_addToName_50 : decode mX1_addToName.2.1 50 = .ok (.iaload, 1) := by decide +kernel
theorem dX1_addToName_51 : decode mX1_addToName.2.1 51 = .ok (.iload_n 3, 1) := by decide +kernel
theorem dX1_addToName_52 : decode mX1_addToName.2.1 52 = .ok (.ior, 1) := by decide +kernel
theorem dX1_addToName_53 : decode mX1_addToName.2.1 53 = .ok (.iastore, 1) := by decide +kernel
theorem dX1_addToName_54 : decode mX1_addToName.2.1 54 = .ok (.aload_n 0, 1) := by decide +kernel
theorem dX1_addToName_55 : decode mX1_addToName.2.1 55 = .ok (.iconst 1, 1) := by decide +kernel
theorem dX1_addToName_56 : decode mX1_addToName.2.1 56 = .ok (.putfield 44, 3) := by decide +kernel
theorem dX1_addToName_59 : decode mX1_addToName.2.1 59 = .ok (.return_, 1) := by decide +kernel
theorem dX1_addToOpenPlace_0 : decode mX1_addToOpenPlace.2.1 0 = .ok (.aload_n 0, 1) := by decide +kernel
theorem dX1_addToOpenPlace_1 : decode mX1_addToOpenPlace.2.1 1 = .ok (.getfield 30, 3) := by decide +kernel
theorem dX1_addToOpenPlace_4 : decode mX1_addToOpenPlace.2.1 4 = .ok (.iload_n 1, 1) := by decide +kernel
theorem dX1_addToOpenPlace_5 : decode mX1_addToOpenPlace.2.1 5 = .ok (.ior, 1) := by decide +kernel
theorem dX1_addToOpenPlace_6 : decode mX1_addToOpenPlace.2.1 6 = .ok (.aload_n 0, 1) := by decide +kernel
theorem dX1_addToOpenPlace_7 : decode mX1_addToOpenPlace.2.1 7 = .ok (.getfield 30, 3) := by decide +kernel
theorem dX1_addToOpenPlace_10 : decode mX1_addToOpenPlace.2.1 10 = .ok (.if_icmp .eq 18, 3) := by decide +kernel
theorem dX1_addToOpenPlace_13 : decode mX1_addToOpenPlace.2.1 13 = .ok (.aload_n 0, 1) := by decide +kernel
theorem dX1_addToOpenPlace_14 : decode mX1_addToOpenPlace.2.1 14 = .ok (.dup, 1) := by decide +kernel
theorem dX1_addToOpenPlace_15 : decode mX1_addToOpenPlace.2.1 15 = .ok (.getfield 30, 3) := by decide +kernel
theorem dX1_addToOpenPlace_18 : decode mX1_addToOpenPlace.2.1 18 = .ok (.iload_n 1, 1) := by decide +kernel
theorem dX1_addToOpenPlace_19 : decode mX1_addToOpenPlace.2.1 19 = .ok (.ior, 1) := by decide +kernel
theorem dX1_addToOpenPlace_20 : decode mX1_addToOpenPlace.2.1 20 = .ok (.putfield 30, 3) := by decide +kernel
theorem dX1_addToOpenPlace_23 : decode mX1_addToOpenPlace.2.1 23 = .ok (.aload_n 0, 1) := by decide +kernel
theorem dX1_addToOpenPlace_24 : decode mX1_addToOpenPlace.2.1 24 = .ok (.iconst 1, 1) := by decide +kernel
theorem dX1_addToOpenPlace_25 : decode mX1_addToOpenPlace.2.1 25 = .ok (.putfield 44, 3) := by decide +kernel
theorem dX1_addToOpenPlace_28 : decode mX1_addToOpenPlace.2.1 28 = .ok (.return_, 1) := by decide +kernel
theorem dX1_addToFields_0 : decode mX1_addToFields.2.1 0 = .ok (.iconst 0, 1) := by decide +kernel
theorem dX1_addToFields_1 : decode mX1_addToFields.2.1 1 = .ok (.istore_n 3, 1) := by decide +kernel
theorem dX1_addToFields_2 : decode mX1_addToFields.2.1 2 = .ok (.iload_n 3, 1) := by decide +kernel
theorem dX1_addToFields_3 : decode mX1_addToFields.2.1 3 = .ok (.aload_n 0, 1) := by decide +kernel
theorem dX1_addToFields_4 : decode mX1_addToFields.2.1 4 = .ok (.getfield 22, 3) := by decide +kernel
theorem dX1_addToFields_7 : decode mX1_addToFields.2.1 7 = .ok (.invokevirtual 93, 3) := by decide +kernel
theorem dX1_addToFields_10 : decode mX1_addToFields.2.1 10 = .ok (.if_icmp .ge 50, 3) := by decide +kernel
theorem dX1_addToFields_13 : decode mX1_addToFields.2.1 13 = .ok (.iload_n 1, 1) := by decide +kernel
theorem dX1_addToFields_14 : decode mX1_addToFields.2.1 14 = .ok (.iload_n 3, 1) := by decide +kernel
theorem dX1_addToFields_15 : decode mX1_addToFields.2.1 15 = .ok (.ishr, 1) := by decide +kernel
theorem dX1_addToFields_16 : decode mX1_addToFields.2.1 16 = .ok (.iconst 1, 1) := by decide +kernel
theorem dX1_addToFields_17 : decode mX1_addToFields.2.1 17 = .ok (.iand, 1) := by decide +kernel
theorem dX1_addToFields_18 : decode mX1_addToFields.2.1 18 = .ok (.iconst 1, 1) := by decide +kernel
theorem dX1_addToFields_19 : decode mX1_addToFields.2.1 19 = .ok (.if_icmp .ne 35, 3) := by decide +kernel
theorem dX1_addToFields_22 : decode mX1_addToFields.2.1 22 = .ok (.aload_n 0, 1) := by decide +kernel
theorem dX1_addToFields_23 : decode mX1_addToFields.2.1 23 = .ok (.getfield 15, 3) := by decide +kernel
theorem dX1_addToFields_26 : decode mX1_addToFields.2.1 26 = .ok (.iload_n 3, 1) := by decide +kernel
theorem dX1_addToFields_27 : decode mX1_addToFields.2.1 27 = .ok (.iaload, 1) := by decide +kernel
theorem dX1_addToFields_28 : decode mX1_addToFields.2.1 28 = .ok (.iload_n 2, 1) := by decide +kernel
theorem dX1_addToFields_29 : decode mX1_addToFields.2.1 29 = .ok (.ior, 1) := by decide +kernel
theorem dX1_addToFields_30 : decode mX1_addToFields.2.1 30 = .ok (.aload_n 0, 1) := by decide +kernel
theorem dX1_addToFields_31 : decode mX1_addToFields.2.1 31 = .ok (.getfield 15, 3) := by decide +kernel
theorem dX1_addToFields_34 : decode mX1_addToFields.2.1 34 = .ok (.iload_n 3, 1) := by decide +kernel
theorem dX1_addToFields_35 : decode mX1_addToFields.2.1 35 = .ok (.iaload, 1) := by decide +kernel
theorem dX1_addToFields_36 : decode mX1_addToFields.2.1 36 = .ok (.if_icmp .eq 18, 3) := by decide +kernel
theorem dX1_addToFields_39 : decode mX1_addToFields.2.1 39 = .ok (.aload_n 0, 1) := by decide +kernel
theorem dX1_addToFields_40 : decode mX1_addToFields.2.1 40 = .ok (.getfield 15, 3) := by decide +kernel
theorem dX1_addToFields_43 : decode mX1_addToFields.2.1 43 = .ok (.iload_n 3, 1) := by decide +kernel
theorem dX1_addToFields_44 : decode mX1_addToFields.2.1 44 = .ok (.dup2, 1) := by decide +kernel
theorem dX1_addToFields_45 : decode mX1_addToFields.2.1 45 = .ok (.iaload, 1) := by decide +kernel
theorem dX1_addToFields_46 : decode mX1_addToFields.2.1 46 = .ok (.iload_n 2, 1) := by decide +kernel
theorem dX1_addToFields_47 : decode mX1_addToFields.2.1 47 = .ok (.ior, 1) := by decide +kernel
theorem dX1_addToFields_48 : decode mX1_addToFields.2.1 48 = .ok (.iastore, 1) := by decide +kernel
theorem dX1_addToFields_49 : decode mX1_addToFields.2.1 49 = .ok (.aload_n 0, 1) := by decide +kernel
theorem dX1_addToFields_50 : decode mX1_addToFields.2.1 50 = .ok (.iconst 1, 1) := by decide +kernel
theorem dX1_addToFields_51 : decode mX1_addToFields.2.1 51 = .ok (.putfield 44, 3) := by decide +kernel
theorem dX1_addToFields_54 : decode mX1_addToFields.2.1 54 = .ok (.iinc 3 1, 3) := by decide +kernel
theorem dX1_addToFields_57 : decode mX1_addToFields.2.1 57 = .ok (.goto (-55), 3) := by decide +kernel
theorem dX1_addToFields_60 : decode mX1_addToFields.2.1 60 = .ok (.return_, 1) := by decide +kernel
theorem dX1_inFields_0 : decode mX1_inFields.2.1 0 = .ok (.iconst 0, 1) := by decide +kernel
theorem dX1_inFields_1 : decode mX1_inFields.2.1 1 = .ok (.istore_n 2, 1) := by decide +kernel
theorem dX1_inFields_2 : decode mX1_inFields.2.1 2 = .ok (.iconst 0, 1) := by decide +kernel
theorem dX1_inFields_3 : decode mX1_inFields.2.1 3 = .ok (.istore_n 3, 1) := by decide +kernel
theorem dX1_inFields_4 : decode mX1_inFields.2.1 4 = .ok (.iload_n 3, 1) := by decide +kernel
theorem dX1_inFields_5 : decode mX1_inFields.2.1 5 = .ok (.aload_n 0, 1) := by decide +kernel
theorem dX1_inFields_6 : decode mX1_inFields.2.1 6 = .ok (.getfield 22, 3) := by decide +kernel
theorem dX1_inFields_9 : decode mX1_inFields.2.1 9 = .ok (.invokevirtual 93, 3) := by decide +kernel
theorem dX1_inFields_12 : decode mX1_inFields.2.1 12 = .ok (.if_icmp .ge 27, 3) := by decide +kernel
theorem dX1_inFields_15 : decode mX1_inFields.2.1 15 = .ok (.iload_n 1, 1) := by decide +kernel
theorem dX1_inFields_16 : decode mX1_inFields.2.1 16 = .ok (.iload_n 3, 1) := by decide +kernel
theorem dX1_inFields_17 : decode mX1_inFields.2.1 17 = .ok (.ishr, 1) := by decide +kernel
theorem dX1_inFields_18 : decode mX1_inFields.2.1 18 = .ok (.iconst 1, 1) := by decide +kernel
theorem dX1_inFields_19 : decode mX1_inFields.2.1 19 = .ok (.iand, 1) := by decide +kernel
theorem dX1_inFields_20 : decode mX1_inFields.2.1 20 = .ok (.iconst 1, 1) := by decide +kernel
theorem dX1_inFields_21 : decode mX1_inFields.2.1 21 = .ok (.if_icmp .ne 12, 3) := by decide +kernel
theorem dX1_inFields_24 : decode mX1_inFields.2.1 24 = .ok (.iload_n 2, 1) := by decide +kernel
theorem dX1_inFields_25 : decode mX1_inFields.2.1 25 = .ok (.aload_n 0, 1) := by decide +kernel
theorem dX1_inFields_26 : decode mX1_inFields.2.1 26 = .ok (.getfield 15, 3) := by decide +kernel
theorem dX1_inFields_29 : decode mX1_inFields.2.1 29 = .ok (.iload_n 3, 1) := by decide +kernel
theorem dX1_inFields_30 : decode mX1_inFields.2.1 30 = .ok (.iaload, 1) := by decide +kernel
theorem dX1_inFields_31 : decode mX1_inFields.2.1 31 = .ok (.ior, 1) := by decide +kernel
theorem dX1_inFields_32 : decode mX1_inFields.2.1 32 = .ok (.istore_n 2, 1) := by decide +kernel
theorem dX1_inFields_33 : decode mX1_inFields.2.1 33 = .ok (.iinc 3 1, 3) := by decide +kernel
theorem dX1_inFields_36 : decode mX1_inFields.2.1 36 = .ok (.goto (-32), 3) := by decide +kernel
theorem dX1_inFields_39 : decode mX1_inFields.2.1 39 = .ok (.iload_n 2, 1) := by decide +kernel
theorem dX1_inFields_40 : decode mX1_inFields.2.1 40 = .ok (.ireturn, 1) := by decide +kernel
theorem dX2_init_0 : decode mX2_init.2.1 0 = .ok (.aload_n 0, 1) := by decide +kernel
theorem dX2_init_1 : decode mX2_init.2.1 1 = .ok (.invokespecial 3, 3) := by decide +kernel
theorem dX2_init_4 : decode mX2_init.2.1 4 = .ok (.aload_n 0, 1) := by decide +kernel
theorem dX2_init_5 : decode mX2_init.2.1 5 = .ok (.iconst 4, 1) := by decide +kernel
theorem dX2_init_6 : decode mX2_init.2.1 6 = .ok (.newarray .int, 2) := by decide +kernel
theorem dX2_init_8 : decode mX2_init.2.1 8 = .ok (.putfield 9, 3) := by decide +kernel
theorem dX2_init_11 : decode mX2_init.2.1 11 = .ok (.aload_n 0, 1) := by decide +kernel
theorem dX2_init_12 : decode mX2_init.2.1 12 = .ok (.bipush 32, 2) := by decide +kernel
theorem dX2_init_14 : decode mX2_init.2.1 14 = .ok (.newarray .int, 2) := by decide +kernel
theorem dX2_init_16 : decode mX2_init.2.1 16 = .ok (.putfield 15, 3) := by decide +kernel
theorem dX2_init_19 : decode mX2_init.2.1 19 = .ok (.return_, 1) := by decide +kernel
theorem dX2_count_0 : decode mX2_count.2.1 0 = .ok (.aload_n 0, 1) := by decide +kernel
theorem dX2_count_1 : decode mX2_count.2.1 1 = .ok (.getfield 18, 3) := by decide +kernel
theorem dX2_count_4 : decode mX2_count.2.1 4 = .ok (.ireturn, 1) := by decide +kernel
theorem dX2_has_0 : decode mX2_has.2.1 0 = .ok (.iload_n 1, 1) := by decide +kernel
theorem dX2_has_1 : decode mX2_has.2.1 1 = .ok (.ifCond .lt 15, 3) := by decide +kernel
theorem dX2_has_4 : decode mX2_has.2.1 4 = .ok (.iload_n 1, 1) := by decide +kernel
theorem dX2_has_5 : decode mX2_has.2.1 5 = .ok (.aload_n 0, 1) := by decide +kernel
theorem dX2_has_6 : decode mX2_has.2.1 6 = .ok (.getfield 18, 3) := by decide +kernel
theorem dX2_has_9 : decode mX2_has.2.1 9 = .ok (.if_icmp .ge 7, 3) := by decide +kernel
theorem dX2_has_12 : decode mX2_has.2.1 12 = .ok (.iconst 1, 1) := by decide +kernel
theorem dX2_has_13 : decode mX2_has.2.1 13 = .ok (.goto 4, 3) := by decide +kernel
theorem dX2_has_16 : decode mX2_has.2.1 16 = .ok (.iconst 0, 1) := by decide +kernel
theorem dX2_has_17 : decode mX2_has.2.1 17 = .ok (.ireturn, 1) := by decide +kernel
theorem dX2_lines_0 : decode mX2_lines.2.1 0 = .ok (.aload_n 0, 1) := by decide +kernel
theorem dX2_lines_1 : decode mX2_lines.2.1 1 = .ok (.iload_n 1, 1) := by decide +kernel
theorem dX2_lines_2 : decode mX2_lines.2.1 2 = .ok (.invokevirtual 22, 3) := by decide +kernel
theorem dX2_lines_5 : decode mX2_lines.2.1 5 = .ok (.ifCond .eq 12, 3) := by decide +kernel
theorem dX2_lines_8 : decode mX2_lines.2.1 8 = .ok (.aload_n 0, 1) := by decide +kernel
theorem dX2_lines_9 : decode mX2_lines.2.1 9 = .ok (.getfield 9, 3) := by decide +kernel
theorem dX2_lines_12 : decode mX2_lines.2.1 12 = .ok (.iload_n 1, 1) := by decide +kernel
theorem dX2_lines_13 : decode mX2_lines.2.1 13 = .ok (.iaload, 1) := by decide +kernel
theorem dX2_lines_14 : decode mX2_lines.2.1 14 = .ok (.goto 4, 3) := by decide +kernel
theorem dX2_lines_17 : decode mX2_lines.2.1 17 = .ok (.iconst 0, 1) := by decide +kernel
theorem dX2_lines_18 : decode mX2_lines.2.1 18 = .ok (.ireturn, 1) := by decide +kernel
theorem dX2_hasLine_0 : decode mX2_hasLine.2.1 0 = .ok (.iload_n 2, 1) := by decide +kernel
theorem dX2_hasLine_1 : decode mX2_hasLine.2.1 1 = .ok (.ifCond .lt 16, 3) := by decide +kernel
theorem dX2_hasLine_4 : decode mX2_hasLine.2.1 4 = .ok (.iload_n 2, 1) := by decide +kernel
theorem dX2_hasLine_5 : decode mX2_hasLine.2.1 5 = .ok (.aload_n 0, 1) := by decide +kernel
theorem dX2_hasLine_6 : decode mX2_hasLine.2.1 6 = .ok (.iload_n 1, 1) := by decide +kernel
theorem dX2_hasLine_7 : decode mX2_hasLine.2.1 7 = .ok (.invokevirtual 26, 3) := by decide +kernel
theorem dX2_hasLine_10 : decode mX2_hasLine.2.1 10 = .ok (.if_icmp .ge 7, 3) := by decide +kernel
theorem dX2_hasLine_13 : decode mX2_hasLine.2.1 13 = .ok (.iconst 1, 1) := by decide +kernel
theorem dX2_hasLine_14 : decode mX2_hasLine.2.1 14 = .ok (.goto 4, 3) := by decide +kernel
theorem dX2_hasLine_17 : decode mX2_hasLine.2.1 17 = .ok (.iconst 0, 1) := by decide +kernel
theorem dX2_hasLine_18 : decode mX2_hasLine.2.1 18 = .ok (.ireturn, 1) := by decide +kernel
theorem dX2_sort_0 : decode mX2_sort.2.1 0 = .ok (.aload_n 0, 1) := by decide +kernel
theorem dX2_sort_1 : decode mX2_sort.2.1 1 = .ok (.iload_n 1, 1) := by decide +kernel
theorem dX2_sort_2 : decode mX2_sort.2.1 2 = .ok (.iload_n 2, 1) := by decide +kernel
theorem dX2_sort_3 : decode mX2_sort.2.1 3 = .ok (.invokevirtual 29, 3) := by decide +kernel
theorem dX2_sort_6 : decode mX2_sort.2.1 6 = .ok (.bipush 7, 2) := by decide +kernel
theorem dX2_sort_8 : decode mX2_sort.2.1 8 = .ok (.iand, 1) := by decide +kernel
theorem dX2_sort_9 : decode mX2_sort.2.1 9 = .ok (.ireturn, 1) := by decide +kernel
theorem dX2_name_0 : decode mX2_name.2.1 0 = .ok (.aload_n 0, 1) := by decide +kernel
theorem dX2_name_1 : decode mX2_name.2.1 1 = .ok (.iload_n 1, 1) := by decide +kernel
theorem dX2_name_2 : decode mX2_name.2.1 2 = .ok (.iload_n 2, 1) := by decide +kernel
theorem dX2_name_3 : decode mX2_name.2.1 3 = .ok (.invokevirtual 29, 3) := by decide +kernel
theorem dX2_name_6 : decode mX2_name.2.1 6 = .ok (.iconst 3, 1) := by decide +kernel
theorem dX2_name_7 : decode mX2_name.2.1 7 = .ok (.ishr, 1) := by decide +kernel
theorem dX2_name_8 : decode mX2_name.2.1 8 = .ok (.iconst 3, 1) := by decide +kernel
theorem dX2_name_9 : decode mX2_name.2.1 9 = .ok (.iand, 1) := by decide +kernel
theorem dX2_name_10 : decode mX2_name.2.1 10 = .ok (.ireturn, 1) := by decide +kernel
theorem dX2_hasOther_0 : decode mX2_hasOther.2.1 0 = .ok (.aload_n 0, 1) := by decide +kernel
theorem dX2_hasOther_1 : decode mX2_hasOther.2.1 1 = .ok (.iload_n 1, 1) := by decide +kernel
theorem dX2_hasOther_2 : decode mX2_hasOther.2.1 2 = .ok (.iload_n 2, 1) := by decide +kernel
theorem dX2_hasOther_3 : decode mX2_hasOther.2.1 3 = .ok (.invokevirtual 33, 3) := by decide +kernel
theorem dX2_hasOther_6 : decode mX2_hasOther.2.1 6 = .ok (.istore_n 3, 1) := by decide +kernel
theorem dX2_hasOther_7 : decode mX2_hasOther.2.1 7 = .ok (.iload_n 3, 1) := by decide +kernel
theorem dX2_hasOther_8 : decode mX2_hasOther.2.1 8 = .ok (.iconst 1, 1) := by decide +kernel
theorem dX2_hasOther_9 : decode mX2_hasOther.2.1 9 = .ok (.if_icmp .eq 19, 3) := by decide +kernel
theorem dX2_hasOther_12 : decode mX2_hasOther.2.1 12 = .ok (.iload_n 3, 1) := by decide +kernel
theorem dX2_hasOther_13 : decode mX2_hasOther.2.1 13 = .ok (.iconst 2, 1) := by decide +kernel
theorem dX2_hasOther_14 : decode mX2_hasOther.2.1 14 = .ok (.if_icmp .eq 14, 3) := by decide +kernel
theorem dX2_hasOther_17 : decode mX2_hasOther.2.1 17 = .ok (.iload_n 3, 1) := by decide +kernel
theorem dX2_hasOther_18 : decode mX2_hasOther.2.1 18 = .ok (.iconst 3, 1) := by decide +kernel
theorem dX2_hasOther_19 : decode mX2_hasOther.2.1 19 = .ok (.if_icmp .eq 9, 3) := by decide +kernel
theorem dX2_hasOther_22 : decode mX2_hasOther.2.1 22 = .ok (.iload_n 3, 1) := by decide +kernel
theorem dX2_hasOther_23 : decode mX2_hasOther.2.1 23 = .ok (.bipush 7, 2) := by decide +kernel
theorem dX2_hasOther_25 : decode mX2_hasOther.2.1 25 = .ok (.if_icmp .ne 7, 3) := by decide +kernel
theorem dX2_hasOther_28 : decode mX2_hasOther.2.1 28 = .ok (.iconst 1, 1) := by decide +kernel
theorem dX2_hasOther_29 : decode mX2_hasOther.2.1 29 = .ok (.goto 4, 3) := by decide +kernel
theorem dX2_hasOther_32 : decode mX2_hasOther.2.1 32 = .ok (.iconst 0, 1) := by decide +kernel
theorem dX2_hasOther_33 : decode mX2_hasOther.2.1 33 = .ok (.ireturn, 1) := by decide +kernel
theorem dX2_other_0 : decode mX2_other.2.1 0 = .ok (.aload_n 0, 1) := by decide +kernel
theorem dX2_other_1 : decode mX2_other.2.1 1 = .ok (.iload_n 1, 1) := by decide +kernel
theorem dX2_other_2 : decode mX2_other.2.1 2 = .ok (.iload_n 2, 1) := by decide +kernel
theorem dX2_other_3 : decode mX2_other.2.1 3 = .ok (.invokevirtual 29, 3) := by decide +kernel
theorem dX2_other_6 : decode mX2_other.2.1 6 = .ok (.iconst 5, 1) := by decide +kernel
theorem dX2_other_7 : decode mX2_other.2.1 7 = .ok (.ishr, 1) := by decide +kernel
theorem dX2_other_8 : decode mX2_other.2.1 8 = .ok (.iconst 3, 1) := by decide +kernel
theorem dX2_other_9 : decode mX2_other.2.1 9 = .ok (.iand, 1) := by decide +kernel
theorem dX2_other_10 : decode mX2_other.2.1 10 = .ok (.ireturn, 1) := by decide +kernel
theorem dX2_callee_0 : decode mX2_callee.2.1 0 = .ok (.aload_n 0, 1) := by decide +kernel
theorem dX2_callee_1 : decode mX2_callee.2.1 1 = .ok (.iload_n 1, 1) := by decide +kernel
theorem dX2_callee_2 : decode mX2_callee.2.1 2 = .ok (.iload_n 2, 1) := by decide +kernel
theorem dX2_callee_3 : decode mX2_callee.2.1 3 = .ok (.invokevirtual 29, 3) := by decide +kernel
theorem dX2_callee_6 : decode mX2_callee.2.1 6 = .ok (.bipush 7, 2) := by decide +kernel
theorem dX2_callee_8 : decode mX2_callee.2.1 8 = .ok (.ishr, 1) := by decide +kernel
theorem dX2_callee_9 : decode mX2_callee.2.1 9 = .ok (.iconst 3, 1) := by decide +kernel
theorem dX2_callee_10 : decode mX2_callee.2.1 10 = .ok (.iand, 1) := by decide +kernel
theorem dX2_callee_11 : decode mX2_callee.2.1 11 = .ok (.ireturn, 1) := by decide +kernel
theorem dX2_calledBy_0 : decode mX2_calledBy.2.1 0 = .ok (.iconst 0, 1) := by decide +kernel
theorem dX2_calledBy_1 : decode mX2_calledBy.2.1 1 = .ok (.istore_n 2, 1) := by decide +kernel
theorem dX2_calledBy_2 : decode mX2_calledBy.2.1 2 = .ok (.iconst 0, 1) := by decide +kernel
theorem dX2_calledBy_3 : decode mX2_calledBy.2.1 3 = .ok (.istore_n 3, 1) := by decide +kernel
theorem dX2_calledBy_4 : decode mX2_calledBy.2.1 4 = .ok (.iload_n 3, 1) := by decide +kernel
theorem dX2_calledBy_5 : decode mX2_calledBy.2.1 5 = .ok (.aload_n 0, 1) := by decide +kernel
theorem dX2_calledBy_6 : decode mX2_calledBy.2.1 6 = .ok (.iload_n 1, 1) := by decide +kernel
theorem dX2_calledBy_7 : decode mX2_calledBy.2.1 7 = .ok (.invokevirtual 26, 3) := by decide +kernel
theorem dX2_calledBy_10 : decode mX2_calledBy.2.1 10 = .ok (.if_icmp .ge 31, 3) := by decide +kernel
theorem dX2_calledBy_13 : decode mX2_calledBy.2.1 13 = .ok (.aload_n 0, 1) := by decide +kernel
theorem dX2_calledBy_14 : decode mX2_calledBy.2.1 14 = .ok (.iload_n 1, 1) := by decide +kernel
theorem dX2_calledBy_15 : decode mX2_calledBy.2.1 15 = .ok (.iload_n 3, 1) := by decide +kernel
theorem dX2_calledBy_16 : decode mX2_calledBy.2.1 16 = .ok (.invokevirtual 33, 3) := by decide +kernel
theorem dX2_calledBy_19 : decode mX2_calledBy.2.1 19 = .ok (.bipush 7, 2) := by decide +kernel
theorem dX2_calledBy_21 : decode mX2_calledBy.2.1 21 = .ok (.if_icmp .ne 14, 3) := by decide +kernel
theorem dX2_calledBy_24 : decode mX2_calledBy.2.1 24 = .ok (.iload_n 2, 1) := by decide +kernel
theorem dX2_calledBy_25 : decode mX2_calledBy.2.1 25 = .ok (.iconst 1, 1) := by decide +kernel
theorem dX2_calledBy_26 : decode mX2_calledBy.2.1 26 = .ok (.aload_n 0, 1) := by decide +kernel
theorem dX2_calledBy_27 : decode mX2_calledBy.2.1 27 = .ok (.iload_n 1, 1) := by decide +kernel
theorem dX2_calledBy_28 : decode mX2_calledBy.2.1 28 = .ok (.iload_n 3, 1) := by decide +kernel
theorem dX2_calledBy_29 : decode mX2_calledBy.2.1 29 = .ok (.invokevirtual 36, 3) := by decide +kernel
theorem dX2_calledBy_32 : decode mX2_calledBy.2.1 32 = .ok (.ishl, 1) := by decide +kernel
theorem dX2_calledBy_33 : decode mX2_calledBy.2.1 33 = .ok (.ior, 1) := by decide +kernel
theorem dX2_calledBy_34 : decode mX2_calledBy.2.1 34 = .ok (.istore_n 2, 1) := by decide +kernel
theorem dX2_calledBy_35 : decode mX2_calledBy.2.1 35 = .ok (.iinc 3 1, 3) := by decide +kernel
theorem dX2_calledBy_38 : decode mX2_calledBy.2.1 38 = .ok (.goto (-34), 3) := by decide +kernel
theorem dX2_calledBy_41 : decode mX2_calledBy.2.1 41 = .ok (.iload_n 2, 1) := by decide +kernel
theorem dX2_calledBy_42 : decode mX2_calledBy.2.1 42 = .ok (.ireturn, 1) := by decide +kernel
theorem dX2_becomeNone_0 : decode mX2_becomeNone.2.1 0 = .ok (.aload_n 0, 1) := by decide +kernel
theorem dX2_becomeNone_1 : decode mX2_becomeNone.2.1 1 = .ok (.iconst 0, 1) := by decide +kernel
theorem dX2_becomeNone_2 : decode mX2_becomeNone.2.1 2 = .ok (.putfield 18, 3) := by decide +kernel
theorem dX2_becomeNone_5 : decode mX2_becomeNone.2.1 5 = .ok (.return_, 1) := by decide +kernel
theorem dX2_addMethod_0 : decode mX2_addMethod.2.1 0 = .ok (.aload_n 0, 1) := by decide +kernel
theorem dX2_addMethod_1 : decode mX2_addMethod.2.1 1 = .ok (.getfield 18, 3) := by decide +kernel
theorem dX2_addMethod_4 : decode mX2_addMethod.2.1 4 = .ok (.iconst 4, 1) := by decide +kernel
theorem dX2_addMethod_5 : decode mX2_addMethod.2.1 5 = .ok (.if_icmp .ge 23, 3) := by decide +kernel
theorem dX2_addMethod_8 : decode mX2_addMethod.2.1 8 = .ok (.aload_n 0, 1) := by decide +kernel
theorem dX2_addMethod_9 : decode mX2_addMethod.2.1 9 = .ok (.getfield 9, 3) := by decide +kernel
theorem dX2_addMethod_12 : decode mX2_addMethod.2.1 12 = .ok (.aload_n 0, 1) := by decide +kernel
theorem dX2_addMethod_13 : decode mX2_addMethod.2.1 13 = .ok (.getfield 18, 3) := by decide +kernel
theorem dX2_addMethod_16 : decode mX2_addMethod.2.1 16 = .ok (.iconst 0, 1) := by decide +kernel
theorem dX2_addMethod_17 : decode mX2_addMethod.2.1 17 = .ok (.iastore, 1) := by decide +kernel
theorem dX2_addMethod_18 : decode mX2_addMethod.2.1 18 = .ok (.aload_n 0, 1) := by decide +kernel
theorem dX2_addMethod_19 : decode mX2_addMethod.2.1 19 = .ok (.dup, 1) := by decide +kernel
theorem dX2_addMethod_20 : decode mX2_addMethod.2.1 20 = .ok (.getfield 18, 3) := by decide +kernel
theorem dX2_addMethod_23 : decode mX2_addMethod.2.1 23 = .ok (.iconst 1, 1) := by decide +kernel
theorem dX2_addMethod_24 : decode mX2_addMethod.2.1 24 = .ok (.iadd, 1) := by decide +kernel
theorem dX2_addMethod_25 : decode mX2_addMethod.2.1 25 = .ok (.putfield 18, 3) := by decide +kernel
theorem dX2_addMethod_28 : decode mX2_addMethod.2.1 28 = .ok (.return_, 1) := by decide +kernel
theorem dX2_addLine_0 : decode mX2_addLine.2.1 0 = .ok (.aload_n 0, 1) := by decide +kernel
theorem dX2_addLine_1 : decode mX2_addLine.2.1 1 = .ok (.getfield 18, 3) := by decide +kernel
theorem dX2_addLine_4 : decode mX2_addLine.2.1 4 = .ok (.iconst 1, 1) := by decide +kernel
theorem dX2_addLine_5 : decode mX2_addLine.2.1 5 = .ok (.isub, 1) := by decide +kernel
theorem dX2_addLine_6 : decode mX2_addLine.2.1 6 = .ok (.istore 5, 2) := by decide +kernel
theorem dX2_addLine_8 : decode mX2_addLine.2.1 8 = .ok (.aload_n 0, 1) := by decide +kernel
theorem dX2_addLine_9 : decode mX2_addLine.2.1 9 = .ok (.iload 5, 2) := by decide +kernel
theorem dX2_addLine_11 : decode mX2_addLine.2.1 11 = .ok (.invokevirtual 22, 3) := by decide +kernel
theorem dX2_addLine_14 : decode mX2_addLine.2.1 14 = .ok (.ifCond .eq 59, 3) := by decide +kernel
theorem dX2_addLine_17 : decode mX2_addLine.2.1 17 = .ok (.aload_n 0, 1) := by decide +kernel
theorem dX2_addLine_18 : decode mX2_addLine.2.1 18 = .ok (.getfield 9, 3) := by decide +kernel
theorem dX2_addLine_21 : decode mX2_addLine.2.1 21 = .ok (.iload 5, 2) := by decide +kernel
theorem dX2_addLine_23 : decode mX2_addLine.2.1 23 = .ok (.iaload, 1) := by decide +kernel
theorem dX2_addLine_24 : decode mX2_addLine.2.1 24 = .ok (.bipush 8, 2) := by decide +kernel
theorem dX2_addLine_26 : decode mX2_addLine.2.1 26 = .ok (.if_icmp .ge 47, 3) := by decide +kernel
theorem dX2_addLine_29 : decode mX2_addLine.2.1 29 = .ok (.aload_n 0, 1) := by decide +kernel
theorem dX2_addLine_30 : decode mX2_addLine.2.1 30 = .ok (.getfield 15, 3) := by decide +kernel
theorem dX2_addLine_33 : decode mX2_addLine.2.1 33 = .ok (.iload 5, 2) := by decide +kernel
theorem dX2_addLine_35 : decode mX2_addLine.2.1 35 = .ok (.bipush 8, 2) := by decide +kernel
theorem dX2_addLine_37 : decode mX2_addLine.2.1 37 = .ok (.imul, 1) := by decide +kernel
theorem dX2_addLine_38 : decode mX2_addLine.2.1 38 = .ok (.aload_n 0, 1) := by decide +kernel
theorem dX2_addLine_39 : decode mX2_addLine.2.1 39 = .ok (.getfield 9, 3) := by decide +kernel
theorem dX2_addLine_42 : decode mX2_addLine.2.1 42 = .ok (.iload 5, 2) := by decide +kernel
theorem dX2_addLine_44 : decode mX2_addLine.2.1 44 = .ok (.iaload, 1) := by decide +kernel
theorem dX2_addLine_45 : decode mX2_addLine.2.1 45 = .ok (.iadd, 1) := by decide +kernel
theorem dX2_addLine_46 : decode mX2_addLine.2.1 46 = .ok (.iload_n 1, 1) := by decide +kernel
theorem dX2_addLine_47 : decode mX2_addLine.2.1 47 = .ok (.iload_n 2, 1) := by decide +kernel
theorem dX2_addLine_48 : decode mX2_addLine.2.1 48 = .ok (.iconst 3, 1) := by decide +kernel
theorem dX2_addLine_49 : decode mX2_addLine.2.1 49 = .ok (.ishl, 1) := by decide +kernel
theorem dX2_addLine_50 : decode mX2_addLine.2.1 50 = .ok (.ior, 1) := by decide +kernel
theorem dX2_addLine_51 : decode mX2_addLine.2.1 51 = .ok (.iload_n 3, 1) := by decide +kernel
theorem dX2_addLine_52 : decode mX2_addLine.2.1 52 = .ok (.iconst 5, 1) := by decide +kernel
theorem dX2_addLine_53 : decode mX2_addLine.2.1 53 = .ok (.ishl, 1) := by decide +kernel
theorem dX2_addLine_54 : decode mX2_addLine.2.1 54 = .ok (.ior, 1) := by decide +kernel
theorem dX2_addLine_55 : decode mX2_addLine.2.1 55 = .ok (.iload 4, 2) := by decide +kernel
theorem dX2_addLine_57 : decode mX2_addLine.2.1 57 = .ok (.bipush 7, 2) := by decide +kernel
theorem dX2_addLine_59 : decode mX2_addLine.2.1 59 = .ok (.ishl, 1) := by decide +kernel
theorem dX2_addLine_60 : decode mX2_addLine.2.1 60 = .ok (.ior, 1) := by decide +kernel
theorem dX2_addLine_61 : decode mX2_addLine.2.1 61 = .ok (.iastore, 1) := by decide +kernel
theorem dX2_addLine_62 : decode mX2_addLine.2.1 62 = .ok (.aload_n 0, 1) := by decide +kernel
theorem dX2_addLine_63 : decode mX2_addLine.2.1 63 = .ok (.getfield 9, 3) := by decide +kernel
theorem dX2_addLine_66 : decode mX2_addLine.2.1 66 = .ok (.iload 5, 2) := by decide +kernel
theorem dX2_addLine_68 : decode mX2_addLine.2.1 68 = .ok (.dup2, 1) := by decide +kernel
theorem dX2_addLine_69 : decode mX2_addLine.2.1 69 = .ok (.iaload, 1) := by decide +kernel
theorem dX2_addLine_70 : decode mX2_addLine.2.1 70 = .ok (.iconst 1, 1) := by decide +kernel
theorem dX2_addLine_71 : decode mX2_addLine.2.1 71 = .ok (.iadd, 1) := by decide +kernel
theorem dX2_addLine_72 : decode mX2_addLine.2.1 72 = .ok (.iastore, 1) := by decide +kernel
theorem dX2_addLine_73 : decode mX2_addLine.2.1 73 = .ok (.return_, 1) := by decide +kernel
theorem dX2_removeLine_0 : decode mX2_removeLine.2.1 0 = .ok (.aload_n 0, 1) := by decide +kernel
theorem dX2_removeLine_1 : decode mX2_removeLine.2.1 1 = .ok (.iload_n 1, 1) := by decide +kernel
theorem dX2_removeLine_2 : decode mX2_removeLine.2.1 2 = .ok (.iload_n 2, 1) := by decide +kernel
theorem dX2_removeLine_3 : decode mX2_removeLine.2.1 3 = .ok (.invokevirtual 39, 3) := by decide +kernel
theorem dX2_removeLine_6 : decode mX2_removeLine.2.1 6 = .ok (.ifCond .eq 45, 3) := by decide +kernel
theorem dX2_removeLine_9 : decode mX2_removeLine.2.1 9 = .ok (.iload_n 1, 1) := by decide +kernel
theorem dX2_removeLine_10 : decode mX2_removeLine.2.1 10 = .ok (.bipush 8, 2) := by decide +kernel
theorem dX2_removeLine_12 : decode mX2_removeLine.2.1 12 = .ok (.imul, 1) := by decide +kernel
theorem dX2_removeLine_13 : decode mX2_removeLine.2.1 13 = .ok (.iload_n 2, 1) := by decide +kernel
theorem dX2_removeLine_14 : decode mX2_removeLine.2.1 14 = .ok (.iadd, 1) := by decide +kernel
theorem dX2_removeLine_15 : decode mX2_removeLine.2.1 15 = .ok (.istore_n 3, 1) := by decide +kernel
theorem dX2_removeLine_16 : decode mX2_removeLine.2.1 16 = .ok (.aload_n 0, 1) := by decide +kernel
theorem dX2_removeLine_17 : decode mX2_removeLine.2.1 17 = .ok (.getfield 15, 3) := by decide +kernel
theorem dX2_removeLine_20 : decode mX2_removeLine.2.1 20 = .ok (.iload_n 3, 1) := by decide +kernel
theorem dX2_removeLine_21 : decode mX2_removeLine.2.1 21 = .ok (.iconst 1, 1) := by decide +kernel
theorem dX2_removeLine_22 : decode mX2_removeLine.2.1 22 = .ok (.iadd, 1) := by decide +kernel
theorem dX2_removeLine_23 : decode mX2_removeLine.2.1 23 = .ok (.aload_n 0, 1) := by decide +kernel
theorem dX2_removeLine_24 : decode mX2_removeLine.2.1 24 = .ok (.getfield 15, 3) := by decide +kernel
theorem dX2_removeLine_27 : decode mX2_removeLine.2.1 27 = .ok (.iload_n 3, 1) := by decide +kernel
theorem dX2_removeLine_28 : decode mX2_removeLine.2.1 28 = .ok (.aload_n 0, 1) := by decide +kernel
theorem dX2_removeLine_29 : decode mX2_removeLine.2.1 29 = .ok (.getfield 9, 3) := by decide +kernel
theorem dX2_removeLine_32 : decode mX2_removeLine.2.1 32 = .ok (.iload_n 1, 1) := by decide +kernel
theorem dX2_removeLine_33 : decode mX2_removeLine.2.1 33 = .ok (.iaload, 1) := by decide +kernel
theorem dX2_removeLine_34 : decode mX2_removeLine.2.1 34 = .ok (.iconst 1, 1) := by decide +kernel
theorem dX2_removeLine_35 : decode mX2_removeLine.2.1 35 = .ok (.isub, 1) := by decide +kernel
theorem dX2_removeLine_36 : decode mX2_removeLine.2.1 36 = .ok (.iload_n 2, 1) := by decide +kernel
theorem dX2_removeLine_37 : decode mX2_removeLine.2.1 37 = .ok (.isub, 1) := by decide +kernel
theorem dX2_removeLine_38 : decode mX2_removeLine.2.1 38 = .ok (.invokestatic 43, 3) := by decide +kernel
theorem dX2_removeLine_41 : decode mX2_removeLine.2.1 41 = .ok (.aload_n 0, 1) := by decide +kernel
theorem dX2_removeLine_42 : decode mX2_removeLine.2.1 42 = .ok (.getfield 9, 3) := by decide +kernel
theorem dX2_removeLine_45 : decode mX2_removeLine.2.1 45 = .ok (.iload_n 1, 1) := by decide +kernel
theorem dX2_removeLine_46 : decode mX2_removeLine.2.1 46 = .ok (.dup2, 1) := by decide +kernel
theorem dX2_removeLine_47 : decode mX2_removeLine.2.1 47 = .ok (.iaload, 1) := by decide +kernel
theorem dX2_removeLine_48 : decode mX2_removeLine.2.1 48 = .ok (.iconst 1, 1) := by decide +kernel
theorem dX2_removeLine_49 : decode mX2_removeLine.2.1 49 = .ok (.isub, 1) := by decide +kernel
theorem dX2_removeLine_50 : decode mX2_removeLine.2.1 50 = .ok (.iastore, 1) := by decide +kernel
theorem dX2_removeLine_51 : decode mX2_removeLine.2.1 51 = .ok (.return_, 1) := by decide +kernel
theorem dX2_swapWithNext_0 : decode mX2_swapWithNext.2.1 0 = .ok (.aload_n 0, 1) := by decide +kernel
theorem dX2_swapWithNext_1 : decode mX2_swapWithNext.2.1 1 = .ok (.iload_n 1, 1) := by decide +kernel
theorem dX2_swapWithNext_2 : decode mX2_swapWithNext.2.1 2 = .ok (.iload_n 2, 1) := by decide +kernel
theorem dX2_swapWithNext_3 : decode mX2_swapWithNext.2.1 3 = .ok (.invokevirtual 39, 3) := by decide +kernel
theorem dX2_swapWithNext_6 : decode mX2_swapWithNext.2.1 6 = .ok (.ifCond .eq 53, 3) := by decide +kernel
theorem dX2_swapWithNext_9 : decode mX2_swapWithNext.2.1 9 = .ok (.aload_n 0, 1) := by decide +kernel
theorem dX2_swapWithNext_10 : decode mX2_swapWithNext.2.1 10 = .ok (.iload_n 1, 1) := by decide +kernel
theorem dX2_swapWithNext_11 : decode mX2_swapWithNext.2.1 11 = .ok (.iload_n 2, 1) := by decide +kernel
theorem dX2_swapWithNext_12 : decode mX2_swapWithNext.2.1 12 = .ok (.iconst 1, 1) := by decide +kernel
theorem dX2_swapWithNext_13 : decode mX2_swapWithNext.2.1 13 = .ok (.iadd, 1) := by decide +kernel
theorem dX2_swapWithNext_14 : decode mX2_swapWithNext.2.1 14 = .ok (.invokevirtual 39, 3) := by decide +kernel
theorem dX2_swapWithNext_17 : decode mX2_swapWithNext.2.1 17 = .ok (.ifCond .eq 42, 3) := by decide +kernel
theorem dX2_swapWithNext_20 : decode mX2_swapWithNext.2.1 20 = .ok (.iload_n 1, 1) := by decide +kernel
theorem dX2_swapWithNext_21 : decode mX2_swapWithNext.2.1 21 = .ok (.bipush 8, 2) := by decide +kernel
theorem dX2_swapWithNext_23 : decode mX2_swapWithNext.2.1 23 = .ok (.imul, 1) := by decide +kernel
theorem dX2_swapWithNext_24 : decode mX2_swapWithNext.2.1 24 = .ok (.iload_n 2, 1) := by decide +kernel
theorem dX2_swapWithNext_25 : decode mX2_swapWithNext.2.1 25 = .ok (.iadd, 1) := by decide +kernel
theorem dX2_swapWithNext_26 : decode mX2_swapWithNext.2.1 26 = .ok (.istore_n 3, 1) := by decide +kernel
theorem dX2_swapWithNext_27 : decode mX2_swapWithNext.2.1 27 = .ok (.aload_n 0, 1) := by decide +kernel
theorem dX2_swapWithNext_28 : decode mX2_swapWithNext.2.1 28 = .ok (.getfield 15, 3) := by decide +kernel
theorem dX2_swapWithNext_31 : decode mX2_swapWithNext.2.1 31 = .ok (.iload_n 3, 1) := by decide +kernel
theorem dX2_swapWithNext_32 : decode mX2_swapWithNext.2.1 32 = .ok (.iaload, 1) := by decide +kernel
theorem dX2_swapWithNext_33 : decode mX2_swapWithNext.2.1 33 = .ok (.istore 4, 2) := by decide +kernel
theorem dX2_swapWithNext_35 : decode mX2_swapWithNext.2.1 35 = .ok (.aload_n 0, 1) := by decide +kernel
theorem dX2_swapWithNext_36 : decode mX2_swapWithNext.2.1 36 = .ok (.getfield 15, 3) := by decide +kernel
theorem dX2_swapWithNext_39 : decode mX2_swapWithNext.2.1 39 = .ok (.iload_n 3, 1) := by decide +kernel
theorem dX2_swapWithNext_40 : decode mX2_swapWithNext.2.1 40 = .ok (.aload_n 0, 1) := by decide +kernel
theorem dX2_swapWithNext_41 : decode mX2_swapWithNext.2.1 41 = .ok (.getfield 15, 3) := by decide +kernel
theorem dX2_swapWithNext_44 : decode mX2_swapWithNext.2.1 44 = .ok (.iload_n 3, 1) := by decide +kernel
theorem dX2_swapWithNext_45 : decode mX2_swapWithNext.2.1 45 = .ok (.iconst 1, 1) := by decide +kernel
theorem dX2_swapWithNext_46 : decode mX2_swapWithNext.2.1 46 = .ok (.iadd, 1) := by decide +kernel
theorem dX2_swapWithNext_47 : decode mX2_swapWithNext.2.1 47 = .ok (.iaload, 1) := by decide +kernel
theorem dX2_swapWithNext_48 : decode mX2_swapWithNext.2.1 48 = .ok (.iastore, 1) := by decide +kernel
theorem dX2_swapWithNext_49 : decode mX2_swapWithNext.2.1 49 = .ok (.aload_n 0, 1) := by decide +kernel
theorem dX2_swapWithNext_50 : decode mX2_swapWithNext.2.1 50 = .ok (.getfield 15, 3) := by decide +kernel
theorem dX2_swapWithNext_53 : decode mX2_swapWithNext.2.1 53 = .ok (.iload_n 3, 1) := by decide +kernel
theorem dX2_swapWithNext_54 : decode mX2_swapWithNext.2.1 54 = .ok (.iconst 1, 1) := by decide +kernel
theorem dX2_swapWithNext_55 : decode mX2_swapWithNext.2.1 55 = .ok (.iadd, 1) := by decide +kernel
theorem dX2_swapWithNext_56 : decode mX2_swapWithNext.2.1 56 = .ok (.iload 4, 2) := by decide +kernel
theorem dX2_swapWithNext_58 : decode mX2_swapWithNext.2.1 58 = .ok (.iastore, 1) := by decide +kernel
theorem dX2_swapWithNext_59 : decode mX2_swapWithNext.2.1 59 = .ok (.return_, 1) := by decide +kernel
theorem dX2_becomeLike_0 : decode mX2_becomeLike.2.1 0 = .ok (.aload_n 0, 1) := by decide +kernel
theorem dX2_becomeLike_1 : decode mX2_becomeLike.2.1 1 = .ok (.aload_n 1, 1) := by decide +kernel
theorem dX2_becomeLike_2 : decode mX2_becomeLike.2.1 2 = .ok (.getfield 18, 3) := by decide +kernel
theorem dX2_becomeLike_5 : decode mX2_becomeLike.2.1 5 = .ok (.putfield 18, 3) := by decide +kernel
theorem dX2_becomeLike_8 : decode mX2_becomeLike.2.1 8 = .ok (.aload_n 1, 1) := by decide +kernel
theorem dX2_becomeLike_9 : decode mX2_becomeLike.2.1 9 = .ok (.getfield 9, 3) := by decide +kernel
theorem dX2_becomeLike_12 : decode mX2_becomeLike.2.1 12 = .ok (.iconst 0, 1) := by decide +kernel
theorem dX2_becomeLike_13 : decode mX2_becomeLike.2.1 13 = .ok (.aload_n 0, 1) := by decide +kernel
theorem dX2_becomeLike_14 : decode mX2_becomeLike.2.1 14 = .ok (.getfield 9, 3) := by decide +kernel
theorem dX2_becomeLike_17 : decode mX2_becomeLike.2.1 17 = .ok (.iconst 0, 1) := by decide +kernel
theorem dX2_becomeLike_18 : decode mX2_becomeLike.2.1 18 = .ok (.iconst 4, 1) := by decide +kernel
theorem dX2_becomeLike_19 : decode mX2_becomeLike.2.1 19 = .ok (.invokestatic 43, 3) := by decide +kernel
theorem dX2_becomeLike_22 : decode mX2_becomeLike.2.1 22 = .ok (.aload_n 1, 1) := by decide +kernel
theorem dX2_becomeLike_23 : decode mX2_becomeLike.2.1 23 = .ok (.getfield 15, 3) := by decide +kernel
theorem dX2_becomeLike_26 : decode mX2_becomeLike.2.1 26 = .ok (.iconst 0, 1) := by decide +kernel
theorem dX2_becomeLike_27 : decode mX2_becomeLike.2.1 27 = .ok (.aload_n 0, 1) := by decide +kernel
theorem dX2_becomeLike_28 : decode mX2_becomeLike.2.1 28 = .ok (.getfield 15, 3) := by decide +kernel
theorem dX2_becomeLike_31 : decode mX2_becomeLike.2.1 31 = .ok (.iconst 0, 1) := by decide +kernel
theorem dX2_becomeLike_32 : decode mX2_becomeLike.2.1 32 = .ok (.bipush 32, 2) := by decide +kernel
theorem dX2_becomeLike_34 : decode mX2_becomeLike.2.1 34 = .ok (.invokestatic 43, 3) := by decide +kernel
theorem dX2_becomeLike_37 : decode mX2_becomeLike.2.1 37 = .ok (.return_, 1) := by decide +kernel
theorem dX2_code_0 : decode mX2_code.2.1 0 = .ok (.iload_n 1, 1) := by decide +kernel
theorem dX2_code_1 : decode mX2_code.2.1 1 = .ok (.ifCond .lt 39, 3) := by decide +kernel
theorem dX2_code_4 : decode mX2_code.2.1 4 = .ok (.iload_n 1, 1) := by decide +kernel
theorem dX2_code_5 : decode mX2_code.2.1 5 = .ok (.aload_n 0, 1) := by decide +kernel
theorem dX2_code_6 : decode mX2_code.2.1 6 = .ok (.getfield 18, 3) := by decide +kernel
theorem dX2_code_9 : decode mX2_code.2.1 9 = .ok (.if_icmp .ge 31, 3) := by decide +kernel
theorem dX2_code_12 : decode mX2_code.2.1 12 = .ok (.iload_n 2, 1) := by decide +kernel
theorem dX2_code_13 : decode mX2_code.2.1 13 = .ok (.ifCond .lt 27, 3) := by decide +kernel
theorem dX2_code_16 : decode mX2_code.2.1 16 = .ok (.iload_n 2, 1) := by decide +kernel
theorem dX2_code_17 : decode mX2_code.2.1 17 = .ok (.aload_n 0, 1) := by decide +kernel
theorem dX2_code_18 : decode mX2_code.2.1 18 = .ok (.getfield 9, 3) := by decide +kernel
theorem dX2_code_21 : decode mX2_code.2.1 21 = .ok (.iload_n 1, 1) := by decide +kernel
theorem dX2_code_22 : decode mX2_code.2.1 22 = .ok (.iaload, 1) := by decide +kernel
theorem dX2_code_23 : decode mX2_code.2.1 23 = .ok (.if_icmp .ge 17, 3) := by decide +kernel
theorem dX2_code_26 : decode mX2_code.2.1 26 = .ok (.aload_n 0, 1) := by decide +kernel
theorem dX2_code_27 : decode mX2_code.2.1 27 = .ok (.getfield 15, 3) := by decide +kernel
theorem dX2_code_30 : decode mX2_code.2.1 30 = .ok (.iload_n 1, 1) := by decide +kernel
theorem dX2_code_31 : decode mX2_code.2.1 31 = .ok (.bipush 8, 2) := by decide +kernel
theorem dX2_code_33 : decode mX2_code.2.1 33 = .ok (.imul, 1) := by decide +kernel
theorem dX2_code_34 : decode mX2_code.2.1 34 = .ok (.iload_n 2, 1) := by decide +kernel
theorem dX2_code_35 : decode mX2_code.2.1 35 = .ok (.iadd, 1) := by decide +kernel
theorem dX2_code_36 : decode mX2_code.2.1 36 = .ok (.iaload, 1) := by decide +kernel
theorem dX2_code_37 : decode mX2_code.2.1 37 = .ok (.goto 4, 3) := by decide +kernel
theorem dX2_code_40 : decode mX2_code.2.1 40 = .ok (.iconst 0, 1) := by decide +kernel
theorem dX2_code_41 : decode mX2_code.2.1 41 = .ok (.ireturn, 1) := by decide +kernel
theorem dX3_init_0 : decode mX3_init.2.1 0 = .ok (.aload_n 0, 1) := by decide +kernel
theorem dX3_init_1 : decode mX3_init.2.1 1 = .ok (.invokespecial 3, 3) := by decide +kernel
theorem dX3_init_4 : decode mX3_init.2.1 4 = .ok (.aload_n 0, 1) := by decide +kernel
theorem dX3_init_5 : decode mX3_init.2.1 5 = .ok (.new 9, 3) := by decide +kernel
theorem dX3_init_8 : decode mX3_init.2.1 8 = .ok (.dup, 1) := by decide +kernel
theorem dX3_init_9 : decode mX3_init.2.1 9 = .ok (.invokespecial 11, 3) := by decide +kernel
theorem dX3_init_12 : decode mX3_init.2.1 12 = .ok (.putfield 12, 3) := by decide +kernel
theorem dX3_init_15 : decode mX3_init.2.1 15 = .ok (.aload_n 0, 1) := by decide +kernel
theorem dX3_init_16 : decode mX3_init.2.1 16 = .ok (.iconst 4, 1) := by decide +kernel
theorem dX3_init_17 : decode mX3_init.2.1 17 = .ok (.newarray .int, 2) := by decide +kernel
theorem dX3_init_19 : decode mX3_init.2.1 19 = .ok (.putfield 18, 3) := by decide +kernel
theorem dX3_init_22 : decode mX3_init.2.1 22 = .ok (.aload_n 0, 1) := by decide +kernel
theorem dX3_init_23 : decode mX3_init.2.1 23 = .ok (.aload_n 1, 1) := by decide +kernel
theorem dX3_init_24 : decode mX3_init.2.1 24 = .ok (.putfield 22, 3) := by decide +kernel
theorem dX3_init_27 : decode mX3_init.2.1 27 = .ok (.aload_n 0, 1) := by decide +kernel
theorem dX3_init_28 : decode mX3_init.2.1 28 = .ok (.aload_n 2, 1) := by decide +kernel
theorem dX3_init_29 : decode mX3_init.2.1 29 = .ok (.putfield 26, 3) := by decide +kernel
theorem dX3_init_32 : decode mX3_init.2.1 32 = .ok (.return_, 1) := by decide +kernel
theorem dX3_readAll_0 : decode mX3_readAll.2.1 0 = .ok (.aload_n 0, 1) := by decide +kernel
theorem dX3_readAll_1 : decode mX3_readAll.2.1 1 = .ok (.iconst (-1), 1) := by decide +kernel
theorem dX3_readAll_2 : decode mX3_readAll.2.1 2 = .ok (.putfield 30, 3) := by decide +kernel
theorem dX3_readAll_5 : decode mX3_readAll.2.1 5 = .ok (.aload_n 0, 1) := by decide +kernel
theorem dX3_readAll_6 : decode mX3_readAll.2.1 6 = .ok (.getfield 12, 3) := by decide +kernel
theorem dX3_readAll_9 : decode mX3_readAll.2.1 9 = .ok (.aload_n 0, 1) := by decide +kernel
theorem dX3_readAll_10 : decode mX3_readAll.2.1 10 = .ok (.getfield 22, 3) := by decide +kernel
theorem dX3_readAll_13 : decode mX3_readAll.2.1 13 = .ok (.invokevirtual 34, 3) := by decide +kernel
theorem dX3_readAll_16 : decode mX3_readAll.2.1 16 = .ok (.aload_n 0, 1) := by decide +kernel
theorem dX3_readAll_17 : decode mX3_readAll.2.1 17 = .ok (.getfield 26, 3) := by decide +kernel
theorem dX3_readAll_20 : decode mX3_readAll.2.1 20 = .ok (.invokevirtual 38, 3) := by decide +kernel
theorem dX3_readAll_23 : decode mX3_readAll.2.1 23 = .ok (.aload_n 0, 1) := by decide +kernel
theorem dX3_readAll_24 : decode mX3_readAll.2.1 24 = .ok (.getfield 18, 3) := by decide +kernel
theorem dX3_readAll_27 : decode mX3_readAll.2.1 27 = .ok (.iconst (-1), 1) := by decide +kernel
theorem dX3_readAll_28 : decode mX3_readAll.2.1 28 = .ok (.invokestatic 43, 3) := by decide +kernel
theorem dX3_readAll_31 : decode mX3_readAll.2.1 31 = .ok (.iconst 0, 1) := by decide +kernel
theorem dX3_readAll_32 : decode mX3_readAll.2.1 32 = .ok (.istore_n 1, 1) := by decide +kernel
theorem dX3_readAll_33 : decode mX3_readAll.2.1 33 = .ok (.iload_n 1, 1) := by decide +kernel
theorem dX3_readAll_34 : decode mX3_readAll.2.1 34 = .ok (.iconst 4, 1) := by decide +kernel
theorem dX3_readAll_35 : decode mX3_readAll.2.1 35 = .ok (.if_icmp .ge 33, 3) := by decide +kernel
theorem dX3_readAll_38 : decode mX3_readAll.2.1 38 = .ok (.aload_n 0, 1) := by decide +kernel
theorem dX3_readAll_39 : decode mX3_readAll.2.1 39 = .ok (.getfield 30, 3) := by decide +kernel
theorem dX3_readAll_42 : decode mX3_readAll.2.1 42 = .ok (.iconst (-1), 1) := by decide +kernel
theorem dX3_readAll_43 : decode mX3_readAll.2.1 43 = .ok (.if_icmp .ne 25, 3) := by decide +kernel
theorem dX3_readAll_46 : decode mX3_readAll.2.1 46 = .ok (.aload_n 0, 1) := by decide +kernel
theorem dX3_readAll_47 : decode mX3_readAll.2.1 47 = .ok (.getfield 12, 3) := by decide +kernel
theorem dX3_readAll_50 : decode mX3_readAll.2.1 50 = .ok (.invokevirtual 49, 3) := by decide +kernel
theorem dX3_readAll_53 : decode mX3_readAll.2.1 53 = .ok (.iconst (-1), 1) := by decide +kernel
theorem dX3_readAll_54 : decode mX3_readAll.2.1 54 = .ok (.if_icmp .eq 14, 3) := by decide +kernel
theorem dX3_readAll_57 : decode mX3_readAll.2.1 57 = .ok (.aload_n 0, 1) := by decide +kernel
theorem dX3_readAll_58 : decode mX3_readAll.2.1 58 = .ok (.iload_n 1, 1) := by decide +kernel
theorem dX3_readAll_59 : decode mX3_readAll.2.1 59 = .ok (.invokevirtual 53, 3) := by decide +kernel
theorem dX3_readAll_62 : decode mX3_readAll.2.1 62 = .ok (.iinc 1 1, 3) := by decide +kernel
theorem dX3_readAll_65 : decode mX3_readAll.2.1 65 = .ok (.goto (-32), 3) := by decide +kernel
theorem dX3_readAll_68 : decode mX3_readAll.2.1 68 = .ok (.aload_n 0, 1) := by decide +kernel
theorem dX3_readAll_69 : decode mX3_readAll.2.1 69 = .ok (.iconst (-1), 1) := by decide +kernel
theorem dX3_readAll_70 : decode mX3_readAll.2.1 70 = .ok (.invokevirtual 57, 3) := by decide +kernel
theorem dX3_readAll_73 : decode mX3_readAll.2.1 73 = .ok (.aload_n 0, 1) := by decide +kernel
theorem dX3_readAll_74 : decode mX3_readAll.2.1 74 = .ok (.getfield 30, 3) := by decide +kernel
theorem dX3_readAll_77 : decode mX3_readAll.2.1 77 = .ok (.iconst (-1), 1) := by decide +kernel
theorem dX3_readAll_78 : decode mX3_readAll.2.1 78 = .ok (.if_icmp .ne 10, 3) := by decide +kernel
theorem dX3_readAll_81 : decode mX3_readAll.2.1 81 = .ok (.aload_n 0, 1) := by decide +kernel
theorem dX3_readAll_82 : decode mX3_readAll.2.1 82 = .ok (.invokevirtual 60, 3) := by decide +kernel
theorem dX3_readAll_85 : decode mX3_readAll.2.1 85 = .ok (.goto 7, 3) := by decide +kernel
theorem dX3_readAll_88 : decode mX3_readAll.2.1 88 = .ok (.aload_n 0, 1) := by decide +kernel
theorem dX3_readAll_89 : decode mX3_readAll.2.1 89 = .ok (.getfield 30, 3) := by decide +kernel
theorem dX3_readAll_92 : decode mX3_readAll.2.1 92 = .ok (.ireturn, 1) := by decide +kernel
theorem dX3_firstMissingCall_0 : decode mX3_firstMissingCall.2.1 0 = .ok (.iconst (-1), 1) := by decide +kernel
theorem dX3_firstMissingCall_1 : decode mX3_firstMissingCall.2.1 1 = .ok (.istore_n 1, 1) := by decide +kernel
theorem dX3_firstMissingCall_2 : decode mX3_firstMissingCall.2.1 2 = .ok (.aload_n 0, 1) := by decide +kernel
theorem dX3_firstMissingCall_3 : decode mX3_firstMissingCall.2.1 3 = .ok (.getfield 26, 3) := by decide +kernel
theorem dX3_firstMissingCall_6 : decode mX3_firstMissingCall.2.1 6 = .ok (.invokevirtual 63, 3) := by decide +kernel
theorem dX3_firstMissingCall_9 : decode mX3_firstMissingCall.2.1 9 = .ok (.istore_n 2, 1) := by decide +kernel
theorem dX3_firstMissingCall_10 : decode mX3_firstMissingCall.2.1 10 = .ok (.iload_n 2, 1) := by decide +kernel
theorem dX3_firstMissingCall_11 : decode mX3_firstMissingCall.2.1 11 = .ok (.iconst 4, 1) := by decide +kernel
theorem dX3_firstMissingCall_12 : decode mX3_firstMissingCall.2.1 12 = .ok (.if_icmp .ge 41, 3) := by decide +kernel
theorem dX3_firstMissingCall_15 : decode mX3_firstMissingCall.2.1 15 = .ok (.aload_n 0, 1) := by decide +kernel
theorem dX3_firstMissingCall_16 : decode mX3_firstMissingCall.2.1 16 = .ok (.getfield 18, 3) := by decide +kernel
theorem dX3_firstMissingCall_19 : decode mX3_firstMissingCall.2.1 19 = .ok (.iload_n 2, 1) := by decide +kernel
theorem dX3_firstMissingCall_20 : decode mX3_firstMissingCall.2.1 20 = .ok (.iaload, 1) := by decide +kernel
theorem dX3_firstMissingCall_21 : decode mX3_firstMissingCall.2.1 21 = .ok (.iconst (-1), 1) := by decide +kernel
theorem dX3_firstMissingCall_22 : decode mX3_firstMissingCall.2.1 22 = .ok (.if_icmp .eq 25, 3) := by decide +kernel
theorem dX3_firstMissingCall_25 : decode mX3_firstMissingCall.2.1 25 = .ok (.iload_n 1, 1) := by decide +kernel
theorem dX3_firstMissingCall_26 : decode mX3_firstMissingCall.2.1 26 = .ok (.iconst (-1), 1) := by decide +kernel
theorem dX3_firstMissingCall_27 : decode mX3_firstMissingCall.2.1 27 = .ok (.if_icmp .eq 13, 3) := by decide +kernel
theorem dX3_firstMissingCall_30 : decode mX3_firstMissingCall.2.1 30 = .ok (.aload_n 0, 1) := by decide +kernel
theorem dX3_firstMissingCall_31 : decode mX3_firstMissingCall.2.1 31 = .ok (.getfield 18, 3) := by decide +kernel
theorem dX3_firstMissingCall_34 : decode mX3_firstMissingCall.2.1 34 = .ok (.iload_n 2, 1) := by decide +kernel
theorem dX3_firstMissingCall_35 : decode mX3_firstMissingCall.2.1 35 = .ok (.iaload, 1) := by decide +kernel
theorem dX3_firstMissingCall_36 : decode mX3_firstMissingCall.2.1 36 = .ok (.iload_n 1, 1) := by decide +kernel
theorem dX3_firstMissingCall_37 : decode mX3_firstMissingCall.2.1 37 = .ok (.if_icmp .ge 10, 3) := by decide +kernel
theorem dX3_firstMissingCall_40 : decode mX3_firstMissingCall.2.1 40 = .ok (.aload_n 0, 1) := by decide +kernel
theorem dX3_firstMissingCall_41 : decode mX3_firstMissingCall.2.1 41 = .ok (.getfield 18, 3) := by decide +kernel
theorem dX3_firstMissingCall_44 : decode mX3_firstMissingCall.2.1 44 = .ok (.iload_n 2, 1) := by decide +kernel
theorem dX3_firstMissingCall_45 : decode mX3_firstMissingCall.2.1 45 = .ok (.iaload, 1) := by decide +kernel
theorem dX3_firstMissingCall_46 : decode mX3_firstMissingCall.2.1 46 = .ok (.istore_n 1, 1) := by decide +kernel
theorem dX3_firstMissingCall_47 : decode mX3_firstMissingCall.2.1 47 = .ok (.iinc 2 1, 3) := by decide +kernel
theorem dX3_firstMissingCall_50 : decode mX3_firstMissingCall.2.1 50 = .ok (.goto (-40), 3) := by decide +kernel
theorem dX3_firstMissingCall_53 : decode mX3_firstMissingCall.2.1 53 = .ok (.iload_n 1, 1) := by decide +kernel
theorem dX3_firstMissingCall_54 : decode mX3_firstMissingCall.2.1 54 = .ok (.ireturn, 1) := by decide +kernel
theorem dX3_readMethod_0 : decode mX3_readMethod.2.1 0 = .ok (.aload_n 0, 1) := by decide +kernel
theorem dX3_readMethod_1 : decode mX3_readMethod.2.1 1 = .ok (.getfield 26, 3) := by decide +kernel
theorem dX3_readMethod_4 : decode mX3_readMethod.2.1 4 = .ok (.invokevirtual 66, 3) := by decide +kernel
theorem dX3_readMethod_7 : decode mX3_readMethod.2.1 7 = .ok (.aload_n 0, 1) := by decide +kernel
theorem dX3_readMethod_8 : decode mX3_readMethod.2.1 8 = .ok (.bipush 123, 2) := by decide +kernel
theorem dX3_readMethod_10 : decode mX3_readMethod.2.1 10 = .ok (.invokevirtual 57, 3) := by decide +kernel
theorem dX3_readMethod_13 : decode mX3_readMethod.2.1 13 = .ok (.iconst 0, 1) := by decide +kernel
theorem dX3_readMethod_14 : decode mX3_readMethod.2.1 14 = .ok (.istore_n 2, 1) := by decide +kernel
theorem dX3_readMethod_15 : decode mX3_readMethod.2.1 15 = .ok (.iload_n 2, 1) := by decide +kernel
theorem dX3_readMethod_16 : decode mX3_readMethod.2.1 16 = .ok (.bipush 8, 2) := by decide +kernel
theorem dX3_readMethod_18 : decode mX3_readMethod.2.1 18 = .ok (.if_icmp .ge 63, 3) := by decide +kernel
theorem dX3_readMethod_21 : decode mX3_readMethod.2.1 21 = .ok (.aload_n 0, 1) := by decide +kernel
theorem dX3_readMethod_22 : decode mX3_readMethod.2.1 22 = .ok (.getfield 30, 3) := by decide +kernel
theorem dX3_readMethod_25 : decode mX3_readMethod.2.1 25 = .ok (.iconst (-1), 1) := by decide +kernel
theorem dX3_readMethod_26 : decode mX3_readMethod.2.1 26 = .ok (.if_icmp .ne 55, 3) := by decide +kernel
theorem dX3_readMethod_29 : decode mX3_readMethod.2.1 29 = .ok (.aload_n 0, 1) := by decide +kernel
theorem dX3_readMethod_30 : decode mX3_readMethod.2.1 30 = .ok (.getfield 12, 3) := by decide +kernel
theorem dX3_readMethod_33 : decode mX3_readMethod.2.1 33 = .ok (.invokevirtual 49, 3) := by decide +kernel
theorem dX3_readMethod_36 : decode mX3_readMethod.2.1 36 = .ok (.bipush 125, 2) := by decide +kernel
theorem dX3_readMethod_38 : decode mX3_readMethod.2.1 38 = .ok (.if_icmp .eq 43, 3) := by decide +kernel
theorem dX3_readMethod_41 : decode mX3_readMethod.2.1 41 = .ok (.aload_n 0, 1) := by decide +kernel
theorem dX3_readMethod_42 : decode mX3_readMethod.2.1 42 = .ok (.iload_n 1, 1) := by decide +kernel
theorem dX3_readMethod_43 : decode mX3_readMethod.2.1 43 = .ok (.invokevirtual 69, 3) := by decide +kernel
theorem dX3_readMethod_46 : decode mX3_readMethod.2.1 46 = .ok (.aload_n 0, 1) := by decide +kernel
theorem dX3_readMethod_47 : decode mX3_readMethod.2.1 47 = .ok (.bipush 59, 2) := by decide +kernel
theorem dX3_readMethod_49 : decode mX3_readMethod.2.1 49 = .ok (.invokevirtual 57, 3) := by decide +kernel
theorem dX3_readMethod_52 : decode mX3_readMethod.2.1 52 = .ok (.aload_n 0, 1) := by decide +kernel
theorem dX3_readMethod_53 : decode mX3_readMethod.2.1 53 = .ok (.getfield 26, 3) := by decide +kernel
theorem dX3_readMethod_56 : decode mX3_readMethod.2.1 56 = .ok (.aload_n 0, 1) := by decide +kernel
theorem dX3_readMethod_57 : decode mX3_readMethod.2.1 57 = .ok (.getfield 72, 3) := by decide +kernel
theorem dX3_readMethod_60 : decode mX3_readMethod.2.1 60 = .ok (.aload_n 0, 1) := by decide +kernel
theorem dX3_readMethod_61 : decode mX3_readMethod.2.1 61 = .ok (.getfield 75, 3) := by decide +kernel
theorem dX3_readMethod_64 : decode mX3_readMethod.2.1 64 = .ok (.aload_n 0, 1) := by decide +kernel
theorem dX3_readMethod_65 : decode mX3_readMethod.2.1 65 = .ok (.getfield 78, 3) := by decide +kernel
theorem dX3_readMethod_68 : decode mX3_readMethod.2.1 68 = .ok (.aload_n 0, 1) := by decide +kernel
theorem dX3_readMethod_69 : decode mX3_readMethod.2.1 69 = .ok (.getfield 81, 3) := by decide +kernel
theorem dX3_readMethod_72 : decode mX3_readMethod.2.1 72 = .ok (.invokevirtual 84, 3) := by decide +kernel
theorem dX3_readMethod_75 : decode mX3_readMethod.2.1 75 = .ok (.iinc 2 1, 3) := by decide +kernel
theorem dX3_readMethod_78 : decode mX3_readMethod.2.1 78 = .ok (.goto (-63), 3) := by decide +kernel
theorem dX3_readMethod_81 : decode mX3_readMethod.2.1 81 = .ok (.aload_n 0, 1) := by decide +kernel
theorem dX3_readMethod_82 : decode mX3_readMethod.2.1 82 = .ok (.bipush 125, 2) := by decide +kernel
theorem dX3_readMethod_84 : decode mX3_readMethod.2.1 84 = .ok (.invokevirtual 57, 3) := by decide +kernel
theorem dX3_readMethod_87 : decode mX3_readMethod.2.1 87 = .ok (.return_, 1) := by decide +kernel
theorem dX3_readLine_0 : decode mX3_readLine.2.1 0 = .ok (.aload_n 0, 1) := by decide +kernel
theorem dX3_readLine_1 : decode mX3_readLine.2.1 1 = .ok (.iconst 0, 1) := by decide +kernel
theorem dX3_readLine_2 : decode mX3_readLine.2.1 2 = .ok (.putfield 78, 3) := by decide +kernel
theorem dX3_readLine_5 : decode mX3_readLine.2.1 5 = .ok (.aload_n 0, 1) := by decide +kernel
theorem dX3_readLine_6 : decode mX3_readLine.2.1 6 = .ok (.iconst 0, 1) := by decide +kernel
theorem dX3_readLine_7 : decode mX3_readLine.2.1 7 = .ok (.putfield 81, 3) := by decide +kernel
theorem dX3_readLine_10 : decode mX3_readLine.2.1 10 = .ok (.aload_n 0, 1) := by decide +kernel
theorem dX3_readLine_11 : decode mX3_readLine.2.1 11 = .ok (.getfield 12, 3) := by decide +kernel
theorem dX3_readLine_14 : decode mX3_readLine.2.1 14 = .ok (.invokevirtual 49, 3) := by decide +kernel
theorem dX3_readLine_17 : decode mX3_readLine.2.1 17 = .ok (.bipush 71, 2) := by decide +kernel
theorem dX3_readLine_19 : decode mX3_readLine.2.1 19 = .ok (.if_icmp .ne 31, 3) := by decide +kernel
theorem dX3_readLine_22 : decode mX3_readLine.2.1 22 = .ok (.aload_n 0, 1) := by decide +kernel
theorem dX3_readLine_23 : decode mX3_readLine.2.1 23 = .ok (.iconst 4, 1) := by decide +kernel
theorem dX3_readLine_24 : decode mX3_readLine.2.1 24 = .ok (.putfield 72, 3) := by decide +kernel
theorem dX3_readLine_27 : decode mX3_readLine.2.1 27 = .ok (.aload_n 0, 1) := by decide +kernel
theorem dX3_readLine_28 : decode mX3_readLine.2.1 28 = .ok (.bipush 71, 2) := by decide +kernel
theorem dX3_readLine_30 : decode mX3_readLine.2.1 30 = .ok (.invokevirtual 57, 3) := by decide +kernel
theorem dX3_readLine_33 : decode mX3_readLine.2.1 33 = .ok (.aload_n 0, 1) := by decide +kernel
theorem dX3_readLine_34 : decode mX3_readLine.2.1 34 = .ok (.bipush 61, 2) := by decide +kernel
theorem dX3_readLine_36 : decode mX3_readLine.2.1 36 = .ok (.invokevirtual 57, 3) := by decide +kernel
theorem dX3_readLine_39 : decode mX3_readLine.2.1 39 = .ok (.aload_n 0, 1) := by decide +kernel
theorem dX3_readLine_40 : decode mX3_readLine.2.1 40 = .ok (.aload_n 0, 1) := by decide +kernel
theorem dX3_readLine_41 : decode mX3_readLine.2.1 41 = .ok (.invokevirtual 88, 3) := by decide +kernel
theorem dX3_readLine_44 : decode mX3_readLine.2.1 44 = .ok (.putfield 75, 3) := by decide +kernel
theorem dX3_readLine_47 : decode mX3_readLine.2.1 47 = .ok (.goto 78, 3) := by decide +kernel
theorem dX3_readLine_50 : decode mX3_readLine.2.1 50 = .ok (.aload_n 0, 1) := by decide +kernel
theorem dX3_readLine_51 : decode mX3_readLine.2.1 51 = .ok (.getfield 12, 3) := by decide +kernel
theorem dX3_readLine_54 : decode mX3_readLine.2.1 54 = .ok (.invokevirtual 49, 3) := by decide +kernel
theorem dX3_readLine_57 : decode mX3_readLine.2.1 57 = .ok (.sipush 129, 3) := by decide +kernel
theorem dX3_readLine_60 : decode mX3_readLine.2.1 60 = .ok (.if_icmp .ne 27, 3) := by decide +kernel
theorem dX3_readLine_63 : decode mX3_readLine.2.1 63 = .ok (.aload_n 0, 1) := by decide +kernel
theorem dX3_readLine_64 : decode mX3_readLine.2.1 64 = .ok (.bipush 6, 2) := by decide +kernel
theorem dX3_readLine_66 : decode mX3_readLine.2.1 66 = .ok (.putfield 72, 3) := by decide +kernel
theorem dX3_readLine_69 : decode mX3_readLine.2.1 69 = .ok (.aload_n 0, 1) := by decide +kernel
theorem dX3_readLine_70 : decode mX3_readLine.2.1 70 = .ok (.sipush 129, 3) := by decide +kernel
theorem dX3_readLine_73 : decode mX3_readLine.2.1 73 = .ok (.invokevirtual 57, 3) := by decide +kernel
theorem dX3_readLine_76 : decode mX3_readLine.2.1 76 = .ok (.aload_n 0, 1) := by decide +kernel
theorem dX3_readLine_77 : decode mX3_readLine.2.1 77 = .ok (.aload_n 0, 1) := by decide +kernel
theorem dX3_readLine_78 : decode mX3_readLine.2.1 78 = .ok (.invokevirtual 88, 3) := by decide +kernel
theorem dX3_readLine_81 : decode mX3_readLine.2.1 81 = .ok (.putfield 75, 3) := by decide +kernel
theorem dX3_readLine_84 : decode mX3_readLine.2.1 84 = .ok (.goto 41, 3) := by decide +kernel
theorem dX3_readLine_87 : decode mX3_readLine.2.1 87 = .ok (.aload_n 0, 1) := by decide +kernel
theorem dX3_readLine_88 : decode mX3_readLine.2.1 88 = .ok (.aload_n 0, 1) := by decide +kernel
theorem dX3_readLine_89 : decode mX3_readLine.2.1 89 = .ok (.invokevirtual 88, 3) := by decide +kernel
theorem dX3_readLine_92 : decode mX3_readLine.2.1 92 = .ok (.putfield 75, 3) := by decide +kernel
theorem dX3_readLine_95 : decode mX3_readLine.2.1 95 = .ok (.aload_n 0, 1) := by decide +kernel
theorem dX3_readLine_96 : decode mX3_readLine.2.1 96 = .ok (.getfield 12, 3) := by decide +kernel
theorem dX3_readLine_99 : decode mX3_readLine.2.1 99 = .ok (.invokevirtual 49, 3) := by decide +kernel
theorem dX3_readLine_102 : decode mX3_readLine.2.1 102 = .ok (.bipush 46, 2) := by decide +kernel
theorem dX3_readLine_104 : decode mX3_readLine.2.1 104 = .ok (.if_icmp .ne 10, 3) := by decide +kernel
theorem dX3_readLine_107 : decode mX3_readLine.2.1 107 = .ok (.aload_n 0, 1) := by decide +kernel
theorem dX3_readLine_108 : decode mX3_readLine.2.1 108 = .ok (.invokevirtual 91, 3) := by decide +kernel
theorem dX3_readLine_111 : decode mX3_readLine.2.1 111 = .ok (.goto 14, 3) := by decide +kernel
theorem dX3_readLine_114 : decode mX3_readLine.2.1 114 = .ok (.aload_n 0, 1) := by decide +kernel
theorem dX3_readLine_115 : decode mX3_readLine.2.1 115 = .ok (.bipush 61, 2) := by decide +kernel
theorem dX3_readLine_117 : decode mX3_readLine.2.1 117 = .ok (.invokevirtual 57, 3) := by decide +kernel
theorem dX3_readLine_120 : decode mX3_readLine.2.1 120 = .ok (.aload_n 0, 1) := by decide +kernel
theorem dX3_readLine_121 : decode mX3_readLine.2.1 121 = .ok (.iload_n 1, 1) := by decide +kernel
theorem dX3_readLine_122 : decode mX3_readLine.2.1 122 = .ok (.invokevirtual 94, 3) := by decide +kernel
theorem dX3_readLine_125 : decode mX3_readLine.2.1 125 = .ok (.return_, 1) := by decide +kernel
theorem dX3_readPut_0 : decode mX3_readPut.2.1 0 = .ok (.aload_n 0, 1) := by decide +kernel
theorem dX3_readPut_1 : decode mX3_readPut.2.1 1 = .ok (.iconst 2, 1) := by decide +kernel
theorem dX3_readPut_2 : decode mX3_readPut.2.1 2 = .ok (.putfield 72, 3) := by decide +kernel
theorem dX3_readPut_5 : decode mX3_readPut.2.1 5 = .ok (.aload_n 0, 1) := by decide +kernel
theorem dX3_readPut_6 : decode mX3_readPut.2.1 6 = .ok (.bipush 46, 2) := by decide +kernel
theorem dX3_readPut_8 : decode mX3_readPut.2.1 8 = .ok (.invokevirtual 57, 3) := by decide +kernel
theorem dX3_readPut_11 : decode mX3_readPut.2.1 11 = .ok (.aload_n 0, 1) := by decide +kernel
theorem dX3_readPut_12 : decode mX3_readPut.2.1 12 = .ok (.bipush 102, 2) := by decide +kernel
theorem dX3_readPut_14 : decode mX3_readPut.2.1 14 = .ok (.invokevirtual 57, 3) := by decide +kernel
theorem dX3_readPut_17 : decode mX3_readPut.2.1 17 = .ok (.aload_n 0, 1) := by decide +kernel
theorem dX3_readPut_18 : decode mX3_readPut.2.1 18 = .ok (.bipush 61, 2) := by decide +kernel
theorem dX3_readPut_20 : decode mX3_readPut.2.1 20 = .ok (.invokevirtual 57, 3) := by decide +kernel
theorem dX3_readPut_23 : decode mX3_readPut.2.1 23 = .ok (.aload_n 0, 1) := by decide +kernel
theorem dX3_readPut_24 : decode mX3_readPut.2.1 24 = .ok (.aload_n 0, 1) := by decide +kernel
theorem dX3_readPut_25 : decode mX3_readPut.2.1 25 = .ok (.invokevirtual 88, 3) := by decide +kernel
theorem dX3_readPut_28 : decode mX3_readPut.2.1 28 = .ok (.putfield 78, 3) := by decide +kernel
theorem dX3_readPut_31 : decode mX3_readPut.2.1 31 = .ok (.return_, 1) := by decide +kernel
theorem dX3_readValue_0 : decode mX3_readValue.2.1 0 = .ok (.aload_n 0, 1) := by decide +kernel
theorem dX3_readValue_1 : decode mX3_readValue.2.1 1 = .ok (.getfield 12, 3) := by decide +kernel
theorem dX3_readValue_4 : decode mX3_readValue.2.1 4 = .ok (.invokevirtual 49, 3) := by decide +kernel
theorem dX3_readValue_7 : decode mX3_readValue.2.1 7 = .ok (.istore_n 2, 1) := by decide +kernel
theorem dX3_readValue_8 : decode mX3_readValue.2.1 8 = .ok (.iload_n 2, 1) := by decide +kernel
theorem dX3_readValue_9 : decode mX3_readValue.2.1 9 = .ok (.bipush 71, 2) := by decide +kernel
theorem dX3_readValue_11 : decode mX3_readValue.2.1 11 = .ok (.if_icmp .ne 17, 3) := by decide +kernel
theorem dX3_readValue_14 : decode mX3_readValue.2.1 14 = .ok (.aload_n 0, 1) := by decide +kernel
theorem dX3_readValue_15 : decode mX3_readValue.2.1 15 = .ok (.iconst 5, 1) := by decide +kernel
theorem dX3_readValue_16 : decode mX3_readValue.2.1 16 = .ok (.putfield 72, 3) := by decide +kernel
theorem dX3_readValue_19 : decode mX3_readValue.2.1 19 = .ok (.aload_n 0, 1) := by decide +kernel
theorem dX3_readValue_20 : decode mX3_readValue.2.1 20 = .ok (.bipush 71, 2) := by decide +kernel
theorem dX3_readValue_22 : decode mX3_readValue.2.1 22 = .ok (.invokevirtual 57, 3) := by decide +kernel
theorem dX3_readValue_25 : decode mX3_readValue.2.1 25 = .ok (.goto 127, 3) := by decide +kernel
theorem dX3_readValue_28 : decode mX3_readValue.2.1 28 = .ok (.iload_n 2, 1) := by decide +kernel
theorem dX3_readValue_29 : decode mX3_readValue.2.1 29 = .ok (.sipush 128, 3) := by decide +kernel
theorem dX3_readValue_32 : decode mX3_readValue.2.1 32 = .ok (.if_icmp .ne 18, 3) := by decide +kernel
theorem dX3_readValue_35 : decode mX3_readValue.2.1 35 = .ok (.aload_n 0, 1) := by decide +kernel
theorem dX3_readValue_36 : decode mX3_readValue.2.1 36 = .ok (.iconst 0, 1) := by decide +kernel
theorem dX3_readValue_37 : decode mX3_readValue.2.1 37 = .ok (.putfield 72, 3) := by decide +kernel
theorem dX3_readValue_40 : decode mX3_readValue.2.1 40 = .ok (.aload_n 0, 1) := by decide +kernel
theorem dX3_readValue_41 : decode mX3_readValue.2.1 41 = .ok (.sipush 128, 3) := by decide +kernel
theorem dX3_readValue_44 : decode mX3_readValue.2.1 44 = .ok (.invokevirtual 57, 3) := by decide +kernel
theorem dX3_readValue_47 : decode mX3_readValue.2.1 47 = .ok (.goto 105, 3) := by decide +kernel
theorem dX3_readValue_50 : decode mX3_readValue.2.1 50 = .ok (.iload_n 2, 1) := by decide +kernel
theorem dX3_readValue_51 : decode mX3_readValue.2.1 51 = .ok (.bipush 48, 2) := by decide +kernel
theorem dX3_readValue_53 : decode mX3_readValue.2.1 53 = .ok (.iload_n 1, 1) := by decide +kernel
theorem dX3_readValue_54 : decode mX3_readValue.2.1 54 = .ok (.iadd, 1) := by decide +kernel
theorem dX3_readValue_55 : decode mX3_readValue.2.1 55 = .ok (.if_icmp .le 55, 3) := by decide +kernel
theorem dX3_readValue_58 : decode mX3_readValue.2.1 58 = .ok (.iload_n 2, 1) := by decide +kernel
theorem dX3_readValue_59 : decode mX3_readValue.2.1 59 = .ok (.bipush 52, 2) := by decide +kernel
theorem dX3_readValue_61 : decode mX3_readValue.2.1 61 = .ok (.if_icmp .ge 49, 3) := by decide +kernel
theorem dX3_readValue_64 : decode mX3_readValue.2.1 64 = .ok (.aload_n 0, 1) := by decide +kernel
theorem dX3_readValue_65 : decode mX3_readValue.2.1 65 = .ok (.bipush 7, 2) := by decide +kernel
theorem dX3_readValue_67 : decode mX3_readValue.2.1 67 = .ok (.putfield 72, 3) := by decide +kernel
theorem dX3_readValue_70 : decode mX3_readValue.2.1 70 = .ok (.aload_n 0, 1) := by decide +kernel
theorem dX3_readValue_71 : decode mX3_readValue.2.1 71 = .ok (.iload_n 2, 1) := by decide +kernel
theorem dX3_readValue_72 : decode mX3_readValue.2.1 72 = .ok (.bipush 48, 2) := by decide +kernel
theorem dX3_readValue_74 : decode mX3_readValue.2.1 74 = .ok (.isub, 1) := by decide +kernel
theorem dX3_readValue_75 : decode mX3_readValue.2.1 75 = .ok (.putfield 81, 3) := by decide +kernel
theorem dX3_readValue_78 : decode mX3_readValue.2.1 78 = .ok (.aload_n 0, 1) := by decide +kernel
theorem dX3_readValue_79 : decode mX3_readValue.2.1 79 = .ok (.invokevirtual 97, 3) := by decide +kernel
theorem dX3_readValue_82 : decode mX3_readValue.2.1 82 = .ok (.aload_n 0, 1) := by decide +kernel
theorem dX3_readValue_83 : decode mX3_readValue.2.1 83 = .ok (.iload_n 2, 1) := by decide +kernel
theorem dX3_readValue_84 : decode mX3_readValue.2.1 84 = .ok (.invokevirtual 57, 3) := by decide +kernel
theorem dX3_readValue_87 : decode mX3_readValue.2.1 87 = .ok (.aload_n 0, 1) := by decide +kernel
theorem dX3_readValue_88 : decode mX3_readValue.2.1 88 = .ok (.bipush 40, 2) := by decide +kernel
theorem dX3_readValue_90 : decode mX3_readValue.2.1 90 = .ok (.invokevirtual 57, 3) := by decide +kernel
theorem dX3_readValue_93 : decode mX3_readValue.2.1 93 = .ok (.aload_n 0, 1) := by decide +kernel
theorem dX3_readValue_94 : decode mX3_readValue.2.1 94 = .ok (.aload_n 0, 1) := by decide +kernel
theorem dX3_readValue_95 : decode mX3_readValue.2.1 95 = .ok (.invokevirtual 88, 3) := by decide +kernel
theorem dX3_readValue_98 : decode mX3_readValue.2.1 98 = .ok (.putfield 78, 3) := by decide +kernel
theorem dX3_readValue_101 : decode mX3_readValue.2.1 101 = .ok (.aload_n 0, 1) := by decide +kernel
theorem dX3_readValue_102 : decode mX3_readValue.2.1 102 = .ok (.bipush 41, 2) := by decide +kernel
theorem dX3_readValue_104 : decode mX3_readValue.2.1 104 = .ok (.invokevirtual 57, 3) := by decide +kernel
theorem dX3_readValue_107 : decode mX3_readValue.2.1 107 = .ok (.goto 45, 3) := by decide +kernel
theorem dX3_readValue_110 : decode mX3_readValue.2.1 110 = .ok (.aload_n 0, 1) := by decide +kernel
theorem dX3_readValue_111 : decode mX3_readValue.2.1 111 = .ok (.iconst 1, 1) := by decide +kernel
theorem dX3_readValue_112 : decode mX3_readValue.2.1 112 = .ok (.putfield 72, 3) := by decide +kernel
theorem dX3_readValue_115 : decode mX3_readValue.2.1 115 = .ok (.aload_n 0, 1) := by decide +kernel
theorem dX3_readValue_116 : decode mX3_readValue.2.1 116 = .ok (.aload_n 0, 1) := by decide +kernel
theorem dX3_readValue_117 : decode mX3_readValue.2.1 117 = .ok (.invokevirtual 88, 3) := by decide +kernel
theorem dX3_readValue_120 : decode mX3_readValue.2.1 120 = .ok (.putfield 78, 3) := by decide +kernel
theorem dX3_readValue_123 : decode mX3_readValue.2.1 123 = .ok (.aload_n 0, 1) := by decide +kernel
theorem dX3_readValue_124 : decode mX3_readValue.2.1 124 = .ok (.getfield 12, 3) := by decide +kernel
theorem dX3_readValue_127 : decode mX3_readValue.2.1 127 = .ok (.invokevirtual 49, 3) := by decide +kernel
theorem dX3_readValue_130 : decode mX3_readValue.2.1 130 = .ok (.bipush 46, 2) := by decide +kernel
theorem dX3_readValue_132 : decode mX3_readValue.2.1 132 = .ok (.if_icmp .ne 20, 3) := by decide +kernel
theorem dX3_readValue_135 : decode mX3_readValue.2.1 135 = .ok (.aload_n 0, 1) := by decide +kernel
theorem dX3_readValue_136 : decode mX3_readValue.2.1 136 = .ok (.iconst 3, 1) := by decide +kernel
theorem dX3_readValue_137 : decode mX3_readValue.2.1 137 = .ok (.putfield 72, 3) := by decide +kernel
theorem dX3_readValue_140 : decode mX3_readValue.2.1 140 = .ok (.aload_n 0, 1) := by decide +kernel
theorem dX3_readValue_141 : decode mX3_readValue.2.1 141 = .ok (.bipush 46, 2) := by decide +kernel
theorem dX3_readValue_143 : decode mX3_readValue.2.1 143 = .ok (.invokevirtual 57, 3) := by decide +kernel
theorem dX3_readValue_146 : decode mX3_readValue.2.1 146 = .ok (.aload_n 0, 1) := by decide +kernel
theorem dX3_readValue_147 : decode mX3_readValue.2.1 147 = .ok (.bipush 102, 2) := by decide +kernel
theorem dX3_readValue_149 : decode mX3_readValue.2.1 149 = .ok (.invokevirtual 57, 3) := by decide +kernel
theorem dX3_readValue_152 : decode mX3_readValue.2.1 152 = .ok (.return_, 1) := by decide +kernel
theorem dX3_noteCall_0 : decode mX3_noteCall.2.1 0 = .ok (.aload_n 0, 1) := by decide +kernel
theorem dX3_noteCall_1 : decode mX3_noteCall.2.1 1 = .ok (.getfield 81, 3) := by decide +kernel
theorem dX3_noteCall_4 : decode mX3_noteCall.2.1 4 = .ok (.iconst 4, 1) := by decide +kernel
theorem dX3_noteCall_5 : decode mX3_noteCall.2.1 5 = .ok (.invokestatic 100, 3) := by decide +kernel
theorem dX3_noteCall_8 : decode mX3_noteCall.2.1 8 = .ok (.ifCond .ne 32, 3) := by decide +kernel
theorem dX3_noteCall_11 : decode mX3_noteCall.2.1 11 = .ok (.aload_n 0, 1) := by decide +kernel
theorem dX3_noteCall_12 : decode mX3_noteCall.2.1 12 = .ok (.getfield 18, 3) := by decide +kernel
theorem dX3_noteCall_15 : decode mX3_noteCall.2.1 15 = .ok (.aload_n 0, 1) := by decide +kernel
theorem dX3_noteCall_16 : decode mX3_noteCall.2.1 16 = .ok (.getfield 81, 3) := by decide +kernel
theorem dX3_noteCall_19 : decode mX3_noteCall.2.1 19 = .ok (.iaload, 1) := by decide +kernel
theorem dX3_noteCall_20 : decode mX3_noteCall.2.1 20 = .ok (.iconst (-1), 1) := by decide +kernel
theorem dX3_noteCall_21 : decode mX3_noteCall.2.1 21 = .ok (.if_icmp .ne 19, 3) := by decide +kernel
theorem dX3_noteCall_24 : decode mX3_noteCall.2.1 24 = .ok (.aload_n 0, 1) := by decide +kernel
theorem dX3_noteCall_25 : decode mX3_noteCall.2.1 25 = .ok (.getfield 18, 3) := by decide +kernel
theorem dX3_noteCall_28 : decode mX3_noteCall.2.1 28 = .ok (.aload_n 0, 1) := by decide +kernel
theorem dX3_noteCall_29 : decode mX3_noteCall.2.1 29 = .ok (.getfield 81, 3) := by decide +kernel
theorem dX3_noteCall_32 : decode mX3_noteCall.2.1 32 = .ok (.aload_n 0, 1) := by decide +kernel
theorem dX3_noteCall_33 : decode mX3_noteCall.2.1 33 = .ok (.getfield 12, 3) := by decide +kernel
theorem dX3_noteCall_36 : decode mX3_noteCall.2.1 36 = .ok (.invokevirtual 104, 3) := by decide +kernel
theorem dX3_noteCall_39 : decode mX3_noteCall.2.1 39 = .ok (.iastore, 1) := by decide +kernel
theorem dX3_noteCall_40 : decode mX3_noteCall.2.1 40 = .ok (.return_, 1) := by decide +kernel
theorem dX3_take_0 : decode mX3_take.2.1 0 = .ok (.aload_n 0, 1) := by decide +kernel
theorem dX3_take_1 : decode mX3_take.2.1 1 = .ok (.getfield 12, 3) := by decide +kernel
theorem dX3_take_4 : decode mX3_take.2.1 4 = .ok (.invokevirtual 49, 3) := by decide +kernel
theorem dX3_take_7 : decode mX3_take.2.1 7 = .ok (.iload_n 1, 1) := by decide +kernel
theorem dX3_take_8 : decode mX3_take.2.1 8 = .ok (.if_icmp .ne 13, 3) := by decide +kernel
theorem dX3_take_11 : decode mX3_take.2.1 11 = .ok (.aload_n 0, 1) := by decide +kernel
theorem dX3_take_12 : decode mX3_take.2.1 12 = .ok (.getfield 12, 3) := by decide +kernel
theorem dX3_take_15 : decode mX3_take.2.1 15 = .ok (.invokevirtual 107, 3) := by decide +kernel
theorem dX3_take_18 : decode mX3_take.2.1 18 = .ok (.goto 7, 3) := by decide +kernel
theorem dX3_take_21 : decode mX3_take.2.1 21 = .ok (.aload_n 0, 1) := by decide +kernel
theorem dX3_take_22 : decode mX3_take.2.1 22 = .ok (.invokevirtual 110, 3) := by decide +kernel
theorem dX3_take_25 : decode mX3_take.2.1 25 = .ok (.return_, 1) := by decide +kernel
theorem dX3_refuse_0 : decode mX3_refuse.2.1 0 = .ok (.aload_n 0, 1) := by decide +kernel
theorem dX3_refuse_1 : decode mX3_refuse.2.1 1 = .ok (.getfield 30, 3) := by decide +kernel
theorem dX3_refuse_4 : decode mX3_refuse.2.1 4 = .ok (.iconst (-1), 1) := by decide +kernel
theorem dX3_refuse_5 : decode mX3_refuse.2.1 5 = .ok (.if_icmp .ne 14, 3) := by decide +kernel
theorem dX3_refuse_8 : decode mX3_refuse.2.1 8 = .ok (.aload_n 0, 1) := by decide +kernel
theorem dX3_refuse_9 : decode mX3_refuse.2.1 9 = .ok (.aload_n 0, 1) := by decide +kernel
theorem dX3_refuse_10 : decode mX3_refuse.2.1 10 = .ok (.getfield 12, 3) := by decide +kernel
theorem dX3_refuse_13 : decode mX3_refuse.2.1 13 = .ok (.invokevirtual 104, 3) := by decide +kernel
theorem dX3_refuse_16 : decode mX3_refuse.2.1 16 = .ok (.putfield 30, 3) := by decide +kernel
theorem dX3_refuse_19 : decode mX3_refuse.2.1 19 = .ok (.return_, 1) := by decide +kernel
theorem dX3_takeName_0 : decode mX3_takeName.2.1 0 = .ok (.aload_n 0, 1) := by decide +kernel
theorem dX3_takeName_1 : decode mX3_takeName.2.1 1 = .ok (.getfield 12, 3) := by decide +kernel
theorem dX3_takeName_4 : decode mX3_takeName.2.1 4 = .ok (.invokevirtual 49, 3) := by decide +kernel
theorem dX3_takeName_7 : decode mX3_takeName.2.1 7 = .ok (.invokestatic 113, 3) := by decide +kernel
theorem dX3_takeName_10 : decode mX3_takeName.2.1 10 = .ok (.istore_n 1, 1) := by decide +kernel
theorem dX3_takeName_11 : decode mX3_takeName.2.1 11 = .ok (.iload_n 1, 1) := by decide +kernel
theorem dX3_takeName_12 : decode mX3_takeName.2.1 12 = .ok (.iconst (-1), 1) := by decide +kernel
theorem dX3_takeName_13 : decode mX3_takeName.2.1 13 = .ok (.if_icmp .ne 9, 3) := by decide +kernel
theorem dX3_takeName_16 : decode mX3_takeName.2.1 16 = .ok (.aload_n 0, 1) := by decide +kernel
theorem dX3_takeName_17 : decode mX3_takeName.2.1 17 = .ok (.invokevirtual 110, 3) := by decide +kernel
theorem dX3_takeName_20 : decode mX3_takeName.2.1 20 = .ok (.iconst 0, 1) := by decide +kernel
theorem dX3_takeName_21 : decode mX3_takeName.2.1 21 = .ok (.ireturn, 1) := by decide +kernel
theorem dX3_takeName_22 : decode mX3_takeName.2.1 22 = .ok (.aload_n 0, 1) := by decide +kernel
theorem dX3_takeName_23 : decode mX3_takeName.2.1 23 = .ok (.getfield 12, 3) := by decide +kernel
theorem dX3_takeName_26 : decode mX3_takeName.2.1 26 = .ok (.invokevirtual 107, 3) := by decide +kernel
theorem dX3_takeName_29 : decode mX3_takeName.2.1 29 = .ok (.iload_n 1, 1) := by decide +kernel
theorem dX3_takeName_30 : decode mX3_takeName.2.1 30 = .ok (.ireturn, 1) := by decide +kernel
theorem dX3_nameOf_0 : decode mX3_nameOf.2.1 0 = .ok (.iload_n 0, 1) := by decide +kernel
theorem dX3_nameOf_1 : decode mX3_nameOf.2.1 1 = .ok (.lookupswitch 51 #[(97, 45), (98, 47), (112, 43), (114, 49)], 43) := by decide +kernel
theorem dX3_nameOf_44 : decode mX3_nameOf.2.1 44 = .ok (.iconst 0, 1) := by decide +kernel
theorem dX3_nameOf_45 : decode mX3_nameOf.2.1 45 = .ok (.ireturn, 1) := by decide +kernel
theorem dX3_nameOf_46 : decode mX3_nameOf.2.1 46 = .ok (.iconst 1, 1) := by decide +kernel
theorem dX3_nameOf_47 : decode mX3_nameOf.2.1 47 = .ok (.ireturn, 1) := by decide +kernel
theorem dX3_nameOf_48 : decode mX3_nameOf.2.1 48 = .ok (.iconst 2, 1) := by decide +kernel
theorem dX3_nameOf_49 : decode mX3_nameOf.2.1 49 = .ok (.ireturn, 1) := by decide +kernel
theorem dX3_nameOf_50 : decode mX3_nameOf.2.1 50 = .ok (.iconst 3, 1) := by decide +kernel
theorem dX3_nameOf_51 : decode mX3_nameOf.2.1 51 = .ok (.ireturn, 1) := by decide +kernel
theorem dX3_nameOf_52 : decode mX3_nameOf.2.1 52 = .ok (.iconst (-1), 1) := by decide +kernel
theorem dX3_nameOf_53 : decode mX3_nameOf.2.1 53 = .ok (.ireturn, 1) := by decide +kernel
theorem dX4_init_0 : decode mX4_init.2.1 0 = .ok (.aload_n 0, 1) := by decide +kernel
theorem dX4_init_1 : decode mX4_init.2.1 1 = .ok (.invokespecial 3, 3) := by decide +kernel
theorem dX4_init_4 : decode mX4_init.2.1 4 = .ok (.aload_n 0, 1) := by decide +kernel
theorem dX4_init_5 : decode mX4_init.2.1 5 = .ok (.bipush 32, 2) := by decide +kernel
theorem dX4_init_7 : decode mX4_init.2.1 7 = .ok (.newarray .int, 2) := by decide +kernel
theorem dX4_init_9 : decode mX4_init.2.1 9 = .ok (.putfield 9, 3) := by decide +kernel
theorem dX4_init_12 : decode mX4_init.2.1 12 = .ok (.aload_n 0, 1) := by decide +kernel
theorem dX4_init_13 : decode mX4_init.2.1 13 = .ok (.bipush 32, 2) := by decide +kernel
theorem dX4_init_15 : decode mX4_init.2.1 15 = .ok (.newarray .int, 2) := by decide +kernel
theorem dX4_init_17 : decode mX4_init.2.1 17 = .ok (.putfield 15, 3) := by decide +kernel
theorem dX4_init_20 : decode mX4_init.2.1 20 = .ok (.aload_n 0, 1) := by decide +kernel
theorem dX4_init_21 : decode mX4_init.2.1 21 = .ok (.iconst 4, 1) := by decide +kernel
theorem dX4_init_22 : decode mX4_init.2.1 22 = .ok (.newarray .int, 2) := by decide +kernel
theorem dX4_init_24 : decode mX4_init.2.1 24 = .ok (.putfield 18, 3) := by decide +kernel
theorem dX4_init_27 : decode mX4_init.2.1 27 = .ok (.return_, 1) := by decide +kernel
theorem dX4_count_0 : decode mX4_count.2.1 0 = .ok (.aload_n 0, 1) := by decide +kernel
theorem dX4_count_1 : decode mX4_count.2.1 1 = .ok (.getfield 21, 3) := by decide +kernel
theorem dX4_count_4 : decode mX4_count.2.1 4 = .ok (.ireturn, 1) := by decide +kernel
theorem dX4_methodOf_0 : decode mX4_methodOf.2.1 0 = .ok (.iload_n 1, 1) := by decide +kernel
theorem dX4_methodOf_1 : decode mX4_methodOf.2.1 1 = .ok (.aload_n 0, 1) := by decide +kernel
theorem dX4_methodOf_2 : decode mX4_methodOf.2.1 2 = .ok (.getfield 21, 3) := by decide +kernel
theorem dX4_methodOf_5 : decode mX4_methodOf.2.1 5 = .ok (.invokestatic 25, 3) := by decide +kernel
theorem dX4_methodOf_8 : decode mX4_methodOf.2.1 8 = .ok (.ifCond .eq 7, 3) := by decide +kernel
theorem dX4_methodOf_11 : decode mX4_methodOf.2.1 11 = .ok (.iconst (-1), 1) := by decide +kernel
theorem dX4_methodOf_12 : decode mX4_methodOf.2.1 12 = .ok (.goto 12, 3) := by decide +kernel
theorem dX4_methodOf_15 : decode mX4_methodOf.2.1 15 = .ok (.aload_n 0, 1) := by decide +kernel
theorem dX4_methodOf_16 : decode mX4_methodOf.2.1 16 = .ok (.getfield 9, 3) := by decide +kernel
theorem dX4_methodOf_19 : decode mX4_methodOf.2.1 19 = .ok (.iload_n 1, 1) := by decide +kernel
theorem dX4_methodOf_20 : decode mX4_methodOf.2.1 20 = .ok (.iaload, 1) := by decide +kernel
theorem dX4_methodOf_21 : decode mX4_methodOf.2.1 21 = .ok (.bipush 8, 2) := by decide +kernel
theorem dX4_methodOf_23 : decode mX4_methodOf.2.1 23 = .ok (.idiv, 1) := by decide +kernel
theorem dX4_methodOf_24 : decode mX4_methodOf.2.1 24 = .ok (.ireturn, 1) := by decide +kernel
theorem dX4_lineOf_0 : decode mX4_lineOf.2.1 0 = .ok (.iload_n 1, 1) := by decide +kernel
theorem dX4_lineOf_1 : decode mX4_lineOf.2.1 1 = .ok (.aload_n 0, 1) := by decide +kernel
theorem dX4_lineOf_2 : decode mX4_lineOf.2.1 2 = .ok (.getfield 21, 3) := by decide +kernel
theorem dX4_lineOf_5 : decode mX4_lineOf.2.1 5 = .ok (.invokestatic 25, 3) := by decide +kernel
theorem dX4_lineOf_8 : decode mX4_lineOf.2.1 8 = .ok (.ifCond .eq 7, 3) := by decide +kernel
theorem dX4_lineOf_11 : decode mX4_lineOf.2.1 11 = .ok (.iconst (-1), 1) := by decide +kernel
theorem dX4_lineOf_12 : decode mX4_lineOf.2.1 12 = .ok (.goto 12, 3) := by decide +kernel
theorem dX4_lineOf_15 : decode mX4_lineOf.2.1 15 = .ok (.aload_n 0, 1) := by decide +kernel
theorem dX4_lineOf_16 : decode mX4_lineOf.2.1 16 = .ok (.getfield 9, 3) := by decide +kernel
theorem dX4_lineOf_19 : decode mX4_lineOf.2.1 19 = .ok (.iload_n 1, 1) := by decide +kernel
theorem dX4_lineOf_20 : decode mX4_lineOf.2.1 20 = .ok (.iaload, 1) := by decide +kernel
theorem dX4_lineOf_21 : decode mX4_lineOf.2.1 21 = .ok (.bipush 8, 2) := by decide +kernel
theorem dX4_lineOf_23 : decode mX4_lineOf.2.1 23 = .ok (.irem, 1) := by decide +kernel
theorem dX4_lineOf_24 : decode mX4_lineOf.2.1 24 = .ok (.ireturn, 1) := by decide +kernel
theorem dX4_inMethod_0 : decode mX4_inMethod.2.1 0 = .ok (.iload_n 1, 1) := by decide +kernel
theorem dX4_inMethod_1 : decode mX4_inMethod.2.1 1 = .ok (.iconst 4, 1) := by decide +kernel
theorem dX4_inMethod_2 : decode mX4_inMethod.2.1 2 = .ok (.invokestatic 25, 3) := by decide +kernel
theorem dX4_inMethod_5 : decode mX4_inMethod.2.1 5 = .ok (.ifCond .eq 7, 3) := by decide +kernel
theorem dX4_inMethod_8 : decode mX4_inMethod.2.1 8 = .ok (.iconst 0, 1) := by decide +kernel
theorem dX4_inMethod_9 : decode mX4_inMethod.2.1 9 = .ok (.goto 9, 3) := by decide +kernel
theorem dX4_inMethod_12 : decode mX4_inMethod.2.1 12 = .ok (.aload_n 0, 1) := by decide +kernel
theorem dX4_inMethod_13 : decode mX4_inMethod.2.1 13 = .ok (.getfield 18, 3) := by decide +kernel
theorem dX4_inMethod_16 : decode mX4_inMethod.2.1 16 = .ok (.iload_n 1, 1) := by decide +kernel
theorem dX4_inMethod_17 : decode mX4_inMethod.2.1 17 = .ok (.iaload, 1) := by decide +kernel
theorem dX4_inMethod_18 : decode mX4_inMethod.2.1 18 = .ok (.ireturn, 1) := by decide +kernel
theorem dX4_ofLine_0 : decode mX4_ofLine.2.1 0 = .ok (.iload_n 1, 1) := by decide +kernel
theorem dX4_ofLine_1 : decode mX4_ofLine.2.1 1 = .ok (.iconst 4, 1) := by decide +kernel
theorem dX4_ofLine_2 : decode mX4_ofLine.2.1 2 = .ok (.invokestatic 25, 3) := by decide +kernel
theorem dX4_ofLine_5 : decode mX4_ofLine.2.1 5 = .ok (.ifCond .ne 12, 3) := by decide +kernel
theorem dX4_ofLine_8 : decode mX4_ofLine.2.1 8 = .ok (.iload_n 2, 1) := by decide +kernel
theorem dX4_ofLine_9 : decode mX4_ofLine.2.1 9 = .ok (.bipush 8, 2) := by decide +kernel
theorem dX4_ofLine_11 : decode mX4_ofLine.2.1 11 = .ok (.invokestatic 25, 3) := by decide +kernel
theorem dX4_ofLine_14 : decode mX4_ofLine.2.1 14 = .ok (.ifCond .eq 7, 3) := by decide +kernel
theorem dX4_ofLine_17 : decode mX4_ofLine.2.1 17 = .ok (.iconst (-1), 1) := by decide +kernel
theorem dX4_ofLine_18 : decode mX4_ofLine.2.1 18 = .ok (.goto 14, 3) := by decide +kernel
theorem dX4_ofLine_21 : decode mX4_ofLine.2.1 21 = .ok (.aload_n 0, 1) := by decide +kernel
theorem dX4_ofLine_22 : decode mX4_ofLine.2.1 22 = .ok (.getfield 15, 3) := by decide +kernel
theorem dX4_ofLine_25 : decode mX4_ofLine.2.1 25 = .ok (.iload_n 1, 1) := by decide +kernel
theorem dX4_ofLine_26 : decode mX4_ofLine.2.1 26 = .ok (.bipush 8, 2) := by decide +kernel
theorem dX4_ofLine_28 : decode mX4_ofLine.2.1 28 = .ok (.imul, 1) := by decide +kernel
theorem dX4_ofLine_29 : decode mX4_ofLine.2.1 29 = .ok (.iload_n 2, 1) := by decide +kernel
theorem dX4_ofLine_30 : decode mX4_ofLine.2.1 30 = .ok (.iadd, 1) := by decide +kernel
theorem dX4_ofLine_31 : decode mX4_ofLine.2.1 31 = .ok (.iaload, 1) := by decide +kernel
theorem dX4_ofLine_32 : decode mX4_ofLine.2.1 32 = .ok (.ireturn, 1) := by decide +kernel
theorem dX4_number_0 : decode mX4_number.2.1 0 = .ok (.aload_n 0, 1) := by decide +kernel
theorem dX4_number_1 : decode mX4_number.2.1 1 = .ok (.iconst 0, 1) := by decide +kernel
theorem dX4_number_2 : decode mX4_number.2.1 2 = .ok (.putfield 21, 3) := by decide +kernel
theorem dX4_number_5 : decode mX4_number.2.1 5 = .ok (.aload_n 0, 1) := by decide +kernel
theorem dX4_number_6 : decode mX4_number.2.1 6 = .ok (.getfield 15, 3) := by decide +kernel
theorem dX4_number_9 : decode mX4_number.2.1 9 = .ok (.iconst (-1), 1) := by decide +kernel
theorem dX4_number_10 : decode mX4_number.2.1 10 = .ok (.invokestatic 29, 3) := by decide +kernel
theorem dX4_number_13 : decode mX4_number.2.1 13 = .ok (.aload_n 0, 1) := by decide +kernel
theorem dX4_number_14 : decode mX4_number.2.1 14 = .ok (.getfield 18, 3) := by decide +kernel
theorem dX4_number_17 : decode mX4_number.2.1 17 = .ok (.iconst 0, 1) := by decide +kernel
theorem dX4_number_18 : decode mX4_number.2.1 18 = .ok (.invokestatic 29, 3) := by decide +kernel
theorem dX4_number_21 : decode mX4_number.2.1 21 = .ok (.iconst 0, 1) := by decide +kernel
theorem dX4_number_22 : decode mX4_number.2.1 22 = .ok (.istore_n 2, 1) := by decide +kernel
theorem dX4_number_23 : decode mX4_number.2.1 23 = .ok (.iload_n 2, 1) := by decide +kernel
theorem dX4_number_24 : decode mX4_number.2.1 24 = .ok (.aload_n 1, 1) := by decide +kernel
theorem dX4_number_25 : decode mX4_number.2.1 25 = .ok (.invokevirtual 35, 3) := by decide +kernel
theorem dX4_number_28 : decode mX4_number.2.1 28 = .ok (.if_icmp .ge 41, 3) := by decide +kernel
theorem dX4_number_31 : decode mX4_number.2.1 31 = .ok (.iconst 0, 1) := by decide +kernel
theorem dX4_number_32 : decode mX4_number.2.1 32 = .ok (.istore_n 3, 1) := by decide +kernel
theorem dX4_number_33 : decode mX4_number.2.1 33 = .ok (.iload_n 3, 1) := by decide +kernel
theorem dX4_number_34 : decode mX4_number.2.1 34 = .ok (.aload_n 1, 1) := by decide +kernel
theorem dX4_number_35 : decode mX4_number.2.1 35 = .ok (.iload_n 2, 1) := by decide +kernel
theorem dX4_number_36 : decode mX4_number.2.1 36 = .ok (.invokevirtual 40, 3) := by decide +kernel
theorem dX4_number_39 : decode mX4_number.2.1 39 = .ok (.if_icmp .ge 24, 3) := by decide +kernel
theorem dX4_number_42 : decode mX4_number.2.1 42 = .ok (.aload_n 1, 1) := by decide +kernel
theorem dX4_number_43 : decode mX4_number.2.1 43 = .ok (.iload_n 2, 1) := by decide +kernel
theorem dX4_number_44 : decode mX4_number.2.1 44 = .ok (.iload_n 3, 1) := by decide +kernel
theorem dX4_number_45 : decode mX4_number.2.1 45 = .ok (.invokevirtual 44, 3) := by decide +kernel
theorem dX4_number_48 : decode mX4_number.2.1 48 = .ok (.ifCond .ne 9, 3) := by decide +kernel
theorem dX4_number_51 : decode mX4_number.2.1 51 = .ok (.aload_n 0, 1) := by decide +kernel
theorem dX4_number_52 : decode mX4_number.2.1 52 = .ok (.iload_n 2, 1) := by decide +kernel
theorem dX4_number_53 : decode mX4_number.2.1 53 = .ok (.iload_n 3, 1) := by decide +kernel
theorem dX4_number_54 : decode mX4_number.2.1 54 = .ok (.invokevirtual 48, 3) := by decide +kernel
theorem dX4_number_57 : decode mX4_number.2.1 57 = .ok (.iinc 3 1, 3) := by decide +kernel
theorem dX4_number_60 : decode mX4_number.2.1 60 = .ok (.goto (-27), 3) := by decide +kernel
theorem dX4_number_63 : decode mX4_number.2.1 63 = .ok (.iinc 2 1, 3) := by decide +kernel
theorem dX4_number_66 : decode mX4_number.2.1 66 = .ok (.goto (-43), 3) := by decide +kernel
theorem dX4_number_69 : decode mX4_number.2.1 69 = .ok (.return_, 1) := by decide +kernel
theorem dX4_add_0 : decode mX4_add.2.1 0 = .ok (.aload_n 0, 1) := by decide +kernel
theorem dX4_add_1 : decode mX4_add.2.1 1 = .ok (.getfield 21, 3) := by decide +kernel
theorem dX4_add_4 : decode mX4_add.2.1 4 = .ok (.bipush 32, 2) := by decide +kernel
theorem dX4_add_6 : decode mX4_add.2.1 6 = .ok (.if_icmp .ge 53, 3) := by decide +kernel
theorem dX4_add_9 : decode mX4_add.2.1 9 = .ok (.aload_n 0, 1) := by decide +kernel
theorem dX4_add_10 : decode mX4_add.2.1 10 = .ok (.getfield 9, 3) := by decide +kernel
theorem dX4_add_13 : decode mX4_add.2.1 13 = .ok (.aload_n 0, 1) := by decide +kernel
theorem dX4_add_14 : decode mX4_add.2.1 14 = .ok (.getfield 21, 3) := by decide +kernel
theorem dX4_add_17 : decode mX4_add.2.1 17 = .ok (.iload_n 1, 1) := by decide +kernel
theorem dX4_add_18 : decode mX4_add.2.1 18 = .ok (.bipush 8, 2) := by decide +kernel
theorem dX4_add_20 : decode mX4_add.2.1 20 = .ok (.imul, 1) := by decide +kernel
theorem dX4_add_21 : decode mX4_add.2.1 21 = .ok (.iload_n 2, 1) := by decide +kernel
theorem dX4_add_22 : decode mX4_add.2.1 22 = .ok (.iadd, 1) := by decide +kernel
theorem dX4_add_23 : decode mX4_add.2.1 23 = .ok (.iastore, 1) := by decide +kernel
theorem dX4_add_24 : decode mX4_add.2.1 24 = .ok (.aload_n 0, 1) := by decide +kernel
theorem dX4_add_25 : decode mX4_add.2.1 25 = .ok (.getfield 15, 3) := by decide +kernel
theorem dX4_add_28 : decode mX4_add.2.1 28 = .ok (.iload_n 1, 1) := by decide +kernel
theorem dX4_add_29 : decode mX4_add.2.1 29 = .ok (.bipush 8, 2) := by decide +kernel
theorem dX4_add_31 : decode mX4_add.2.1 31 = .ok (.imul, 1) := by decide +kernel
theorem dX4_add_32 : decode mX4_add.2.1 32 = .ok (.iload_n 2, 1) := by decide +kernel
theorem dX4_add_33 : decode mX4_add.2.1 33 = .ok (.iadd, 1) := by decide +kernel
theorem dX4_add_34 : decode mX4_add.2.1 34 = .ok (.aload_n 0, 1) := by decide +kernel
theorem dX4_add_35 : decode mX4_add.2.1 35 = .ok (.getfield 21, 3) := by decide +kernel
theorem dX4_add_38 : decode mX4_add.2.1 38 = .ok (.iastore, 1) := by decide +kernel
theorem dX4_add_39 : decode mX4_add.2.1 39 = .ok (.aload_n 0, 1) := by decide +kernel
theorem dX4_add_40 : decode mX4_add.2.1 40 = .ok (.getfield 18, 3) := by decide +kernel
theorem dX4_add_43 : decode mX4_add.2.1 43 = .ok (.iload_n 1, 1) := by decide +kernel
theorem dX4_add_44 : decode mX4_add.2.1 44 = .ok (.dup2, 1) := by decide +kernel
theorem dX4_add_45 : decode mX4_add.2.1 45 = .ok (.iaload, 1) := by decide +kernel
theorem dX4_add_46 : decode mX4_add.2.1 46 = .ok (.iconst 1, 1) := by decide +kernel
theorem dX4_add_47 : decode mX4_add.2.1 47 = .ok (.iadd, 1) := by decide +kernel
theorem dX4_add_48 : decode mX4_add.2.1 48 = .ok (.iastore, 1) := by decide +kernel
theorem dX4_add_49 : decode mX4_add.2.1 49 = .ok (.aload_n 0, 1) := by decide +kernel
theorem dX4_add_50 : decode mX4_add.2.1 50 = .ok (.dup, 1) := by decide +kernel
theorem dX4_add_51 : decode mX4_add.2.1 51 = .ok (.getfield 21, 3) := by decide +kernel
theorem dX4_add_54 : decode mX4_add.2.1 54 = .ok (.iconst 1, 1) := by decide +kernel
theorem dX4_add_55 : decode mX4_add.2.1 55 = .ok (.iadd, 1) := by decide +kernel
theorem dX4_add_56 : decode mX4_add.2.1 56 = .ok (.putfield 21, 3) := by decide +kernel
theorem dX4_add_59 : decode mX4_add.2.1 59 = .ok (.return_, 1) := by decide +kernel
theorem dX5_init_0 : decode mX5_init.2.1 0 = .ok (.aload_n 0, 1) := by decide +kernel
theorem dX5_init_1 : decode mX5_init.2.1 1 = .ok (.invokespecial 3, 3) := by decide +kernel
theorem dX5_init_4 : decode mX5_init.2.1 4 = .ok (.aload_n 0, 1) := by decide +kernel
theorem dX5_init_5 : decode mX5_init.2.1 5 = .ok (.iconst 5, 1) := by decide +kernel
theorem dX5_init_6 : decode mX5_init.2.1 6 = .ok (.anewarray 9, 3) := by decide +kernel
theorem dX5_init_9 : decode mX5_init.2.1 9 = .ok (.putfield 11, 3) := by decide +kernel
theorem dX5_init_12 : decode mX5_init.2.1 12 = .ok (.iconst 0, 1) := by decide +kernel
theorem dX5_init_13 : decode mX5_init.2.1 13 = .ok (.istore_n 1, 1) := by decide +kernel
theorem dX5_init_14 : decode mX5_init.2.1 14 = .ok (.iload_n 1, 1) := by decide +kernel
theorem dX5_init_15 : decode mX5_init.2.1 15 = .ok (.iconst 5, 1) := by decide +kernel
theorem dX5_init_16 : decode mX5_init.2.1 16 = .ok (.if_icmp .ge 22, 3) := by decide +kernel
theorem dX5_init_19 : decode mX5_init.2.1 19 = .ok (.aload_n 0, 1) := by decide +kernel
theorem dX5_init_20 : decode mX5_init.2.1 20 = .ok (.getfield 11, 3) := by decide +kernel
theorem dX5_init_23 : decode mX5_init.2.1 23 = .ok (.iload_n 1, 1) := by decide +kernel
theorem dX5_init_24 : decode mX5_init.2.1 24 = .ok (.new 9, 3) := by decide +kernel
theorem dX5_init_27 : decode mX5_init.2.1 27 = .ok (.dup, 1) := by decide +kernel
theorem dX5_init_28 : decode mX5_init.2.1 28 = .ok (.invokespecial 17, 3) := by decide +kernel
theorem dX5_init_31 : decode mX5_init.2.1 31 = .ok (.aastore, 1) := by decide +kernel
theorem dX5_init_32 : decode mX5_init.2.1 32 = .ok (.iinc 1 1, 3) := by decide +kernel
theorem dX5_init_35 : decode mX5_init.2.1 35 = .ok (.goto (-21), 3) := by decide +kernel
theorem dX5_init_38 : decode mX5_init.2.1 38 = .ok (.return_, 1) := by decide +kernel
theorem dX5_count_0 : decode mX5_count.2.1 0 = .ok (.aload_n 0, 1) := by decide +kernel
theorem dX5_count_1 : decode mX5_count.2.1 1 = .ok (.getfield 18, 3) := by decide +kernel
theorem dX5_count_4 : decode mX5_count.2.1 4 = .ok (.ireturn, 1) := by decide +kernel
theorem dX5_keep_0 : decode mX5_keep.2.1 0 = .ok (.aload_n 0, 1) := by decide +kernel
theorem dX5_keep_1 : decode mX5_keep.2.1 1 = .ok (.getfield 18, 3) := by decide +kernel
theorem dX5_keep_4 : decode mX5_keep.2.1 4 = .ok (.iconst 5, 1) := by decide +kernel
theorem dX5_keep_5 : decode mX5_keep.2.1 5 = .ok (.if_icmp .lt 7, 3) := by decide +kernel
theorem dX5_keep_8 : decode mX5_keep.2.1 8 = .ok (.aload_n 0, 1) := by decide +kernel
theorem dX5_keep_9 : decode mX5_keep.2.1 9 = .ok (.invokevirtual 22, 3) := by decide +kernel
theorem dX5_keep_12 : decode mX5_keep.2.1 12 = .ok (.aload_n 0, 1) := by decide +kernel
theorem dX5_keep_13 : decode mX5_keep.2.1 13 = .ok (.getfield 11, 3) := by decide +kernel
theorem dX5_keep_16 : decode mX5_keep.2.1 16 = .ok (.aload_n 0, 1) := by decide +kernel
theorem dX5_keep_17 : decode mX5_keep.2.1 17 = .ok (.getfield 18, 3) := by decide +kernel
theorem dX5_keep_20 : decode mX5_keep.2.1 20 = .ok (.aaload, 1) := by decide +kernel
theorem dX5_keep_21 : decode mX5_keep.2.1 21 = .ok (.aload_n 1, 1) := by decide +kernel
theorem dX5_keep_22 : decode mX5_keep.2.1 22 = .ok (.invokevirtual 25, 3) := by decide +kernel
theorem dX5_keep_25 : decode mX5_keep.2.1 25 = .ok (.aload_n 0, 1) := by decide +kernel
theorem dX5_keep_26 : decode mX5_keep.2.1 26 = .ok (.dup, 1) := by decide +kernel
theorem dX5_keep_27 : decode mX5_keep.2.1 27 = .ok (.getfield 18, 3) := by decide +kernel
theorem dX5_keep_30 : decode mX5_keep.2.1 30 = .ok (.iconst 1, 1) := by decide +kernel
theorem dX5_keep_31 : decode mX5_keep.2.1 31 = .ok (.iadd, 1) := by decide +kernel
theorem dX5_keep_32 : decode mX5_keep.2.1 32 = .ok (.putfield 18, 3) := by decide +kernel
theorem dX5_keep_35 : decode mX5_keep.2.1 35 = .ok (.return_, 1) := by decide +kernel
theorem dX5_giveBack_0 : decode mX5_giveBack.2.1 0 = .ok (.aload_n 0, 1) := by decide +kernel
theorem dX5_giveBack_1 : decode mX5_giveBack.2.1 1 = .ok (.getfield 18, 3) := by decide +kernel
theorem dX5_giveBack_4 : decode mX5_giveBack.2.1 4 = .ok (.ifCond .le 26, 3) := by decide +kernel
theorem dX5_giveBack_7 : decode mX5_giveBack.2.1 7 = .ok (.aload_n 0, 1) := by decide +kernel
theorem dX5_giveBack_8 : decode mX5_giveBack.2.1 8 = .ok (.dup, 1) := by decide +kernel
theorem dX5_giveBack_9 : decode mX5_giveBack.2.1 9 = .ok (.getfield 18, 3) := by decide +kernel
theorem dX5_giveBack_12 : decode mX5_giveBack.2.1 12 = .ok (.iconst 1, 1) := by decide +kernel
theorem dX5_giveBack_13 : decode mX5_giveBack.2.1 13 = .ok (.isub, 1) := by decide +kernel
theorem dX5_giveBack_14 : decode mX5_giveBack.2.1 14 = .ok (.putfield 18, 3) := by decide +kernel
theorem dX5_giveBack_17 : decode mX5_giveBack.2.1 17 = .ok (.aload_n 1, 1) := by decide +kernel
theorem dX5_giveBack_18 : decode mX5_giveBack.2.1 18 = .ok (.aload_n 0, 1) := by decide +kernel
theorem dX5_giveBack_19 : decode mX5_giveBack.2.1 19 = .ok (.getfield 11, 3) := by decide +kernel
theorem dX5_giveBack_22 : decode mX5_giveBack.2.1 22 = .ok (.aload_n 0, 1) := by decide +kernel
theorem dX5_giveBack_23 : decode mX5_giveBack.2.1 23 = .ok (.getfield 18, 3) := by decide +kernel
theorem dX5_giveBack_26 : decode mX5_giveBack.2.1 26 = .ok (.aaload, 1) := by decide +kernel
theorem dX5_giveBack_27 : decode mX5_giveBack.2.1 27 = .ok (.invokevirtual 25, 3) := by decide +kernel
theorem dX5_giveBack_30 : decode mX5_giveBack.2.1 30 = .ok (.return_, 1) := by decide +kernel
theorem dX5_loseOldest_0 : decode mX5_loseOldest.2.1 0 = .ok (.aload_n 0, 1) := by decide +kernel
theorem dX5_loseOldest_1 : decode mX5_loseOldest.2.1 1 = .ok (.getfield 11, 3) := by decide +kernel
theorem dX5_loseOldest_4 : decode mX5_loseOldest.2.1 4 = .ok (.iconst 0, 1) := by decide +kernel
theorem dX5_loseOldest_5 : decode mX5_loseOldest.2.1 5 = .ok (.aaload, 1) := by decide +kernel
theorem dX5_loseOldest_6 : decode mX5_loseOldest.2.1 6 = .ok (.astore_n 1, 1) := by decide +kernel
theorem dX5_loseOldest_7 : decode mX5_loseOldest.2.1 7 = .ok (.iconst 1, 1) := by decide +kernel
theorem dX5_loseOldest_8 : decode mX5_loseOldest.2.1 8 = .ok (.istore_n 2, 1) := by decide +kernel
theorem dX5_loseOldest_9 : decode mX5_loseOldest.2.1 9 = .ok (.iload_n 2, 1) := by decide +kernel
theorem dX5_loseOldest_10 : decode mX5_loseOldest.2.1 10 = .ok (.iconst 5, 1) := by decide +kernel
theorem dX5_loseOldest_11 : decode mX5_loseOldest.2.1 11 = .ok (.if_icmp .ge 23, 3) := by decide +kernel
theorem dX5_loseOldest_14 : decode mX5_loseOldest.2.1 14 = .ok (.aload_n 0, 1) := by decide +kernel
theorem dX5_loseOldest_15 : decode mX5_loseOldest.2.1 15 = .ok (.getfield 11, 3) := by decide +kernel
theorem dX5_loseOldest_18 : decode mX5_loseOldest.2.1 18 = .ok (.iload_n 2, 1) := by decide +kernel
theorem dX5_loseOldest_19 : decode mX5_loseOldest.2.1 19 = .ok (.iconst 1, 1) := by decide +kernel
theorem dX5_loseOldest_20 : decode mX5_loseOldest.2.1 20 = .ok (.isub, 1) := by decide +kernel
theorem dX5_loseOldest_21 : decode mX5_loseOldest.2.1 21 = .ok (.aload_n 0, 1) := by decide +kernel
theorem dX5_loseOldest_22 : decode mX5_loseOldest.2.1 22 = .ok (.getfield 11, 3) := by decide +kernel
theorem dX5_loseOldest_25 : decode mX5_loseOldest.2.1 25 = .ok (.iload_n 2, 1) := by decide +kernel
theorem dX5_loseOldest_26 : decode mX5_loseOldest.2.1 26 = .ok (.aaload, 1) := by decide +kernel
theorem dX5_loseOldest_27 : decode mX5_loseOldest.2.1 27 = .ok (.aastore, 1) := by decide +kernel
theorem dX5_loseOldest_28 : decode mX5_loseOldest.2.1 28 = .ok (.iinc 2 1, 3) := by decide +kernel
theorem dX5_loseOldest_31 : decode mX5_loseOldest.2.1 31 = .ok (.goto (-22), 3) := by decide +kernel
theorem dX5_loseOldest_34 : decode mX5_loseOldest.2.1 34 = .ok (.aload_n 0, 1) := by decide +kernel
theorem dX5_loseOldest_35 : decode mX5_loseOldest.2.1 35 = .ok (.getfield 11, 3) := by decide +kernel
theorem dX5_loseOldest_38 : decode mX5_loseOldest.2.1 38 = .ok (.iconst 4, 1) := by decide +kernel
theorem dX5_loseOldest_39 : decode mX5_loseOldest.2.1 39 = .ok (.aload_n 1, 1) := by decide +kernel
theorem dX5_loseOldest_40 : decode mX5_loseOldest.2.1 40 = .ok (.aastore, 1) := by decide +kernel
theorem dX5_loseOldest_41 : decode mX5_loseOldest.2.1 41 = .ok (.aload_n 0, 1) := by decide +kernel
theorem dX5_loseOldest_42 : decode mX5_loseOldest.2.1 42 = .ok (.iconst 4, 1) := by decide +kernel
theorem dX5_loseOldest_43 : decode mX5_loseOldest.2.1 43 = .ok (.putfield 18, 3) := by decide +kernel
theorem dX5_loseOldest_46 : decode mX5_loseOldest.2.1 46 = .ok (.return_, 1) := by decide +kernel
theorem dX6_init_0 : decode mX6_init.2.1 0 = .ok (.aload_n 0, 1) := by decide +kernel
theorem dX6_init_1 : decode mX6_init.2.1 1 = .ok (.invokespecial 3, 3) := by decide +kernel
theorem dX6_init_4 : decode mX6_init.2.1 4 = .ok (.aload_n 0, 1) := by decide +kernel
theorem dX6_init_5 : decode mX6_init.2.1 5 = .ok (.sipush 200, 3) := by decide +kernel
theorem dX6_init_8 : decode mX6_init.2.1 8 = .ok (.newarray .byte, 2) := by decide +kernel
theorem dX6_init_10 : decode mX6_init.2.1 10 = .ok (.putfield 9, 3) := by decide +kernel
theorem dX6_init_13 : decode mX6_init.2.1 13 = .ok (.return_, 1) := by decide +kernel
theorem dX6_length_0 : decode mX6_length.2.1 0 = .ok (.aload_n 0, 1) := by decide +kernel
theorem dX6_length_1 : decode mX6_length.2.1 1 = .ok (.getfield 15, 3) := by decide +kernel
theorem dX6_length_4 : decode mX6_length.2.1 4 = .ok (.ireturn, 1) := by decide +kernel
theorem dX6_isFull_0 : decode mX6_isFull.2.1 0 = .ok (.aload_n 0, 1) := by decide +kernel
theorem dX6_isFull_1 : decode mX6_isFull.2.1 1 = .ok (.getfield 15, 3) := by decide +kernel
theorem dX6_isFull_4 : decode mX6_isFull.2.1 4 = .ok (.sipush 200, 3) := by decide +kernel
theorem dX6_isFull_7 : decode mX6_isFull.2.1 7 = .ok (.if_icmp .lt 7, 3) := by decide +kernel
theorem dX6_isFull_10 : decode mX6_isFull.2.1 10 = .ok (.iconst 1, 1) := by decide +kernel
theorem dX6_isFull_11 : decode mX6_isFull.2.1 11 = .ok (.goto 4, 3) := by decide +kernel
theorem dX6_isFull_14 : decode mX6_isFull.2.1 14 = .ok (.iconst 0, 1) := by decide +kernel
theorem dX6_isFull_15 : decode mX6_isFull.2.1 15 = .ok (.ireturn, 1) := by decide +kernel
theorem dX6_append_0 : decode mX6_append.2.1 0 = .ok (.aload_n 0, 1) := by decide +kernel
theorem dX6_append_1 : decode mX6_append.2.1 1 = .ok (.getfield 15, 3) := by decide +kernel
theorem dX6_append_4 : decode mX6_append.2.1 4 = .ok (.sipush 200, 3) := by decide +kernel
theorem dX6_append_7 : decode mX6_append.2.1 7 = .ok (.if_icmp .ge 24, 3) := by decide +kernel
theorem dX6_append_10 : decode mX6_append.2.1 10 = .ok (.aload_n 0, 1) := by decide +kernel
theorem dX6_append_11 : decode mX6_append.2.1 11 = .ok (.getfield 9, 3) := by decide +kernel
theorem dX6_append_14 : decode mX6_append.2.1 14 = .ok (.aload_n 0, 1) := by decide +kernel
theorem dX6_append_15 : decode mX6_append.2.1 15 = .ok (.getfield 15, 3) := by decide +kernel
theorem dX6_append_18 : decode mX6_append.2.1 18 = .ok (.iload_n 1, 1) := by decide +kernel
theorem dX6_append_19 : decode mX6_append.2.1 19 = .ok (.i2b, 1) := by decide +kernel
theorem dX6_append_20 : decode mX6_append.2.1 20 = .ok (.bastore, 1) := by decide +kernel
theorem dX6_append_21 : decode mX6_append.2.1 21 = .ok (.aload_n 0, 1) := by decide +kernel
theorem dX6_append_22 : decode mX6_append.2.1 22 = .ok (.dup, 1) := by decide +kernel
theorem dX6_append_23 : decode mX6_append.2.1 23 = .ok (.getfield 15, 3) := by decide +kernel
theorem dX6_append_26 : decode mX6_append.2.1 26 = .ok (.iconst 1, 1) := by decide +kernel
theorem dX6_append_27 : decode mX6_append.2.1 27 = .ok (.iadd, 1) := by decide +kernel
theorem dX6_append_28 : decode mX6_append.2.1 28 = .ok (.putfield 15, 3) := by decide +kernel
theorem dX6_append_31 : decode mX6_append.2.1 31 = .ok (.return_, 1) := by decide +kernel
theorem dX6_empty_0 : decode mX6_empty.2.1 0 = .ok (.aload_n 0, 1) := by decide +kernel
theorem dX6_empty_1 : decode mX6_empty.2.1 1 = .ok (.iconst 0, 1) := by decide +kernel
theorem dX6_empty_2 : decode mX6_empty.2.1 2 = .ok (.putfield 15, 3) := by decide +kernel
theorem dX6_empty_5 : decode mX6_empty.2.1 5 = .ok (.return_, 1) := by decide +kernel
theorem dX6_at_0 : decode mX6_at.2.1 0 = .ok (.iload_n 1, 1) := by decide +kernel
theorem dX6_at_1 : decode mX6_at.2.1 1 = .ok (.aload_n 0, 1) := by decide +kernel
theorem dX6_at_2 : decode mX6_at.2.1 2 = .ok (.getfield 15, 3) := by decide +kernel
theorem dX6_at_5 : decode mX6_at.2.1 5 = .ok (.invokestatic 19, 3) := by decide +kernel
theorem dX6_at_8 : decode mX6_at.2.1 8 = .ok (.ifCond .eq 7, 3) := by decide +kernel
theorem dX6_at_11 : decode mX6_at.2.1 11 = .ok (.iconst (-1), 1) := by decide +kernel
theorem dX6_at_12 : decode mX6_at.2.1 12 = .ok (.goto 9, 3) := by decide +kernel
theorem dX6_at_15 : decode mX6_at.2.1 15 = .ok (.aload_n 0, 1) := by decide +kernel
theorem dX6_at_16 : decode mX6_at.2.1 16 = .ok (.getfield 9, 3) := by decide +kernel
theorem dX6_at_19 : decode mX6_at.2.1 19 = .ok (.iload_n 1, 1) := by decide +kernel
theorem dX6_at_20 : decode mX6_at.2.1 20 = .ok (.baload, 1) := by decide +kernel
theorem dX6_at_21 : decode mX6_at.2.1 21 = .ok (.ireturn, 1) := by decide +kernel
theorem dX7_init_0 : decode mX7_init.2.1 0 = .ok (.aload_n 0, 1) := by decide +kernel
theorem dX7_init_1 : decode mX7_init.2.1 1 = .ok (.invokespecial 3, 3) := by decide +kernel
theorem dX7_init_4 : decode mX7_init.2.1 4 = .ok (.aload_n 0, 1) := by decide +kernel
theorem dX7_init_5 : decode mX7_init.2.1 5 = .ok (.sipush 200, 3) := by decide +kernel
theorem dX7_init_8 : decode mX7_init.2.1 8 = .ok (.newarray .int, 2) := by decide +kernel
theorem dX7_init_10 : decode mX7_init.2.1 10 = .ok (.putfield 9, 3) := by decide +kernel
theorem dX7_init_13 : decode mX7_init.2.1 13 = .ok (.aload_n 0, 1) := by decide +kernel
theorem dX7_init_14 : decode mX7_init.2.1 14 = .ok (.sipush 200, 3) := by decide +kernel
theorem dX7_init_17 : decode mX7_init.2.1 17 = .ok (.newarray .int, 2) := by decide +kernel
theorem dX7_init_19 : decode mX7_init.2.1 19 = .ok (.putfield 15, 3) := by decide +kernel
theorem dX7_init_22 : decode mX7_init.2.1 22 = .ok (.return_, 1) := by decide +kernel
theorem dX7_ahead_0 : decode mX7_ahead.2.1 0 = .ok (.aload_n 0, 1) := by decide +kernel
theorem dX7_ahead_1 : decode mX7_ahead.2.1 1 = .ok (.getfield 18, 3) := by decide +kernel
theorem dX7_ahead_4 : decode mX7_ahead.2.1 4 = .ok (.aload_n 0, 1) := by decide +kernel
theorem dX7_ahead_5 : decode mX7_ahead.2.1 5 = .ok (.getfield 22, 3) := by decide +kernel
theorem dX7_ahead_8 : decode mX7_ahead.2.1 8 = .ok (.if_icmp .ge 15, 3) := by decide +kernel
theorem dX7_ahead_11 : decode mX7_ahead.2.1 11 = .ok (.aload_n 0, 1) := by decide +kernel
theorem dX7_ahead_12 : decode mX7_ahead.2.1 12 = .ok (.getfield 9, 3) := by decide +kernel
theorem dX7_ahead_15 : decode mX7_ahead.2.1 15 = .ok (.aload_n 0, 1) := by decide +kernel
theorem dX7_ahead_16 : decode mX7_ahead.2.1 16 = .ok (.getfield 18, 3) := by decide +kernel
theorem dX7_ahead_19 : decode mX7_ahead.2.1 19 = .ok (.iaload, 1) := by decide +kernel
theorem dX7_ahead_20 : decode mX7_ahead.2.1 20 = .ok (.goto 4, 3) := by decide +kernel
theorem dX7_ahead_23 : decode mX7_ahead.2.1 23 = .ok (.iconst (-1), 1) := by decide +kernel
theorem dX7_ahead_24 : decode mX7_ahead.2.1 24 = .ok (.ireturn, 1) := by decide +kernel
theorem dX7_place_0 : decode mX7_place.2.1 0 = .ok (.aload_n 0, 1) := by decide +kernel
theorem dX7_place_1 : decode mX7_place.2.1 1 = .ok (.getfield 18, 3) := by decide +kernel
theorem dX7_place_4 : decode mX7_place.2.1 4 = .ok (.aload_n 0, 1) := by decide +kernel
theorem dX7_place_5 : decode mX7_place.2.1 5 = .ok (.getfield 22, 3) := by decide +kernel
theorem dX7_place_8 : decode mX7_place.2.1 8 = .ok (.if_icmp .ge 15, 3) := by decide +kernel
theorem dX7_place_11 : decode mX7_place.2.1 11 = .ok (.aload_n 0, 1) := by decide +kernel
theorem dX7_place_12 : decode mX7_place.2.1 12 = .ok (.getfield 15, 3) := by decide +kernel
theorem dX7_place_15 : decode mX7_place.2.1 15 = .ok (.aload_n 0, 1) := by decide +kernel
theorem dX7_place_16 : decode mX7_place.2.1 16 = .ok (.getfield 18, 3) := by decide +kernel
theorem dX7_place_19 : decode mX7_place.2.1 19 = .ok (.iaload, 1) := by decide +kernel
theorem dX7_place_20 : decode mX7_place.2.1 20 = .ok (.goto 7, 3) := by decide +kernel
theorem dX7_place_23 : decode mX7_place.2.1 23 = .ok (.aload_n 0, 1) := by decide +kernel
theorem dX7_place_24 : decode mX7_place.2.1 24 = .ok (.getfield 25, 3) := by decide +kernel
theorem dX7_place_27 : decode mX7_place.2.1 27 = .ok (.ireturn, 1) := by decide +kernel
theorem dX7_step_0 : decode mX7_step.2.1 0 = .ok (.aload_n 0, 1) := by decide +kernel
theorem dX7_step_1 : decode mX7_step.2.1 1 = .ok (.getfield 18, 3) := by decide +kernel
theorem dX7_step_4 : decode mX7_step.2.1 4 = .ok (.aload_n 0, 1) := by decide +kernel
theorem dX7_step_5 : decode mX7_step.2.1 5 = .ok (.getfield 22, 3) := by decide +kernel
theorem dX7_step_8 : decode mX7_step.2.1 8 = .ok (.if_icmp .ge 13, 3) := by decide +kernel
theorem dX7_step_11 : decode mX7_step.2.1 11 = .ok (.aload_n 0, 1) := by decide +kernel
theorem dX7_step_12 : decode mX7_step.2.1 12 = .ok (.dup, 1) := by decide +kernel
theorem dX7_step_13 : decode mX7_step.2.1 13 = .ok (.getfield 18, 3) := by decide +kernel
theorem dX7_step_16 : decode mX7_step.2.1 16 = .ok (.iconst 1, 1) := by decide +kernel
theorem dX7_step_17 : decode mX7_step.2.1 17 = .ok (.iadd, 1) := by decide +kernel
theorem dX7_step_18 : decode mX7_step.2.1 18 = .ok (.putfield 18, 3) := by decide +kernel
theorem dX7_step_21 : decode mX7_step.2.1 21 = .ok (.return_, 1) := by decide +kernel
theorem dX7_cut_0 : decode mX7_cut.2.1 0 = .ok (.aload_n 0, 1) := by decide +kernel
theorem dX7_cut_1 : decode mX7_cut.2.1 1 = .ok (.iconst 0, 1) := by decide +kernel
theorem dX7_cut_2 : decode mX7_cut.2.1 2 = .ok (.putfield 22, 3) := by decide +kernel
theorem dX7_cut_5 : decode mX7_cut.2.1 5 = .ok (.aload_n 0, 1) := by decide +kernel
theorem dX7_cut_6 : decode mX7_cut.2.1 6 = .ok (.iconst 0, 1) := by decide +kernel
theorem dX7_cut_7 : decode mX7_cut.2.1 7 = .ok (.putfield 18, 3) := by decide +kernel
theorem dX7_cut_10 : decode mX7_cut.2.1 10 = .ok (.aload_n 0, 1) := by decide +kernel
theorem dX7_cut_11 : decode mX7_cut.2.1 11 = .ok (.aload_n 1, 1) := by decide +kernel
theorem dX7_cut_12 : decode mX7_cut.2.1 12 = .ok (.invokevirtual 28, 3) := by decide +kernel
theorem dX7_cut_15 : decode mX7_cut.2.1 15 = .ok (.putfield 25, 3) := by decide +kernel
theorem dX7_cut_18 : decode mX7_cut.2.1 18 = .ok (.iconst 0, 1) := by decide +kernel
theorem dX7_cut_19 : decode mX7_cut.2.1 19 = .ok (.istore_n 2, 1) := by decide +kernel
theorem dX7_cut_20 : decode mX7_cut.2.1 20 = .ok (.iload_n 2, 1) := by decide +kernel
theorem dX7_cut_21 : decode mX7_cut.2.1 21 = .ok (.aload_n 0, 1) := by decide +kernel
theorem dX7_cut_22 : decode mX7_cut.2.1 22 = .ok (.getfield 25, 3) := by decide +kernel
theorem dX7_cut_25 : decode mX7_cut.2.1 25 = .ok (.if_icmp .ge 54, 3) := by decide +kernel
theorem dX7_cut_28 : decode mX7_cut.2.1 28 = .ok (.iconst 1, 1) := by decide +kernel
theorem dX7_cut_29 : decode mX7_cut.2.1 29 = .ok (.aload_n 1, 1) := by decide +kernel
theorem dX7_cut_30 : decode mX7_cut.2.1 30 = .ok (.iload_n 2, 1) := by decide +kernel
theorem dX7_cut_31 : decode mX7_cut.2.1 31 = .ok (.invokestatic 34, 3) := by decide +kernel
theorem dX7_cut_34 : decode mX7_cut.2.1 34 = .ok (.invokestatic 38, 3) := by decide +kernel
theorem dX7_cut_37 : decode mX7_cut.2.1 37 = .ok (.istore_n 3, 1) := by decide +kernel
theorem dX7_cut_38 : decode mX7_cut.2.1 38 = .ok (.aload_n 1, 1) := by decide +kernel
theorem dX7_cut_39 : decode mX7_cut.2.1 39 = .ok (.iload_n 2, 1) := by decide +kernel
theorem dX7_cut_40 : decode mX7_cut.2.1 40 = .ok (.invokevirtual 44, 3) := by decide +kernel
theorem dX7_cut_43 : decode mX7_cut.2.1 43 = .ok (.bipush 32, 2) := by decide +kernel
theorem dX7_cut_45 : decode mX7_cut.2.1 45 = .ok (.if_icmp .eq 27, 3) := by decide +kernel
theorem dX7_cut_48 : decode mX7_cut.2.1 48 = .ok (.aload_n 0, 1) := by decide +kernel
theorem dX7_cut_49 : decode mX7_cut.2.1 49 = .ok (.iload_n 3, 1) := by decide +kernel
theorem dX7_cut_50 : decode mX7_cut.2.1 50 = .ok (.iconst 1, 1) := by decide +kernel
theorem dX7_cut_51 : decode mX7_cut.2.1 51 = .ok (.if_icmp .ne 11, 3) := by decide +kernel
theorem dX7_cut_54 : decode mX7_cut.2.1 54 = .ok (.aload_n 1, 1) := by decide +kernel
theorem dX7_cut_55 : decode mX7_cut.2.1 55 = .ok (.iload_n 2, 1) := by decide +kernel
theorem dX7_cut_56 : decode mX7_cut.2.1 56 = .ok (.invokevirtual 44, 3) := by decide +kernel
theorem dX7_cut_59 : decode mX7_cut.2.1 59 = .ok (.goto 9, 3) := by decide +kernel
theorem dX7_cut_62 : decode mX7_cut.2.1 62 = .ok (.aload_n 1, 1) := by decide +kernel
theorem dX7_cut_63 : decode mX7_cut.2.1 63 = .ok (.iload_n 2, 1) := by decide +kernel
theorem dX7_cut_64 : decode mX7_cut.2.1 64 = .ok (.iload_n 3, 1) := by decide +kernel
theorem dX7_cut_65 : decode mX7_cut.2.1 65 = .ok (.invokestatic 48, 3) := by decide +kernel
theorem dX7_cut_68 : decode mX7_cut.2.1 68 = .ok (.iload_n 2, 1) := by decide +kernel
theorem dX7_cut_69 : decode mX7_cut.2.1 69 = .ok (.invokevirtual 52, 3) := by decide +kernel
theorem dX7_cut_72 : decode mX7_cut.2.1 72 = .ok (.iload_n 2, 1) := by decide +kernel
theorem dX7_cut_73 : decode mX7_cut.2.1 73 = .ok (.iload_n 3, 1) := by decide +kernel
theorem dX7_cut_74 : decode mX7_cut.2.1 74 = .ok (.iadd, 1) := by decide +kernel
theorem dX7_cut_75 : decode mX7_cut.2.1 75 = .ok (.istore_n 2, 1) := by decide +kernel
theorem dX7_cut_76 : decode mX7_cut.2.1 76 = .ok (.goto (-56), 3) := by decide +kernel
theorem dX7_cut_79 : decode mX7_cut.2.1 79 = .ok (.return_, 1) := by decide +kernel
theorem dX7_add_0 : decode mX7_add.2.1 0 = .ok (.aload_n 0, 1) := by decide +kernel
theorem dX7_add_1 : decode mX7_add.2.1 1 = .ok (.getfield 22, 3) := by decide +kernel
theorem dX7_add_4 : decode mX7_add.2.1 4 = .ok (.sipush 200, 3) := by decide +kernel
theorem dX7_add_7 : decode mX7_add.2.1 7 = .ok (.if_icmp .ge 33, 3) := by decide +kernel
theorem dX7_add_10 : decode mX7_add.2.1 10 = .ok (.aload_n 0, 1) := by decide +kernel
theorem dX7_add_11 : decode mX7_add.2.1 11 = .ok (.getfield 9, 3) := by decide +kernel
theorem dX7_add_14 : decode mX7_add.2.1 14 = .ok (.aload_n 0, 1) := by decide +kernel
theorem dX7_add_15 : decode mX7_add.2.1 15 = .ok (.getfield 22, 3) := by decide +kernel
theorem dX7_add_18 : decode mX7_add.2.1 18 = .ok (.iload_n 1, 1) := by decide +kernel
theorem dX7_add_19 : decode mX7_add.2.1 19 = .ok (.iastore, 1) := by decide +kernel
theorem dX7_add_20 : decode mX7_add.2.1 20 = .ok (.aload_n 0, 1) := by decide +kernel
theorem dX7_add_21 : decode mX7_add.2.1 21 = .ok (.getfield 15, 3) := by decide +kernel
theorem dX7_add_24 : decode mX7_add.2.1 24 = .ok (.aload_n 0, 1) := by decide +kernel
theorem dX7_add_25 : decode mX7_add.2.1 25 = .ok (.getfield 22, 3) := by decide +kernel
theorem dX7_add_28 : decode mX7_add.2.1 28 = .ok (.iload_n 2, 1) := by decide +kernel
theorem dX7_add_29 : decode mX7_add.2.1 29 = .ok (.iastore, 1) := by decide +kernel
theorem dX7_add_30 : decode mX7_add.2.1 30 = .ok (.aload_n 0, 1) := by decide +kernel
theorem dX7_add_31 : decode mX7_add.2.1 31 = .ok (.dup, 1) := by decide +kernel
theorem dX7_add_32 : decode mX7_add.2.1 32 = .ok (.getfield 22, 3) := by decide +kernel
theorem dX7_add_35 : decode mX7_add.2.1 35 = .ok (.iconst 1, 1) := by decide +kernel
theorem dX7_add_36 : decode mX7_add.2.1 36 = .ok (.iadd, 1) := by decide +kernel
theorem dX7_add_37 : decode mX7_add.2.1 37 = .ok (.putfield 22, 3) := by decide +kernel
theorem dX7_add_40 : decode mX7_add.2.1 40 = .ok (.return_, 1) := by decide +kernel
theorem dX7_lettersFrom_0 : decode mX7_lettersFrom.2.1 0 = .ok (.iload_n 1, 1) := by decide +kernel
theorem dX7_lettersFrom_1 : decode mX7_lettersFrom.2.1 1 = .ok (.istore_n 2, 1) := by decide +kernel
theorem dX7_lettersFrom_2 : decode mX7_lettersFrom.2.1 2 = .ok (.iload_n 2, 1) := by decide +kernel
theorem dX7_lettersFrom_3 : decode mX7_lettersFrom.2.1 3 = .ok (.aload_n 0, 1) := by decide +kernel
theorem dX7_lettersFrom_4 : decode mX7_lettersFrom.2.1 4 = .ok (.invokevirtual 28, 3) := by decide +kernel
theorem dX7_lettersFrom_7 : decode mX7_lettersFrom.2.1 7 = .ok (.if_icmp .ge 29, 3) := by decide +kernel
theorem dX7_lettersFrom_10 : decode mX7_lettersFrom.2.1 10 = .ok (.aload_n 0, 1) := by decide +kernel
theorem dX7_lettersFrom_11 : decode mX7_lettersFrom.2.1 11 = .ok (.iload_n 2, 1) := by decide +kernel
theorem dX7_lettersFrom_12 : decode mX7_lettersFrom.2.1 12 = .ok (.invokevirtual 44, 3) := by decide +kernel
theorem dX7_lettersFrom_15 : decode mX7_lettersFrom.2.1 15 = .ok (.bipush 97, 2) := by decide +kernel
theorem dX7_lettersFrom_17 : decode mX7_lettersFrom.2.1 17 = .ok (.if_icmp .lt 19, 3) := by decide +kernel
theorem dX7_lettersFrom_20 : decode mX7_lettersFrom.2.1 20 = .ok (.aload_n 0, 1) := by decide +kernel
theorem dX7_lettersFrom_21 : decode mX7_lettersFrom.2.1 21 = .ok (.iload_n 2, 1) := by decide +kernel
theorem dX7_lettersFrom_22 : decode mX7_lettersFrom.2.1 22 = .ok (.invokevirtual 44, 3) := by decide +kernel
theorem dX7_lettersFrom_25 : decode mX7_lettersFrom.2.1 25 = .ok (.bipush 122, 2) := by decide +kernel
theorem dX7_lettersFrom_27 : decode mX7_lettersFrom.2.1 27 = .ok (.if_icmp .gt 9, 3) := by decide +kernel
theorem dX7_lettersFrom_30 : decode mX7_lettersFrom.2.1 30 = .ok (.iinc 2 1, 3) := by decide +kernel
theorem dX7_lettersFrom_33 : decode mX7_lettersFrom.2.1 33 = .ok (.goto (-31), 3) := by decide +kernel
theorem dX7_lettersFrom_36 : decode mX7_lettersFrom.2.1 36 = .ok (.iload_n 2, 1) := by decide +kernel
theorem dX7_lettersFrom_37 : decode mX7_lettersFrom.2.1 37 = .ok (.iload_n 1, 1) := by decide +kernel
theorem dX7_lettersFrom_38 : decode mX7_lettersFrom.2.1 38 = .ok (.isub, 1) := by decide +kernel
theorem dX7_lettersFrom_39 : decode mX7_lettersFrom.2.1 39 = .ok (.ireturn, 1) := by decide +kernel
theorem dX7_wordKind_0 : decode mX7_wordKind.2.1 0 = .ok (.aload_n 0, 1) := by decide +kernel
theorem dX7_wordKind_1 : decode mX7_wordKind.2.1 1 = .ok (.iload_n 1, 1) := by decide +kernel
theorem dX7_wordKind_2 : decode mX7_wordKind.2.1 2 = .ok (.iload_n 2, 1) := by decide +kernel
theorem dX7_wordKind_3 : decode mX7_wordKind.2.1 3 = .ok (.ldc 56, 2) := by decide +kernel
theorem dX7_wordKind_5 : decode mX7_wordKind.2.1 5 = .ok (.invokestatic 58, 3) := by decide +kernel
theorem dX7_wordKind_8 : decode mX7_wordKind.2.1 8 = .ok (.ifCond .eq 7, 3) := by decide +kernel
theorem dX7_wordKind_11 : decode mX7_wordKind.2.1 11 = .ok (.sipush 128, 3) := by decide +kernel
theorem dX7_wordKind_14 : decode mX7_wordKind.2.1 14 = .ok (.ireturn, 1) := by decide +kernel
theorem dX7_wordKind_15 : decode mX7_wordKind.2.1 15 = .ok (.aload_n 0, 1) := by decide +kernel
theorem dX7_wordKind_16 : decode mX7_wordKind.2.1 16 = .ok (.iload_n 1, 1) := by decide +kernel
theorem dX7_wordKind_17 : decode mX7_wordKind.2.1 17 = .ok (.iload_n 2, 1) := by decide +kernel
theorem dX7_wordKind_18 : decode mX7_wordKind.2.1 18 = .ok (.ldc 62, 2) := by decide +kernel
theorem dX7_wordKind_20 : decode mX7_wordKind.2.1 20 = .ok (.invokestatic 58, 3) := by decide +kernel
theorem dX7_wordKind_23 : decode mX7_wordKind.2.1 23 = .ok (.ifCond .eq 9, 3) := by decide +kernel
theorem dX7_wordKind_26 : decode mX7_wordKind.2.1 26 = .ok (.sipush 129, 3) := by decide +kernel
theorem dX7_wordKind_29 : decode mX7_wordKind.2.1 29 = .ok (.goto 6, 3) := by decide +kernel
theorem dX7_wordKind_32 : decode mX7_wordKind.2.1 32 = .ok (.sipush 130, 3) := by decide +kernel
theorem dX7_wordKind_35 : decode mX7_wordKind.2.1 35 = .ok (.ireturn, 1) := by decide +kernel
theorem dX7_spells_0 : decode mX7_spells.2.1 0 = .ok (.aload_n 3, 1) := by decide +kernel
theorem dX7_spells_1 : decode mX7_spells.2.1 1 = .ok (.invokevirtual 64, 3) := by decide +kernel
theorem dX7_spells_4 : decode mX7_spells.2.1 4 = .ok (.iload_n 2, 1) := by decide +kernel
theorem dX7_spells_5 : decode mX7_spells.2.1 5 = .ok (.if_icmp .ne 7, 3) := by decide +kernel
theorem dX7_spells_8 : decode mX7_spells.2.1 8 = .ok (.iconst 1, 1) := by decide +kernel
theorem dX7_spells_9 : decode mX7_spells.2.1 9 = .ok (.goto 4, 3) := by decide +kernel
theorem dX7_spells_12 : decode mX7_spells.2.1 12 = .ok (.iconst 0, 1) := by decide +kernel
theorem dX7_spells_13 : decode mX7_spells.2.1 13 = .ok (.istore 4, 2) := by decide +kernel
theorem dX7_spells_15 : decode mX7_spells.2.1 15 = .ok (.iconst 0, 1) := by decide +kernel
theorem dX7_spells_16 : decode mX7_spells.2.1 16 = .ok (.istore 5, 2) := by decide +kernel
theorem dX7_spells_18 : decode mX7_spells.2.1 18 = .ok (.iload 5, 2) := by decide +kernel
theorem dX7_spells_20 : decode mX7_spells.2.1 20 = .ok (.iload_n 2, 1) := by decide +kernel
theorem dX7_spells_21 : decode mX7_spells.2.1 21 = .ok (.if_icmp .ge 38, 3) := by decide +kernel
theorem dX7_spells_24 : decode mX7_spells.2.1 24 = .ok (.iload 4, 2) := by decide +kernel
theorem dX7_spells_26 : decode mX7_spells.2.1 26 = .ok (.ifCond .eq 33, 3) := by decide +kernel
theorem dX7_spells_29 : decode mX7_spells.2.1 29 = .ok (.aload_n 0, 1) := by decide +kernel
theorem dX7_spells_30 : decode mX7_spells.2.1 30 = .ok (.iload_n 1, 1) := by decide +kernel
theorem dX7_spells_31 : decode mX7_spells.2.1 31 = .ok (.iload 5, 2) := by decide +kernel
theorem dX7_spells_33 : decode mX7_spells.2.1 33 = .ok (.iadd, 1) := by decide +kernel
theorem dX7_spells_34 : decode mX7_spells.2.1 34 = .ok (.invokevirtual 44, 3) := by decide +kernel
theorem dX7_spells_37 : decode mX7_spells.2.1 37 = .ok (.aload_n 3, 1) := by decide +kernel
theorem dX7_spells_38 : decode mX7_spells.2.1 38 = .ok (.iload 5, 2) := by decide +kernel
theorem dX7_spells_40 : decode mX7_spells.2.1 40 = .ok (.invokevirtual 67, 3) := by decide +kernel
theorem dX7_spells_43 : decode mX7_spells.2.1 43 = .ok (.if_icmp .ne 7, 3) := by decide +kernel
theorem dX7_spells_46 : decode mX7_spells.2.1 46 = .ok (.iconst 1, 1) := by decide +kernel
theorem dX7_spells_47 : decode mX7_spells.2.1 47 = .ok (.goto 4, 3) := by decide +kernel
theorem dX7_spells_50 : decode mX7_spells.2.1 50 = .ok (.iconst 0, 1) := by decide +kernel
theorem dX7_spells_51 : decode mX7_spells.2.1 51 = .ok (.istore 4, 2) := by decide +kernel
theorem dX7_spells_53 : decode mX7_spells.2.1 53 = .ok (.iinc 5 1, 3) := by decide +kernel
theorem dX7_spells_56 : decode mX7_spells.2.1 56 = .ok (.goto (-38), 3) := by decide +kernel
theorem dX7_spells_59 : decode mX7_spells.2.1 59 = .ok (.iload 4, 2) := by decide +kernel
theorem dX7_spells_61 : decode mX7_spells.2.1 61 = .ok (.ireturn, 1) := by decide +kernel
theorem dX8_init_0 : decode mX8_init.2.1 0 = .ok (.aload_n 0, 1) := by decide +kernel
theorem dX8_init_1 : decode mX8_init.2.1 1 = .ok (.invokespecial 3, 3) := by decide +kernel
theorem dX8_init_4 : decode mX8_init.2.1 4 = .ok (.aload_n 0, 1) := by decide +kernel
theorem dX8_init_5 : decode mX8_init.2.1 5 = .ok (.bipush 16, 2) := by decide +kernel
theorem dX8_init_7 : decode mX8_init.2.1 7 = .ok (.newarray .int, 2) := by decide +kernel
theorem dX8_init_9 : decode mX8_init.2.1 9 = .ok (.putfield 9, 3) := by decide +kernel
theorem dX8_init_12 : decode mX8_init.2.1 12 = .ok (.aload_n 0, 1) := by decide +kernel
theorem dX8_init_13 : decode mX8_init.2.1 13 = .ok (.iconst (-1), 1) := by decide +kernel
theorem dX8_init_14 : decode mX8_init.2.1 14 = .ok (.putfield 15, 3) := by decide +kernel
theorem dX8_init_17 : decode mX8_init.2.1 17 = .ok (.aload_n 0, 1) := by decide +kernel
theorem dX8_init_18 : decode mX8_init.2.1 18 = .ok (.bipush 32, 2) := by decide +kernel
theorem dX8_init_20 : decode mX8_init.2.1 20 = .ok (.newarray .int, 2) := by decide +kernel
theorem dX8_init_22 : decode mX8_init.2.1 22 = .ok (.putfield 19, 3) := by decide +kernel
theorem dX8_init_25 : decode mX8_init.2.1 25 = .ok (.aload_n 0, 1) := by decide +kernel
theorem dX8_init_26 : decode mX8_init.2.1 26 = .ok (.bipush 32, 2) := by decide +kernel
theorem dX8_init_28 : decode mX8_init.2.1 28 = .ok (.newarray .int, 2) := by decide +kernel
theorem dX8_init_30 : decode mX8_init.2.1 30 = .ok (.putfield 22, 3) := by decide +kernel
theorem dX8_init_33 : decode mX8_init.2.1 33 = .ok (.aload_n 0, 1) := by decide +kernel
theorem dX8_init_34 : decode mX8_init.2.1 34 = .ok (.bipush 32, 2) := by decide +kernel
theorem dX8_init_36 : decode mX8_init.2.1 36 = .ok (.newarray .int, 2) := by decide +kernel
theorem dX8_init_38 : decode mX8_init.2.1 38 = .ok (.putfield 25, 3) := by decide +kernel
theorem dX8_init_41 : decode mX8_init.2.1 41 = .ok (.aload_n 0, 1) := by decide +kernel
theorem dX8_init_42 : decode mX8_init.2.1 42 = .ok (.bipush 32, 2) := by decide +kernel
theorem dX8_init_44 : decode mX8_init.2.1 44 = .ok (.newarray .int, 2) := by decide +kernel
theorem dX8_init_46 : decode mX8_init.2.1 46 = .ok (.putfield 28, 3) := by decide +kernel
theorem dX8_init_49 : decode mX8_init.2.1 49 = .ok (.aload_n 0, 1) := by decide +kernel
theorem dX8_init_50 : decode mX8_init.2.1 50 = .ok (.bipush 32, 2) := by decide +kernel
theorem dX8_init_52 : decode mX8_init.2.1 52 = .ok (.newarray .int, 2) := by decide +kernel
theorem dX8_init_54 : decode mX8_init.2.1 54 = .ok (.putfield 31, 3) := by decide +kernel
theorem dX8_init_57 : decode mX8_init.2.1 57 = .ok (.aload_n 0, 1) := by decide +kernel
theorem dX8_init_58 : decode mX8_init.2.1 58 = .ok (.bipush 32, 2) := by decide +kernel
theorem dX8_init_60 : decode mX8_init.2.1 60 = .ok (.newarray .int, 2) := by decide +kernel
theorem dX8_init_62 : decode mX8_init.2.1 62 = .ok (.putfield 34, 3) := by decide +kernel
theorem dX8_init_65 : decode mX8_init.2.1 65 = .ok (.aload_n 0, 1) := by decide +kernel
theorem dX8_init_66 : decode mX8_init.2.1 66 = .ok (.bipush 32, 2) := by decide +kernel
theorem dX8_init_68 : decode mX8_init.2.1 68 = .ok (.newarray .int, 2) := by decide +kernel
theorem dX8_init_70 : decode mX8_init.2.1 70 = .ok (.putfield 37, 3) := by decide +kernel
theorem dX8_init_73 : decode mX8_init.2.1 73 = .ok (.aload_n 0, 1) := by decide +kernel
theorem dX8_init_74 : decode mX8_init.2.1 74 = .ok (.aload_n 1, 1) := by decide +kernel
theorem dX8_init_75 : decode mX8_init.2.1 75 = .ok (.putfield 40, 3) := by decide +kernel
theorem dX8_init_78 : decode mX8_init.2.1 78 = .ok (.aload_n 0, 1) := by decide +kernel
theorem dX8_init_79 : decode mX8_init.2.1 79 = .ok (.aload_n 2, 1) := by decide +kernel
theorem dX8_init_80 : decode mX8_init.2.1 80 = .ok (.putfield 44, 3) := by decide +kernel
theorem dX8_init_83 : decode mX8_init.2.1 83 = .ok (.aload_n 0, 1) := by decide +kernel
theorem dX8_init_84 : decode mX8_init.2.1 84 = .ok (.aload_n 3, 1) := by decide +kernel
theorem dX8_init_85 : decode mX8_init.2.1 85 = .ok (.putfield 48, 3) := by decide +kernel
theorem dX8_init_88 : decode mX8_init.2.1 88 = .ok (.return_, 1) := by decide +kernel
theorem dX8_failed_0 : decode mX8_failed.2.1 0 = .ok (.aload_n 0, 1) := by decide +kernel
theorem dX8_failed_1 : decode mX8_failed.2.1 1 = .ok (.getfield 52, 3) := by decide +kernel
theorem dX8_failed_4 : decode mX8_failed.2.1 4 = .ok (.ireturn, 1) := by decide +kernel
theorem dX8_made_0 : decode mX8_made.2.1 0 = .ok (.aload_n 0, 1) := by decide +kernel
theorem dX8_made_1 : decode mX8_made.2.1 1 = .ok (.getfield 56, 3) := by decide +kernel
theorem dX8_made_4 : decode mX8_made.2.1 4 = .ok (.ireturn, 1) := by decide +kernel
theorem dX8_locks_0 : decode mX8_locks.2.1 0 = .ok (.aload_n 0, 1) := by decide +kernel
theorem dX8_locks_1 : decode mX8_locks.2.1 1 = .ok (.getfield 59, 3) := by decide +kernel
theorem dX8_locks_4 : decode mX8_locks.2.1 4 = .ok (.ireturn, 1) := by decide +kernel
theorem dX8_idleLocks_0 : decode mX8_idleLocks.2.1 0 = .ok (.aload_n 0, 1) := by decide +kernel
theorem dX8_idleLocks_1 : decode mX8_idleLocks.2.1 1 = .ok (.getfield 62, 3) := by decide +kernel
theorem dX8_idleLocks_4 : decode mX8_idleLocks.2.1 4 = .ok (.ireturn, 1) := by decide +kernel
theorem dX8_calls_0 : decode mX8_calls.2.1 0 = .ok (.aload_n 0, 1) := by decide +kernel
theorem dX8_calls_1 : decode mX8_calls.2.1 1 = .ok (.getfield 65, 3) := by decide +kernel
theorem dX8_calls_4 : decode mX8_calls.2.1 4 = .ok (.ireturn, 1) := by decide +kernel
theorem dX8_leaks_0 : decode mX8_leaks.2.1 0 = .ok (.aload_n 0, 1) := by decide +kernel
theorem dX8_leaks_1 : decode mX8_leaks.2.1 1 = .ok (.getfield 68, 3) := by decide +kernel
theorem dX8_leaks_4 : decode mX8_leaks.2.1 4 = .ok (.ireturn, 1) := by decide +kernel
theorem dX8_madeOf_0 : decode mX8_madeOf.2.1 0 = .ok (.iload_n 1, 1) := by decide +kernel
theorem dX8_madeOf_1 : decode mX8_madeOf.2.1 1 = .ok (.bipush 32, 2) := by decide +kernel
theorem dX8_madeOf_3 : decode mX8_madeOf.2.1 3 = .ok (.invokestatic 71, 3) := by decide +kernel
theorem dX8_madeOf_6 : decode mX8_madeOf.2.1 6 = .ok (.ifCond .eq 7, 3) := by decide +kernel
theorem dX8_madeOf_9 : decode mX8_madeOf.2.1 9 = .ok (.iconst 0, 1) := by decide +kernel
theorem dX8_madeOf_10 : decode mX8_madeOf.2.1 10 = .ok (.goto 9, 3) := by decide +kernel
theorem dX8_madeOf_13 : decode mX8_madeOf.2.1 13 = .ok (.aload_n 0, 1) := by decide +kernel
theorem dX8_madeOf_14 : decode mX8_madeOf.2.1 14 = .ok (.getfield 31, 3) := by decide +kernel
theorem dX8_madeOf_17 : decode mX8_madeOf.2.1 17 = .ok (.iload_n 1, 1) := by decide +kernel
theorem dX8_madeOf_18 : decode mX8_madeOf.2.1 18 = .ok (.iaload, 1) := by decide +kernel
theorem dX8_madeOf_19 : decode mX8_madeOf.2.1 19 = .ok (.ireturn, 1) := by decide +kernel
theorem dX8_leaksOf_0 : decode mX8_leaksOf.2.1 0 = .ok (.iload_n 1, 1) := by decide +kernel
theorem dX8_leaksOf_1 : decode mX8_leaksOf.2.1 1 = .ok (.bipush 32, 2) := by decide +kernel
theorem dX8_leaksOf_3 : decode mX8_leaksOf.2.1 3 = .ok (.invokestatic 71, 3) := by decide +kernel
theorem dX8_leaksOf_6 : decode mX8_leaksOf.2.1 6 = .ok (.ifCond .eq 7, 3) := by decide +kernel
theorem dX8_leaksOf_9 : decode mX8_leaksOf.2.1 9 = .ok (.iconst 0, 1) := by decide +kernel
theorem dX8_leaksOf_10 : decode mX8_leaksOf.2.1 10 = .ok (.goto 9, 3) := by decide +kernel
theorem dX8_leaksOf_13 : decode mX8_leaksOf.2.1 13 = .ok (.aload_n 0, 1) := by decide +kernel
theorem dX8_leaksOf_14 : decode mX8_leaksOf.2.1 14 = .ok (.getfield 34, 3) := by decide +kernel
theorem dX8_leaksOf_17 : decode mX8_leaksOf.2.1 17 = .ok (.iload_n 1, 1) := by decide +kernel
theorem dX8_leaksOf_18 : decode mX8_leaksOf.2.1 18 = .ok (.iaload, 1) := by decide +kernel
theorem dX8_leaksOf_19 : decode mX8_leaksOf.2.1 19 = .ok (.ireturn, 1) := by decide +kernel
theorem dX8_locksOf_0 : decode mX8_locksOf.2.1 0 = .ok (.iload_n 1, 1) := by decide +kernel
theorem dX8_locksOf_1 : decode mX8_locksOf.2.1 1 = .ok (.bipush 32, 2) := by decide +kernel
theorem dX8_locksOf_3 : decode mX8_locksOf.2.1 3 = .ok (.invokestatic 71, 3) := by decide +kernel
theorem dX8_locksOf_6 : decode mX8_locksOf.2.1 6 = .ok (.ifCond .eq 7, 3) := by decide +kernel
theorem dX8_locksOf_9 : decode mX8_locksOf.2.1 9 = .ok (.iconst 0, 1) := by decide +kernel
theorem dX8_locksOf_10 : decode mX8_locksOf.2.1 10 = .ok (.goto 9, 3) := by decide +kernel
theorem dX8_locksOf_13 : decode mX8_locksOf.2.1 13 = .ok (.aload_n 0, 1) := by decide +kernel
theorem dX8_locksOf_14 : decode mX8_locksOf.2.1 14 = .ok (.getfield 37, 3) := by decide +kernel
theorem dX8_locksOf_17 : decode mX8_locksOf.2.1 17 = .ok (.iload_n 1, 1) := by decide +kernel
theorem dX8_locksOf_18 : decode mX8_locksOf.2.1 18 = .ok (.iaload, 1) := by decide +kernel
theorem dX8_locksOf_19 : decode mX8_locksOf.2.1 19 = .ok (.ireturn, 1) := by decide +kernel
theorem dX8_siteInOpenPlace_0 : decode mX8_siteInOpenPlace.2.1 0 = .ok (.aload_n 0, 1) := by decide +kernel
theorem dX8_siteInOpenPlace_1 : decode mX8_siteInOpenPlace.2.1 1 = .ok (.aload_n 0, 1) := by decide +kernel
theorem dX8_siteInOpenPlace_2 : decode mX8_siteInOpenPlace.2.1 2 = .ok (.getfield 15, 3) := by decide +kernel
theorem dX8_siteInOpenPlace_5 : decode mX8_siteInOpenPlace.2.1 5 = .ok (.invokevirtual 75, 3) := by decide +kernel
theorem dX8_siteInOpenPlace_8 : decode mX8_siteInOpenPlace.2.1 8 = .ok (.ifCond .eq 15, 3) := by decide +kernel
theorem dX8_siteInOpenPlace_11 : decode mX8_siteInOpenPlace.2.1 11 = .ok (.aload_n 0, 1) := by decide +kernel
theorem dX8_siteInOpenPlace_12 : decode mX8_siteInOpenPlace.2.1 12 = .ok (.getfield 19, 3) := by decide +kernel
theorem dX8_siteInOpenPlace_15 : decode mX8_siteInOpenPlace.2.1 15 = .ok (.aload_n 0, 1) := by decide +kernel
theorem dX8_siteInOpenPlace_16 : decode mX8_siteInOpenPlace.2.1 16 = .ok (.getfield 15, 3) := by decide +kernel
theorem dX8_siteInOpenPlace_19 : decode mX8_siteInOpenPlace.2.1 19 = .ok (.iaload, 1) := by decide +kernel
theorem dX8_siteInOpenPlace_20 : decode mX8_siteInOpenPlace.2.1 20 = .ok (.goto 4, 3) := by decide +kernel
theorem dX8_siteInOpenPlace_23 : decode mX8_siteInOpenPlace.2.1 23 = .ok (.iconst (-1), 1) := by decide +kernel
theorem dX8_siteInOpenPlace_24 : decode mX8_siteInOpenPlace.2.1 24 = .ok (.ireturn, 1) := by decide +kernel
theorem dX8_start_0 : decode mX8_start.2.1 0 = .ok (.aload_n 0, 1) := by decide +kernel
theorem dX8_start_1 : decode mX8_start.2.1 1 = .ok (.iconst 0, 1) := by decide +kernel
theorem dX8_start_2 : decode mX8_start.2.1 2 = .ok (.putfield 52, 3) := by decide +kernel
theorem dX8_start_5 : decode mX8_start.2.1 5 = .ok (.aload_n 0, 1) := by decide +kernel
theorem dX8_start_6 : decode mX8_start.2.1 6 = .ok (.iconst 0, 1) := by decide +kernel
theorem dX8_start_7 : decode mX8_start.2.1 7 = .ok (.putfield 56, 3) := by decide +kernel
theorem dX8_start_10 : decode mX8_start.2.1 10 = .ok (.aload_n 0, 1) := by decide +kernel
theorem dX8_start_11 : decode mX8_start.2.1 11 = .ok (.iconst 0, 1) := by decide +kernel
theorem dX8_start_12 : decode mX8_start.2.1 12 = .ok (.putfield 59, 3) := by decide +kernel
theorem dX8_start_15 : decode mX8_start.2.1 15 = .ok (.aload_n 0, 1) := by decide +kernel
theorem dX8_start_16 : decode mX8_start.2.1 16 = .ok (.iconst 0, 1) := by decide +kernel
theorem dX8_start_17 : decode mX8_start.2.1 17 = .ok (.putfield 62, 3) := by decide +kernel
theorem dX8_start_20 : decode mX8_start.2.1 20 = .ok (.aload_n 0, 1) := by decide +kernel
theorem dX8_start_21 : decode mX8_start.2.1 21 = .ok (.iconst 0, 1) := by decide +kernel
theorem dX8_start_22 : decode mX8_start.2.1 22 = .ok (.putfield 65, 3) := by decide +kernel
theorem dX8_start_25 : decode mX8_start.2.1 25 = .ok (.aload_n 0, 1) := by decide +kernel
theorem dX8_start_26 : decode mX8_start.2.1 26 = .ok (.iconst 0, 1) := by decide +kernel
theorem dX8_start_27 : decode mX8_start.2.1 27 = .ok (.putfield 68, 3) := by decide +kernel
theorem dX8_start_30 : decode mX8_start.2.1 30 = .ok (.aload_n 0, 1) := by decide +kernel
theorem dX8_start_31 : decode mX8_start.2.1 31 = .ok (.iconst (-1), 1) := by decide +kernel
theorem dX8_start_32 : decode mX8_start.2.1 32 = .ok (.putfield 15, 3) := by decide +kernel
theorem dX8_start_35 : decode mX8_start.2.1 35 = .ok (.aload_n 0, 1) := by decide +kernel
theorem dX8_start_36 : decode mX8_start.2.1 36 = .ok (.getfield 31, 3) := by decide +kernel
theorem dX8_start_39 : decode mX8_start.2.1 39 = .ok (.iconst 0, 1) := by decide +kernel
theorem dX8_start_40 : decode mX8_start.2.1 40 = .ok (.invokestatic 79, 3) := by decide +kernel
theorem dX8_start_43 : decode mX8_start.2.1 43 = .ok (.aload_n 0, 1) := by decide +kernel
theorem dX8_start_44 : decode mX8_start.2.1 44 = .ok (.getfield 34, 3) := by decide +kernel
theorem dX8_start_47 : decode mX8_start.2.1 47 = .ok (.iconst 0, 1) := by decide +kernel
theorem dX8_start_48 : decode mX8_start.2.1 48 = .ok (.invokestatic 79, 3) := by decide +kernel
theorem dX8_start_51 : decode mX8_start.2.1 51 = .ok (.aload_n 0, 1) := by decide +kernel
theorem dX8_start_52 : decode mX8_start.2.1 52 = .ok (.getfield 37, 3) := by decide +kernel
theorem dX8_start_55 : decode mX8_start.2.1 55 = .ok (.iconst 0, 1) := by decide +kernel
theorem dX8_start_56 : decode mX8_start.2.1 56 = .ok (.invokestatic 79, 3) := by decide +kernel
theorem dX8_start_59 : decode mX8_start.2.1 59 = .ok (.aload_n 0, 1) := by decide +kernel
theorem dX8_start_60 : decode mX8_start.2.1 60 = .ok (.getfield 40, 3) := by decide +kernel
theorem dX8_start_63 : decode mX8_start.2.1 63 = .ok (.iconst 0, 1) := by decide +kernel
theorem dX8_start_64 : decode mX8_start.2.1 64 = .ok (.invokevirtual 85, 3) := by decide +kernel
theorem dX8_start_67 : decode mX8_start.2.1 67 = .ok (.ifCond .eq 10, 3) := by decide +kernel
theorem dX8_start_70 : decode mX8_start.2.1 70 = .ok (.aload_n 0, 1) := by decide +kernel
theorem dX8_start_71 : decode mX8_start.2.1 71 = .ok (.iconst 0, 1) := by decide +kernel
theorem dX8_start_72 : decode mX8_start.2.1 72 = .ok (.iconst (-1), 1) := by decide +kernel
theorem dX8_start_73 : decode mX8_start.2.1 73 = .ok (.invokevirtual 90, 3) := by decide +kernel
theorem dX8_start_76 : decode mX8_start.2.1 76 = .ok (.pop, 1) := by decide +kernel
theorem dX8_start_77 : decode mX8_start.2.1 77 = .ok (.return_, 1) := by decide +kernel
theorem dX8_callMethod_0 : decode mX8_callMethod.2.1 0 = .ok (.aload_n 0, 1) := by decide +kernel
theorem dX8_callMethod_1 : decode mX8_callMethod.2.1 1 = .ok (.getfield 40, 3) := by decide +kernel
theorem dX8_callMethod_4 : decode mX8_callMethod.2.1 4 = .ok (.iload_n 1, 1) := by decide +kernel
theorem dX8_callMethod_5 : decode mX8_callMethod.2.1 5 = .ok (.invokevirtual 85, 3) := by decide +kernel
theorem dX8_callMethod_8 : decode mX8_callMethod.2.1 8 = .ok (.ifCond .ne 5, 3) := by decide +kernel
theorem dX8_callMethod_11 : decode mX8_callMethod.2.1 11 = .ok (.iconst (-1), 1) := by decide +kernel
theorem dX8_callMethod_12 : decode mX8_callMethod.2.1 12 = .ok (.ireturn, 1) := by decide +kernel
theorem dX8_callMethod_13 : decode mX8_callMethod.2.1 13 = .ok (.aload_n 0, 1) := by decide +kernel
theorem dX8_callMethod_14 : decode mX8_callMethod.2.1 14 = .ok (.dup, 1) := by decide +kernel
theorem dX8_callMethod_15 : decode mX8_callMethod.2.1 15 = .ok (.getfield 65, 3) := by decide +kernel
theorem dX8_callMethod_18 : decode mX8_callMethod.2.1 18 = .ok (.iconst 1, 1) := by decide +kernel
theorem dX8_callMethod_19 : decode mX8_callMethod.2.1 19 = .ok (.iadd, 1) := by decide +kernel
theorem dX8_callMethod_20 : decode mX8_callMethod.2.1 20 = .ok (.putfield 65, 3) := by decide +kernel
theorem dX8_callMethod_23 : decode mX8_callMethod.2.1 23 = .ok (.aload_n 0, 1) := by decide +kernel
theorem dX8_callMethod_24 : decode mX8_callMethod.2.1 24 = .ok (.getfield 65, 3) := by decide +kernel
theorem dX8_callMethod_27 : decode mX8_callMethod.2.1 27 = .ok (.istore_n 3, 1) := by decide +kernel
theorem dX8_callMethod_28 : decode mX8_callMethod.2.1 28 = .ok (.aload_n 0, 1) := by decide +kernel
theorem dX8_callMethod_29 : decode mX8_callMethod.2.1 29 = .ok (.iload_n 1, 1) := by decide +kernel
theorem dX8_callMethod_30 : decode mX8_callMethod.2.1 30 = .ok (.iconst 0, 1) := by decide +kernel
theorem dX8_callMethod_31 : decode mX8_callMethod.2.1 31 = .ok (.iload_n 2, 1) := by decide +kernel
theorem dX8_callMethod_32 : decode mX8_callMethod.2.1 32 = .ok (.invokevirtual 94, 3) := by decide +kernel
theorem dX8_callMethod_35 : decode mX8_callMethod.2.1 35 = .ok (.iconst 1, 1) := by decide +kernel
theorem dX8_callMethod_36 : decode mX8_callMethod.2.1 36 = .ok (.istore 4, 2) := by decide +kernel
theorem dX8_callMethod_38 : decode mX8_callMethod.2.1 38 = .ok (.iload 4, 2) := by decide +kernel
theorem dX8_callMethod_40 : decode mX8_callMethod.2.1 40 = .ok (.iconst 4, 1) := by decide +kernel
theorem dX8_callMethod_41 : decode mX8_callMethod.2.1 41 = .ok (.if_icmp .ge 17, 3) := by decide +kernel
theorem dX8_callMethod_44 : decode mX8_callMethod.2.1 44 = .ok (.aload_n 0, 1) := by decide +kernel
theorem dX8_callMethod_45 : decode mX8_callMethod.2.1 45 = .ok (.iload_n 1, 1) := by decide +kernel
theorem dX8_callMethod_46 : decode mX8_callMethod.2.1 46 = .ok (.iload 4, 2) := by decide +kernel
theorem dX8_callMethod_48 : decode mX8_callMethod.2.1 48 = .ok (.iconst (-1), 1) := by decide +kernel
theorem dX8_callMethod_49 : decode mX8_callMethod.2.1 49 = .ok (.invokevirtual 94, 3) := by decide +kernel
theorem dX8_callMethod_52 : decode mX8_callMethod.2.1 52 = .ok (.iinc 4 1, 3) := by decide +kernel
theorem dX8_callMethod_55 : decode mX8_callMethod.2.1 55 = .ok (.goto (-17), 3) := by decide +kernel
theorem dX8_callMethod_58 : decode mX8_callMethod.2.1 58 = .ok (.iconst 0, 1) := by decide +kernel
theorem dX8_callMethod_59 : decode mX8_callMethod.2.1 59 = .ok (.istore 4, 2) := by decide +kernel
theorem dX8_callMethod_61 : decode mX8_callMethod.2.1 61 = .ok (.iload 4, 2) := by decide +kernel
theorem dX8_callMethod_63 : decode mX8_callMethod.2.1 63 = .ok (.aload_n 0, 1) := by decide +kernel
theorem dX8_callMethod_64 : decode mX8_callMethod.2.1 64 = .ok (.getfield 40, 3) := by decide +kernel
theorem dX8_callMethod_67 : decode mX8_callMethod.2.1 67 = .ok (.iload_n 1, 1) := by decide +kernel
theorem dX8_callMethod_68 : decode mX8_callMethod.2.1 68 = .ok (.invokevirtual 98, 3) := by decide +kernel
theorem dX8_callMethod_71 : decode mX8_callMethod.2.1 71 = .ok (.if_icmp .ge 24, 3) := by decide +kernel
theorem dX8_callMethod_74 : decode mX8_callMethod.2.1 74 = .ok (.aload_n 0, 1) := by decide +kernel
theorem dX8_callMethod_75 : decode mX8_callMethod.2.1 75 = .ok (.getfield 52, 3) := by decide +kernel
theorem dX8_callMethod_78 : decode mX8_callMethod.2.1 78 = .ok (.ifCond .ne 17, 3) := by decide +kernel
theorem dX8_callMethod_81 : decode mX8_callMethod.2.1 81 = .ok (.aload_n 0, 1) := by decide +kernel
theorem dX8_callMethod_82 : decode mX8_callMethod.2.1 82 = .ok (.iload_n 1, 1) := by decide +kernel
theorem dX8_callMethod_83 : decode mX8_callMethod.2.1 83 = .ok (.iload 4, 2) := by decide +kernel
theorem dX8_callMethod_85 : decode mX8_callMethod.2.1 85 = .ok (.iload_n 3, 1) := by decide +kernel
theorem dX8_callMethod_86 : decode mX8_callMethod.2.1 86 = .ok (.invokevirtual 102, 3) := by decide +kernel
theorem dX8_callMethod_89 : decode mX8_callMethod.2.1 89 = .ok (.iinc 4 1, 3) := by decide +kernel
theorem dX8_callMethod_92 : decode mX8_callMethod.2.1 92 = .ok (.goto (-31), 3) := by decide +kernel
theorem dX8_callMethod_95 : decode mX8_callMethod.2.1 95 = .ok (.aload_n 0, 1) := by decide +kernel
theorem dX8_callMethod_96 : decode mX8_callMethod.2.1 96 = .ok (.iload_n 1, 1) := by decide +kernel
theorem dX8_callMethod_97 : decode mX8_callMethod.2.1 97 = .ok (.iconst 3, 1) := by decide +kernel
theorem dX8_callMethod_98 : decode mX8_callMethod.2.1 98 = .ok (.invokevirtual 105, 3) := by decide +kernel
theorem dX8_callMethod_101 : decode mX8_callMethod.2.1 101 = .ok (.istore 4, 2) := by decide +kernel
theorem dX8_callMethod_103 : decode mX8_callMethod.2.1 103 = .ok (.aload_n 0, 1) := by decide +kernel
theorem dX8_callMethod_104 : decode mX8_callMethod.2.1 104 = .ok (.getfield 52, 3) := by decide +kernel
theorem dX8_callMethod_107 : decode mX8_callMethod.2.1 107 = .ok (.ifCond .ne 12, 3) := by decide +kernel
theorem dX8_callMethod_110 : decode mX8_callMethod.2.1 110 = .ok (.aload_n 0, 1) := by decide +kernel
theorem dX8_callMethod_111 : decode mX8_callMethod.2.1 111 = .ok (.iload_n 1, 1) := by decide +kernel
theorem dX8_callMethod_112 : decode mX8_callMethod.2.1 112 = .ok (.iload_n 3, 1) := by decide +kernel
theorem dX8_callMethod_113 : decode mX8_callMethod.2.1 113 = .ok (.iload_n 2, 1) := by decide +kernel
theorem dX8_callMethod_114 : decode mX8_callMethod.2.1 114 = .ok (.iload 4, 2) := by decide +kernel
theorem dX8_callMethod_116 : decode mX8_callMethod.2.1 116 = .ok (.invokevirtual 108, 3) := by decide +kernel
theorem dX8_callMethod_119 : decode mX8_callMethod.2.1 119 = .ok (.iload 4, 2) := by decide +kernel
theorem dX8_callMethod_121 : decode mX8_callMethod.2.1 121 = .ok (.ireturn, 1) := by decide +kernel
theorem dX8_doLine_0 : decode mX8_doLine.2.1 0 = .ok (.aload_n 0, 1) := by decide +kernel
theorem dX8_doLine_1 : decode mX8_doLine.2.1 1 = .ok (.getfield 40, 3) := by decide +kernel
theorem dX8_doLine_4 : decode mX8_doLine.2.1 4 = .ok (.iload_n 1, 1) := by decide +kernel
theorem dX8_doLine_5 : decode mX8_doLine.2.1 5 = .ok (.iload_n 2, 1) := by decide +kernel
theorem dX8_doLine_6 : decode mX8_doLine.2.1 6 = .ok (.invokevirtual 112, 3) := by decide +kernel
theorem dX8_doLine_9 : decode mX8_doLine.2.1 9 = .ok (.istore 4, 2) := by decide +kernel
theorem dX8_doLine_11 : decode mX8_doLine.2.1 11 = .ok (.aload_n 0, 1) := by decide +kernel
theorem dX8_doLine_12 : decode mX8_doLine.2.1 12 = .ok (.iload_n 1, 1) := by decide +kernel
theorem dX8_doLine_13 : decode mX8_doLine.2.1 13 = .ok (.iload 4, 2) := by decide +kernel
theorem dX8_doLine_15 : decode mX8_doLine.2.1 15 = .ok (.invokevirtual 105, 3) := by decide +kernel
theorem dX8_doLine_18 : decode mX8_doLine.2.1 18 = .ok (.istore 5, 2) := by decide +kernel
theorem dX8_doLine_20 : decode mX8_doLine.2.1 20 = .ok (.aload_n 0, 1) := by decide +kernel
theorem dX8_doLine_21 : decode mX8_doLine.2.1 21 = .ok (.iload_n 1, 1) := by decide +kernel
theorem dX8_doLine_22 : decode mX8_doLine.2.1 22 = .ok (.aload_n 0, 1) := by decide +kernel
theorem dX8_doLine_23 : decode mX8_doLine.2.1 23 = .ok (.getfield 40, 3) := by decide +kernel
theorem dX8_doLine_26 : decode mX8_doLine.2.1 26 = .ok (.iload_n 1, 1) := by decide +kernel
theorem dX8_doLine_27 : decode mX8_doLine.2.1 27 = .ok (.iload_n 2, 1) := by decide +kernel
theorem dX8_doLine_28 : decode mX8_doLine.2.1 28 = .ok (.invokevirtual 115, 3) := by decide +kernel
theorem dX8_doLine_31 : decode mX8_doLine.2.1 31 = .ok (.invokevirtual 105, 3) := by decide +kernel
theorem dX8_doLine_34 : decode mX8_doLine.2.1 34 = .ok (.istore 6, 2) := by decide +kernel
theorem dX8_doLine_36 : decode mX8_doLine.2.1 36 = .ok (.aload_n 0, 1) := by decide +kernel
theorem dX8_doLine_37 : decode mX8_doLine.2.1 37 = .ok (.getfield 40, 3) := by decide +kernel
theorem dX8_doLine_40 : decode mX8_doLine.2.1 40 = .ok (.iload_n 1, 1) := by decide +kernel
theorem dX8_doLine_41 : decode mX8_doLine.2.1 41 = .ok (.iload_n 2, 1) := by decide +kernel
theorem dX8_doLine_42 : decode mX8_doLine.2.1 42 = .ok (.invokevirtual 118, 3) := by decide +kernel
theorem dX8_doLine_45 : decode mX8_doLine.2.1 45 = .ok (.tableswitch 150 0 6 #[43, 67, 79, 90, 106, 115, 129], 43) := by decide +kernel
theorem dX8_doLine_88 : decode mX8_doLine.2.1 88 = .ok (.aload_n 0, 1) := by decide +kernel
theorem dX8_doLine_89 : decode mX8_doLine.2.1 89 = .ok (.iload_n 1, 1) := by decide +kernel
theorem dX8_doLine_90 : decode mX8_doLine.2.1 90 = .ok (.iload 4, 2) := by decide +kernel
theorem dX8_doLine_92 : decode mX8_doLine.2.1 92 = .ok (.aload_n 0, 1) := by decide +kernel
theorem dX8_doLine_93 : decode mX8_doLine.2.1 93 = .ok (.aload_n 0, 1) := by decide +kernel
theorem dX8_doLine_94 : decode mX8_doLine.2.1 94 = .ok (.getfield 44, 3) := by decide +kernel
theorem dX8_doLine_97 : decode mX8_doLine.2.1 97 = .ok (.iload_n 1, 1) := by decide +kernel
theorem dX8_doLine_98 : decode mX8_doLine.2.1 98 = .ok (.iload_n 2, 1) := by decide +kernel
theorem dX8_doLine_99 : decode mX8_doLine.2.1 99 = .ok (.invokevirtual 121, 3) := by decide +kernel
theorem dX8_doLine_102 : decode mX8_doLine.2.1 102 = .ok (.iload_n 3, 1) := by decide +kernel
theorem dX8_doLine_103 : decode mX8_doLine.2.1 103 = .ok (.invokevirtual 126, 3) := by decide +kernel
theorem dX8_doLine_106 : decode mX8_doLine.2.1 106 = .ok (.invokevirtual 94, 3) := by decide +kernel
theorem dX8_doLine_109 : decode mX8_doLine.2.1 109 = .ok (.goto 94, 3) := by decide +kernel
theorem dX8_doLine_112 : decode mX8_doLine.2.1 112 = .ok (.aload_n 0, 1) := by decide +kernel
theorem dX8_doLine_113 : decode mX8_doLine.2.1 113 = .ok (.iload_n 1, 1) := by decide +kernel
theorem dX8_doLine_114 : decode mX8_doLine.2.1 114 = .ok (.iload 4, 2) := by decide +kernel
theorem dX8_doLine_116 : decode mX8_doLine.2.1 116 = .ok (.iload 6, 2) := by decide +kernel
theorem dX8_doLine_118 : decode mX8_doLine.2.1 118 = .ok (.invokevirtual 94, 3) := by decide +kernel
theorem dX8_doLine_121 : decode mX8_doLine.2.1 121 = .ok (.goto 82, 3) := by decide +kernel
theorem dX8_doLine_124 : decode mX8_doLine.2.1 124 = .ok (.aload_n 0, 1) := by decide +kernel
theorem dX8_doLine_125 : decode mX8_doLine.2.1 125 = .ok (.iload 5, 2) := by decide +kernel
theorem dX8_doLine_127 : decode mX8_doLine.2.1 127 = .ok (.iload 6, 2) := by decide +kernel
theorem dX8_doLine_129 : decode mX8_doLine.2.1 129 = .ok (.invokevirtual 129, 3) := by decide +kernel
theorem dX8_doLine_132 : decode mX8_doLine.2.1 132 = .ok (.goto 71, 3) := by decide +kernel
theorem dX8_doLine_135 : decode mX8_doLine.2.1 135 = .ok (.aload_n 0, 1) := by decide +kernel
theorem dX8_doLine_136 : decode mX8_doLine.2.1 136 = .ok (.iload_n 1, 1) := by decide +kernel
theorem dX8_doLine_137 : decode mX8_doLine.2.1 137 = .ok (.iload 4, 2) := by decide +kernel
theorem dX8_doLine_139 : decode mX8_doLine.2.1 139 = .ok (.aload_n 0, 1) := by decide +kernel
theorem dX8_doLine_140 : decode mX8_doLine.2.1 140 = .ok (.iload 6, 2) := by decide +kernel
theorem dX8_doLine_142 : decode mX8_doLine.2.1 142 = .ok (.invokevirtual 133, 3) := by decide +kernel
theorem dX8_doLine_145 : decode mX8_doLine.2.1 145 = .ok (.invokevirtual 94, 3) := by decide +kernel
theorem dX8_doLine_148 : decode mX8_doLine.2.1 148 = .ok (.goto 55, 3) := by decide +kernel
theorem dX8_doLine_151 : decode mX8_doLine.2.1 151 = .ok (.aload_n 0, 1) := by decide +kernel
theorem dX8_doLine_152 : decode mX8_doLine.2.1 152 = .ok (.iload 5, 2) := by decide +kernel
theorem dX8_doLine_154 : decode mX8_doLine.2.1 154 = .ok (.putfield 15, 3) := by decide +kernel
theorem dX8_doLine_157 : decode mX8_doLine.2.1 157 = .ok (.goto 46, 3) := by decide +kernel
theorem dX8_doLine_160 : decode mX8_doLine.2.1 160 = .ok (.aload_n 0, 1) := by decide +kernel
theorem dX8_doLine_161 : decode mX8_doLine.2.1 161 = .ok (.iload_n 1, 1) := by decide +kernel
theorem dX8_doLine_162 : decode mX8_doLine.2.1 162 = .ok (.iload 4, 2) := by decide +kernel
theorem dX8_doLine_164 : decode mX8_doLine.2.1 164 = .ok (.aload_n 0, 1) := by decide +kernel
theorem dX8_doLine_165 : decode mX8_doLine.2.1 165 = .ok (.getfield 15, 3) := by decide +kernel
theorem dX8_doLine_168 : decode mX8_doLine.2.1 168 = .ok (.invokevirtual 94, 3) := by decide +kernel
theorem dX8_doLine_171 : decode mX8_doLine.2.1 171 = .ok (.goto 32, 3) := by decide +kernel
theorem dX8_doLine_174 : decode mX8_doLine.2.1 174 = .ok (.aload_n 0, 1) := by decide +kernel
theorem dX8_doLine_175 : decode mX8_doLine.2.1 175 = .ok (.iload 5, 2) := by decide +kernel
theorem dX8_doLine_177 : decode mX8_doLine.2.1 177 = .ok (.aload_n 0, 1) := by decide +kernel
theorem dX8_doLine_178 : decode mX8_doLine.2.1 178 = .ok (.getfield 48, 3) := by decide +kernel
theorem dX8_doLine_181 : decode mX8_doLine.2.1 181 = .ok (.iload_n 1, 1) := by decide +kernel
theorem dX8_doLine_182 : decode mX8_doLine.2.1 182 = .ok (.invokevirtual 136, 3) := by decide +kernel
theorem dX8_doLine_185 : decode mX8_doLine.2.1 185 = .ok (.iload_n 2, 1) := by decide +kernel
theorem dX8_doLine_186 : decode mX8_doLine.2.1 186 = .ok (.ishr, 1) := by decide +kernel
theorem dX8_doLine_187 : decode mX8_doLine.2.1 187 = .ok (.iconst 1, 1) := by decide +kernel
theorem dX8_doLine_188 : decode mX8_doLine.2.1 188 = .ok (.iand, 1) := by decide +kernel
theorem dX8_doLine_189 : decode mX8_doLine.2.1 189 = .ok (.invokevirtual 141, 3) := by decide +kernel
theorem dX8_doLine_192 : decode mX8_doLine.2.1 192 = .ok (.goto 11, 3) := by decide +kernel
theorem dX8_doLine_195 : decode mX8_doLine.2.1 195 = .ok (.aload_n 0, 1) := by decide +kernel
theorem dX8_doLine_196 : decode mX8_doLine.2.1 196 = .ok (.iload_n 1, 1) := by decide +kernel
theorem dX8_doLine_197 : decode mX8_doLine.2.1 197 = .ok (.iload_n 2, 1) := by decide +kernel
theorem dX8_doLine_198 : decode mX8_doLine.2.1 198 = .ok (.iload 6, 2) := by decide +kernel
theorem dX8_doLine_200 : decode mX8_doLine.2.1 200 = .ok (.invokevirtual 144, 3) := by decide +kernel
theorem dX8_doLine_203 : decode mX8_doLine.2.1 203 = .ok (.return_, 1) := by decide +kernel
theorem dX8_callFrom_0 : decode mX8_callFrom.2.1 0 = .ok (.aload_n 0, 1) := by decide +kernel
theorem dX8_callFrom_1 : decode mX8_callFrom.2.1 1 = .ok (.getfield 40, 3) := by decide +kernel
theorem dX8_callFrom_4 : decode mX8_callFrom.2.1 4 = .ok (.iload_n 1, 1) := by decide +kernel
theorem dX8_callFrom_5 : decode mX8_callFrom.2.1 5 = .ok (.iload_n 2, 1) := by decide +kernel
theorem dX8_callFrom_6 : decode mX8_callFrom.2.1 6 = .ok (.invokevirtual 147, 3) := by decide +kernel
theorem dX8_callFrom_9 : decode mX8_callFrom.2.1 9 = .ok (.istore 4, 2) := by decide +kernel
theorem dX8_callFrom_11 : decode mX8_callFrom.2.1 11 = .ok (.iload 4, 2) := by decide +kernel
theorem dX8_callFrom_13 : decode mX8_callFrom.2.1 13 = .ok (.iload_n 1, 1) := by decide +kernel
theorem dX8_callFrom_14 : decode mX8_callFrom.2.1 14 = .ok (.if_icmp .le 24, 3) := by decide +kernel
theorem dX8_callFrom_17 : decode mX8_callFrom.2.1 17 = .ok (.aload_n 0, 1) := by decide +kernel
theorem dX8_callFrom_18 : decode mX8_callFrom.2.1 18 = .ok (.iload_n 1, 1) := by decide +kernel
theorem dX8_callFrom_19 : decode mX8_callFrom.2.1 19 = .ok (.aload_n 0, 1) := by decide +kernel
theorem dX8_callFrom_20 : decode mX8_callFrom.2.1 20 = .ok (.getfield 40, 3) := by decide +kernel
theorem dX8_callFrom_23 : decode mX8_callFrom.2.1 23 = .ok (.iload_n 1, 1) := by decide +kernel
theorem dX8_callFrom_24 : decode mX8_callFrom.2.1 24 = .ok (.iload_n 2, 1) := by decide +kernel
theorem dX8_callFrom_25 : decode mX8_callFrom.2.1 25 = .ok (.invokevirtual 112, 3) := by decide +kernel
theorem dX8_callFrom_28 : decode mX8_callFrom.2.1 28 = .ok (.aload_n 0, 1) := by decide +kernel
theorem dX8_callFrom_29 : decode mX8_callFrom.2.1 29 = .ok (.iload 4, 2) := by decide +kernel
theorem dX8_callFrom_31 : decode mX8_callFrom.2.1 31 = .ok (.iload_n 3, 1) := by decide +kernel
theorem dX8_callFrom_32 : decode mX8_callFrom.2.1 32 = .ok (.invokevirtual 90, 3) := by decide +kernel
theorem dX8_callFrom_35 : decode mX8_callFrom.2.1 35 = .ok (.invokevirtual 94, 3) := by decide +kernel
theorem dX8_callFrom_38 : decode mX8_callFrom.2.1 38 = .ok (.return_, 1) := by decide +kernel
theorem dX8_newThing_0 : decode mX8_newThing.2.1 0 = .ok (.aload_n 0, 1) := by decide +kernel
theorem dX8_newThing_1 : decode mX8_newThing.2.1 1 = .ok (.getfield 56, 3) := by decide +kernel
theorem dX8_newThing_4 : decode mX8_newThing.2.1 4 = .ok (.sipush 4096, 3) := by decide +kernel
theorem dX8_newThing_7 : decode mX8_newThing.2.1 7 = .ok (.if_icmp .ge 12, 3) := by decide +kernel
theorem dX8_newThing_10 : decode mX8_newThing.2.1 10 = .ok (.iload_n 1, 1) := by decide +kernel
theorem dX8_newThing_11 : decode mX8_newThing.2.1 11 = .ok (.bipush 32, 2) := by decide +kernel
theorem dX8_newThing_13 : decode mX8_newThing.2.1 13 = .ok (.invokestatic 71, 3) := by decide +kernel
theorem dX8_newThing_16 : decode mX8_newThing.2.1 16 = .ok (.ifCond .eq 5, 3) := by decide +kernel
theorem dX8_newThing_19 : decode mX8_newThing.2.1 19 = .ok (.iconst (-1), 1) := by decide +kernel
theorem dX8_newThing_20 : decode mX8_newThing.2.1 20 = .ok (.ireturn, 1) := by decide +kernel
theorem dX8_newThing_21 : decode mX8_newThing.2.1 21 = .ok (.aload_n 0, 1) := by decide +kernel
theorem dX8_newThing_22 : decode mX8_newThing.2.1 22 = .ok (.getfield 56, 3) := by decide +kernel
theorem dX8_newThing_25 : decode mX8_newThing.2.1 25 = .ok (.aload_n 0, 1) := by decide +kernel
theorem dX8_newThing_26 : decode mX8_newThing.2.1 26 = .ok (.getfield 19, 3) := by decide +kernel
theorem dX8_newThing_29 : decode mX8_newThing.2.1 29 = .ok (.arraylength, 1) := by decide +kernel
theorem dX8_newThing_30 : decode mX8_newThing.2.1 30 = .ok (.if_icmp .lt 7, 3) := by decide +kernel
theorem dX8_newThing_33 : decode mX8_newThing.2.1 33 = .ok (.aload_n 0, 1) := by decide +kernel
theorem dX8_newThing_34 : decode mX8_newThing.2.1 34 = .ok (.invokevirtual 150, 3) := by decide +kernel
theorem dX8_newThing_37 : decode mX8_newThing.2.1 37 = .ok (.aload_n 0, 1) := by decide +kernel
theorem dX8_newThing_38 : decode mX8_newThing.2.1 38 = .ok (.getfield 19, 3) := by decide +kernel
theorem dX8_newThing_41 : decode mX8_newThing.2.1 41 = .ok (.aload_n 0, 1) := by decide +kernel
theorem dX8_newThing_42 : decode mX8_newThing.2.1 42 = .ok (.getfield 56, 3) := by decide +kernel
theorem dX8_newThing_45 : decode mX8_newThing.2.1 45 = .ok (.iload_n 1, 1) := by decide +kernel
theorem dX8_newThing_46 : decode mX8_newThing.2.1 46 = .ok (.iastore, 1) := by decide +kernel
theorem dX8_newThing_47 : decode mX8_newThing.2.1 47 = .ok (.aload_n 0, 1) := by decide +kernel
theorem dX8_newThing_48 : decode mX8_newThing.2.1 48 = .ok (.getfield 22, 3) := by decide +kernel
theorem dX8_newThing_51 : decode mX8_newThing.2.1 51 = .ok (.aload_n 0, 1) := by decide +kernel
theorem dX8_newThing_52 : decode mX8_newThing.2.1 52 = .ok (.getfield 56, 3) := by decide +kernel
theorem dX8_newThing_55 : decode mX8_newThing.2.1 55 = .ok (.iconst (-1), 1) := by decide +kernel
theorem dX8_newThing_56 : decode mX8_newThing.2.1 56 = .ok (.iastore, 1) := by decide +kernel
theorem dX8_newThing_57 : decode mX8_newThing.2.1 57 = .ok (.aload_n 0, 1) := by decide +kernel
theorem dX8_newThing_58 : decode mX8_newThing.2.1 58 = .ok (.getfield 25, 3) := by decide +kernel
theorem dX8_newThing_61 : decode mX8_newThing.2.1 61 = .ok (.aload_n 0, 1) := by decide +kernel
theorem dX8_newThing_62 : decode mX8_newThing.2.1 62 = .ok (.getfield 56, 3) := by decide +kernel
theorem dX8_newThing_65 : decode mX8_newThing.2.1 65 = .ok (.iload_n 2, 1) := by decide +kernel
theorem dX8_newThing_66 : decode mX8_newThing.2.1 66 = .ok (.iastore, 1) := by decide +kernel
theorem dX8_newThing_67 : decode mX8_newThing.2.1 67 = .ok (.aload_n 0, 1) := by decide +kernel
theorem dX8_newThing_68 : decode mX8_newThing.2.1 68 = .ok (.getfield 28, 3) := by decide +kernel
theorem dX8_newThing_71 : decode mX8_newThing.2.1 71 = .ok (.aload_n 0, 1) := by decide +kernel
theorem dX8_newThing_72 : decode mX8_newThing.2.1 72 = .ok (.getfield 56, 3) := by decide +kernel
theorem dX8_newThing_75 : decode mX8_newThing.2.1 75 = .ok (.iconst 0, 1) := by decide +kernel
theorem dX8_newThing_76 : decode mX8_newThing.2.1 76 = .ok (.iastore, 1) := by decide +kernel
theorem dX8_newThing_77 : decode mX8_newThing.2.1 77 = .ok (.aload_n 0, 1) := by decide +kernel
theorem dX8_newThing_78 : decode mX8_newThing.2.1 78 = .ok (.getfield 31, 3) := by decide +kernel
theorem dX8_newThing_81 : decode mX8_newThing.2.1 81 = .ok (.iload_n 1, 1) := by decide +kernel
theorem dX8_newThing_82 : decode mX8_newThing.2.1 82 = .ok (.dup2, 1) := by decide +kernel
theorem dX8_newThing_83 : decode mX8_newThing.2.1 83 = .ok (.iaload, 1) := by decide +kernel
theorem dX8_newThing_84 : decode mX8_newThing.2.1 84 = .ok (.iconst 1, 1) := by decide +kernel
theorem dX8_newThing_85 : decode mX8_newThing.2.1 85 = .ok (.iadd, 1) := by decide +kernel
theorem dX8_newThing_86 : decode mX8_newThing.2.1 86 = .ok (.iastore, 1) := by decide +kernel
theorem dX8_newThing_87 : decode mX8_newThing.2.1 87 = .ok (.aload_n 0, 1) := by decide +kernel
theorem dX8_newThing_88 : decode mX8_newThing.2.1 88 = .ok (.dup, 1) := by decide +kernel
theorem dX8_newThing_89 : decode mX8_newThing.2.1 89 = .ok (.getfield 56, 3) := by decide +kernel
theorem dX8_newThing_92 : decode mX8_newThing.2.1 92 = .ok (.iconst 1, 1) := by decide +kernel
theorem dX8_newThing_93 : decode mX8_newThing.2.1 93 = .ok (.iadd, 1) := by decide +kernel
theorem dX8_newThing_94 : decode mX8_newThing.2.1 94 = .ok (.putfield 56, 3) := by decide +kernel
theorem dX8_newThing_97 : decode mX8_newThing.2.1 97 = .ok (.aload_n 0, 1) := by decide +kernel
theorem dX8_newThing_98 : decode mX8_newThing.2.1 98 = .ok (.getfield 56, 3) := by decide +kernel
theorem dX8_newThing_101 : decode mX8_newThing.2.1 101 = .ok (.iconst 1, 1) := by decide +kernel
theorem dX8_newThing_102 : decode mX8_newThing.2.1 102 = .ok (.isub, 1) := by decide +kernel
theorem dX8_newThing_103 : decode mX8_newThing.2.1 103 = .ok (.ireturn, 1) := by decide +kernel
theorem dX8_makeMoreRoom_0 : decode mX8_makeMoreRoom.2.1 0 = .ok (.aload_n 0, 1) := by decide +kernel
theorem dX8_makeMoreRoom_1 : decode mX8_makeMoreRoom.2.1 1 = .ok (.getfield 19, 3) := by decide +kernel
theorem dX8_makeMoreRoom_4 : decode mX8_makeMoreRoom.2.1 4 = .ok (.arraylength, 1) := by decide +kernel
theorem dX8_makeMoreRoom_5 : decode mX8_makeMoreRoom.2.1 5 = .ok (.iconst 2, 1) := by decide +kernel
theorem dX8_makeMoreRoom_6 : decode mX8_makeMoreRoom.2.1 6 = .ok (.imul, 1) := by decide +kernel
theorem dX8_makeMoreRoom_7 : decode mX8_makeMoreRoom.2.1 7 = .ok (.istore_n 1, 1) := by decide +kernel
theorem dX8_makeMoreRoom_8 : decode mX8_makeMoreRoom.2.1 8 = .ok (.aload_n 0, 1) := by decide +kernel
theorem dX8_makeMoreRoom_9 : decode mX8_makeMoreRoom.2.1 9 = .ok (.aload_n 0, 1) := by decide +kernel
theorem dX8_makeMoreRoom_10 : decode mX8_makeMoreRoom.2.1 10 = .ok (.getfield 19, 3) := by decide +kernel
theorem dX8_makeMoreRoom_13 : decode mX8_makeMoreRoom.2.1 13 = .ok (.iload_n 1, 1) := by decide +kernel
theorem dX8_makeMoreRoom_14 : decode mX8_makeMoreRoom.2.1 14 = .ok (.invokestatic 153, 3) := by decide +kernel
theorem dX8_makeMoreRoom_17 : decode mX8_makeMoreRoom.2.1 17 = .ok (.putfield 19, 3) := by decide +kernel
theorem dX8_makeMoreRoom_20 : decode mX8_makeMoreRoom.2.1 20 = .ok (.aload_n 0, 1) := by decide +kernel
theorem dX8_makeMoreRoom_21 : decode mX8_makeMoreRoom.2.1 21 = .ok (.aload_n 0, 1) := by decide +kernel
theorem dX8_makeMoreRoom_22 : decode mX8_makeMoreRoom.2.1 22 = .ok (.getfield 22, 3) := by decide +kernel
theorem dX8_makeMoreRoom_25 : decode mX8_makeMoreRoom.2.1 25 = .ok (.iload_n 1, 1) := by decide +kernel
theorem dX8_makeMoreRoom_26 : decode mX8_makeMoreRoom.2.1 26 = .ok (.invokestatic 153, 3) := by decide +kernel
theorem dX8_makeMoreRoom_29 : decode mX8_makeMoreRoom.2.1 29 = .ok (.putfield 22, 3) := by decide +kernel
theorem dX8_makeMoreRoom_32 : decode mX8_makeMoreRoom.2.1 32 = .ok (.aload_n 0, 1) := by decide +kernel
theorem dX8_makeMoreRoom_33 : decode mX8_makeMoreRoom.2.1 33 = .ok (.aload_n 0, 1) := by decide +kernel
theorem dX8_makeMoreRoom_34 : decode mX8_makeMoreRoom.2.1 34 = .ok (.getfield 25, 3) := by decide +kernel
theorem dX8_makeMoreRoom_37 : decode mX8_makeMoreRoom.2.1 37 = .ok (.iload_n 1, 1) := by decide +kernel
theorem dX8_makeMoreRoom_38 : decode mX8_makeMoreRoom.2.1 38 = .ok (.invokestatic 153, 3) := by decide +kernel
theorem dX8_makeMoreRoom_41 : decode mX8_makeMoreRoom.2.1 41 = .ok (.putfield 25, 3) := by decide +kernel
theorem dX8_makeMoreRoom_44 : decode mX8_makeMoreRoom.2.1 44 = .ok (.aload_n 0, 1) := by decide +kernel
theorem dX8_makeMoreRoom_45 : decode mX8_makeMoreRoom.2.1 45 = .ok (.aload_n 0, 1) := by decide +kernel
theorem dX8_makeMoreRoom_46 : decode mX8_makeMoreRoom.2.1 46 = .ok (.getfield 28, 3) := by decide +kernel
theorem dX8_makeMoreRoom_49 : decode mX8_makeMoreRoom.2.1 49 = .ok (.iload_n 1, 1) := by decide +kernel
theorem dX8_makeMoreRoom_50 : decode mX8_makeMoreRoom.2.1 50 = .ok (.invokestatic 153, 3) := by decide +kernel
theorem dX8_makeMoreRoom_53 : decode mX8_makeMoreRoom.2.1 53 = .ok (.putfield 28, 3) := by decide +kernel
theorem dX8_makeMoreRoom_56 : decode mX8_makeMoreRoom.2.1 56 = .ok (.return_, 1) := by decide +kernel
theorem dX8_putIntoField_0 : decode mX8_putIntoField.2.1 0 = .ok (.aload_n 0, 1) := by decide +kernel
theorem dX8_putIntoField_1 : decode mX8_putIntoField.2.1 1 = .ok (.iload_n 1, 1) := by decide +kernel
theorem dX8_putIntoField_2 : decode mX8_putIntoField.2.1 2 = .ok (.invokevirtual 75, 3) := by decide +kernel
theorem dX8_putIntoField_5 : decode mX8_putIntoField.2.1 5 = .ok (.ifCond .eq 13, 3) := by decide +kernel
theorem dX8_putIntoField_8 : decode mX8_putIntoField.2.1 8 = .ok (.aload_n 0, 1) := by decide +kernel
theorem dX8_putIntoField_9 : decode mX8_putIntoField.2.1 9 = .ok (.getfield 22, 3) := by decide +kernel
theorem dX8_putIntoField_12 : decode mX8_putIntoField.2.1 12 = .ok (.iload_n 1, 1) := by decide +kernel
theorem dX8_putIntoField_13 : decode mX8_putIntoField.2.1 13 = .ok (.iload_n 2, 1) := by decide +kernel
theorem dX8_putIntoField_14 : decode mX8_putIntoField.2.1 14 = .ok (.iastore, 1) := by decide +kernel
theorem dX8_putIntoField_15 : decode mX8_putIntoField.2.1 15 = .ok (.goto 8, 3) := by decide +kernel
theorem dX8_putIntoField_18 : decode mX8_putIntoField.2.1 18 = .ok (.aload_n 0, 1) := by decide +kernel
theorem dX8_putIntoField_19 : decode mX8_putIntoField.2.1 19 = .ok (.iconst 1, 1) := by decide +kernel
theorem dX8_putIntoField_20 : decode mX8_putIntoField.2.1 20 = .ok (.putfield 52, 3) := by decide +kernel
theorem dX8_putIntoField_23 : decode mX8_putIntoField.2.1 23 = .ok (.return_, 1) := by decide +kernel
theorem dX8_takeFromField_0 : decode mX8_takeFromField.2.1 0 = .ok (.aload_n 0, 1) := by decide +kernel
theorem dX8_takeFromField_1 : decode mX8_takeFromField.2.1 1 = .ok (.iload_n 1, 1) := by decide +kernel
theorem dX8_takeFromField_2 : decode mX8_takeFromField.2.1 2 = .ok (.invokevirtual 75, 3) := by decide +kernel
theorem dX8_takeFromField_5 : decode mX8_takeFromField.2.1 5 = .ok (.ifCond .eq 10, 3) := by decide +kernel
theorem dX8_takeFromField_8 : decode mX8_takeFromField.2.1 8 = .ok (.aload_n 0, 1) := by decide +kernel
theorem dX8_takeFromField_9 : decode mX8_takeFromField.2.1 9 = .ok (.getfield 22, 3) := by decide +kernel
theorem dX8_takeFromField_12 : decode mX8_takeFromField.2.1 12 = .ok (.iload_n 1, 1) := by decide +kernel
theorem dX8_takeFromField_13 : decode mX8_takeFromField.2.1 13 = .ok (.iaload, 1) := by decide +kernel
theorem dX8_takeFromField_14 : decode mX8_takeFromField.2.1 14 = .ok (.ireturn, 1) := by decide +kernel
theorem dX8_takeFromField_15 : decode mX8_takeFromField.2.1 15 = .ok (.aload_n 0, 1) := by decide +kernel
theorem dX8_takeFromField_16 : decode mX8_takeFromField.2.1 16 = .ok (.iconst 1, 1) := by decide +kernel
theorem dX8_takeFromField_17 : decode mX8_takeFromField.2.1 17 = .ok (.putfield 52, 3) := by decide +kernel
theorem dX8_takeFromField_20 : decode mX8_takeFromField.2.1 20 = .ok (.iconst (-1), 1) := by decide +kernel
theorem dX8_takeFromField_21 : decode mX8_takeFromField.2.1 21 = .ok (.ireturn, 1) := by decide +kernel
theorem dX8_lock_0 : decode mX8_lock.2.1 0 = .ok (.aload_n 0, 1) := by decide +kernel
theorem dX8_lock_1 : decode mX8_lock.2.1 1 = .ok (.iload_n 1, 1) := by decide +kernel
theorem dX8_lock_2 : decode mX8_lock.2.1 2 = .ok (.invokevirtual 75, 3) := by decide +kernel
theorem dX8_lock_5 : decode mX8_lock.2.1 5 = .ok (.ifCond .eq 41, 3) := by decide +kernel
theorem dX8_lock_8 : decode mX8_lock.2.1 8 = .ok (.aload_n 0, 1) := by decide +kernel
theorem dX8_lock_9 : decode mX8_lock.2.1 9 = .ok (.dup, 1) := by decide +kernel
theorem dX8_lock_10 : decode mX8_lock.2.1 10 = .ok (.getfield 59, 3) := by decide +kernel
theorem dX8_lock_13 : decode mX8_lock.2.1 13 = .ok (.iconst 1, 1) := by decide +kernel
theorem dX8_lock_14 : decode mX8_lock.2.1 14 = .ok (.iadd, 1) := by decide +kernel
theorem dX8_lock_15 : decode mX8_lock.2.1 15 = .ok (.putfield 59, 3) := by decide +kernel
theorem dX8_lock_18 : decode mX8_lock.2.1 18 = .ok (.aload_n 0, 1) := by decide +kernel
theorem dX8_lock_19 : decode mX8_lock.2.1 19 = .ok (.dup, 1) := by decide +kernel
theorem dX8_lock_20 : decode mX8_lock.2.1 20 = .ok (.getfield 62, 3) := by decide +kernel
theorem dX8_lock_23 : decode mX8_lock.2.1 23 = .ok (.iload_n 2, 1) := by decide +kernel
theorem dX8_lock_24 : decode mX8_lock.2.1 24 = .ok (.iadd, 1) := by decide +kernel
theorem dX8_lock_25 : decode mX8_lock.2.1 25 = .ok (.putfield 62, 3) := by decide +kernel
theorem dX8_lock_28 : decode mX8_lock.2.1 28 = .ok (.aload_n 0, 1) := by decide +kernel
theorem dX8_lock_29 : decode mX8_lock.2.1 29 = .ok (.getfield 37, 3) := by decide +kernel
theorem dX8_lock_32 : decode mX8_lock.2.1 32 = .ok (.aload_n 0, 1) := by decide +kernel
theorem dX8_lock_33 : decode mX8_lock.2.1 33 = .ok (.getfield 19, 3) := by decide +kernel
theorem dX8_lock_36 : decode mX8_lock.2.1 36 = .ok (.iload_n 1, 1) := by decide +kernel
theorem dX8_lock_37 : decode mX8_lock.2.1 37 = .ok (.iaload, 1) := by decide +kernel
theorem dX8_lock_38 : decode mX8_lock.2.1 38 = .ok (.dup2, 1) := by decide +kernel
theorem dX8_lock_39 : decode mX8_lock.2.1 39 = .ok (.iaload, 1) := by decide +kernel
theorem dX8_lock_40 : decode mX8_lock.2.1 40 = .ok (.iconst 1, 1) := by decide +kernel
theorem dX8_lock_41 : decode mX8_lock.2.1 41 = .ok (.iadd, 1) := by decide +kernel
theorem dX8_lock_42 : decode mX8_lock.2.1 42 = .ok (.iastore, 1) := by decide +kernel
theorem dX8_lock_43 : decode mX8_lock.2.1 43 = .ok (.goto 8, 3) := by decide +kernel
theorem dX8_lock_46 : decode mX8_lock.2.1 46 = .ok (.aload_n 0, 1) := by decide +kernel
theorem dX8_lock_47 : decode mX8_lock.2.1 47 = .ok (.iconst 1, 1) := by decide +kernel
theorem dX8_lock_48 : decode mX8_lock.2.1 48 = .ok (.putfield 52, 3) := by decide +kernel
theorem dX8_lock_51 : decode mX8_lock.2.1 51 = .ok (.return_, 1) := by decide +kernel
theorem dX8_findLeaks_0 : decode mX8_findLeaks.2.1 0 = .ok (.aload_n 0, 1) := by decide +kernel
theorem dX8_findLeaks_1 : decode mX8_findLeaks.2.1 1 = .ok (.getfield 44, 3) := by decide +kernel
theorem dX8_findLeaks_4 : decode mX8_findLeaks.2.1 4 = .ok (.iload_n 1, 1) := by decide +kernel
theorem dX8_findLeaks_5 : decode mX8_findLeaks.2.1 5 = .ok (.invokevirtual 157, 3) := by decide +kernel
theorem dX8_findLeaks_8 : decode mX8_findLeaks.2.1 8 = .ok (.istore 5, 2) := by decide +kernel
theorem dX8_findLeaks_10 : decode mX8_findLeaks.2.1 10 = .ok (.aload_n 0, 1) := by decide +kernel
theorem dX8_findLeaks_11 : decode mX8_findLeaks.2.1 11 = .ok (.iload 4, 2) := by decide +kernel
theorem dX8_findLeaks_13 : decode mX8_findLeaks.2.1 13 = .ok (.iload_n 2, 1) := by decide +kernel
theorem dX8_findLeaks_14 : decode mX8_findLeaks.2.1 14 = .ok (.iload 5, 2) := by decide +kernel
theorem dX8_findLeaks_16 : decode mX8_findLeaks.2.1 16 = .ok (.invokevirtual 160, 3) := by decide +kernel
theorem dX8_findLeaks_19 : decode mX8_findLeaks.2.1 19 = .ok (.istore 5, 2) := by decide +kernel
theorem dX8_findLeaks_21 : decode mX8_findLeaks.2.1 21 = .ok (.aload_n 0, 1) := by decide +kernel
theorem dX8_findLeaks_22 : decode mX8_findLeaks.2.1 22 = .ok (.iload_n 3, 1) := by decide +kernel
theorem dX8_findLeaks_23 : decode mX8_findLeaks.2.1 23 = .ok (.iload_n 2, 1) := by decide +kernel
theorem dX8_findLeaks_24 : decode mX8_findLeaks.2.1 24 = .ok (.iload 5, 2) := by decide +kernel
theorem dX8_findLeaks_26 : decode mX8_findLeaks.2.1 26 = .ok (.invokevirtual 160, 3) := by decide +kernel
theorem dX8_findLeaks_29 : decode mX8_findLeaks.2.1 29 = .ok (.istore 5, 2) := by decide +kernel
theorem dX8_findLeaks_31 : decode mX8_findLeaks.2.1 31 = .ok (.aload_n 0, 1) := by decide +kernel
theorem dX8_findLeaks_32 : decode mX8_findLeaks.2.1 32 = .ok (.aload_n 0, 1) := by decide +kernel
theorem dX8_findLeaks_33 : decode mX8_findLeaks.2.1 33 = .ok (.getfield 15, 3) := by decide +kernel
theorem dX8_findLeaks_36 : decode mX8_findLeaks.2.1 36 = .ok (.iload_n 2, 1) := by decide +kernel
theorem dX8_findLeaks_37 : decode mX8_findLeaks.2.1 37 = .ok (.iload 5, 2) := by decide +kernel
theorem dX8_findLeaks_39 : decode mX8_findLeaks.2.1 39 = .ok (.invokevirtual 160, 3) := by decide +kernel
theorem dX8_findLeaks_42 : decode mX8_findLeaks.2.1 42 = .ok (.pop, 1) := by decide +kernel
theorem dX8_findLeaks_43 : decode mX8_findLeaks.2.1 43 = .ok (.return_, 1) := by decide +kernel
theorem dX8_followFrom_0 : decode mX8_followFrom.2.1 0 = .ok (.iload_n 3, 1) := by decide +kernel
theorem dX8_followFrom_1 : decode mX8_followFrom.2.1 1 = .ok (.istore 4, 2) := by decide +kernel
theorem dX8_followFrom_3 : decode mX8_followFrom.2.1 3 = .ok (.iload_n 1, 1) := by decide +kernel
theorem dX8_followFrom_4 : decode mX8_followFrom.2.1 4 = .ok (.istore 5, 2) := by decide +kernel
theorem dX8_followFrom_6 : decode mX8_followFrom.2.1 6 = .ok (.iconst 0, 1) := by decide +kernel
theorem dX8_followFrom_7 : decode mX8_followFrom.2.1 7 = .ok (.istore 6, 2) := by decide +kernel
theorem dX8_followFrom_9 : decode mX8_followFrom.2.1 9 = .ok (.iload 6, 2) := by decide +kernel
theorem dX8_followFrom_11 : decode mX8_followFrom.2.1 11 = .ok (.aload_n 0, 1) := by decide +kernel
theorem dX8_followFrom_12 : decode mX8_followFrom.2.1 12 = .ok (.getfield 56, 3) := by decide +kernel
theorem dX8_followFrom_15 : decode mX8_followFrom.2.1 15 = .ok (.if_icmp .ge 91, 3) := by decide +kernel
theorem dX8_followFrom_18 : decode mX8_followFrom.2.1 18 = .ok (.iload 4, 2) := by decide +kernel
theorem dX8_followFrom_20 : decode mX8_followFrom.2.1 20 = .ok (.ifCond .le 86, 3) := by decide +kernel
theorem dX8_followFrom_23 : decode mX8_followFrom.2.1 23 = .ok (.aload_n 0, 1) := by decide +kernel
theorem dX8_followFrom_24 : decode mX8_followFrom.2.1 24 = .ok (.iload 5, 2) := by decide +kernel
theorem dX8_followFrom_26 : decode mX8_followFrom.2.1 26 = .ok (.invokevirtual 75, 3) := by decide +kernel
theorem dX8_followFrom_29 : decode mX8_followFrom.2.1 29 = .ok (.ifCond .eq 77, 3) := by decide +kernel
theorem dX8_followFrom_32 : decode mX8_followFrom.2.1 32 = .ok (.aload_n 0, 1) := by decide +kernel
theorem dX8_followFrom_33 : decode mX8_followFrom.2.1 33 = .ok (.getfield 28, 3) := by decide +kernel
theorem dX8_followFrom_36 : decode mX8_followFrom.2.1 36 = .ok (.iload 5, 2) := by decide +kernel
theorem dX8_followFrom_38 : decode mX8_followFrom.2.1 38 = .ok (.iaload, 1) := by decide +kernel
theorem dX8_followFrom_39 : decode mX8_followFrom.2.1 39 = .ok (.iload_n 2, 1) := by decide +kernel
theorem dX8_followFrom_40 : decode mX8_followFrom.2.1 40 = .ok (.if_icmp .eq 66, 3) := by decide +kernel
theorem dX8_followFrom_43 : decode mX8_followFrom.2.1 43 = .ok (.aload_n 0, 1) := by decide +kernel
theorem dX8_followFrom_44 : decode mX8_followFrom.2.1 44 = .ok (.getfield 28, 3) := by decide +kernel
theorem dX8_followFrom_47 : decode mX8_followFrom.2.1 47 = .ok (.iload 5, 2) := by decide +kernel
theorem dX8_followFrom_49 : decode mX8_followFrom.2.1 49 = .ok (.iload_n 2, 1) := by decide +kernel
theorem dX8_followFrom_50 : decode mX8_followFrom.2.1 50 = .ok (.iastore, 1) := by decide +kernel
theorem dX8_followFrom_51 : decode mX8_followFrom.2.1 51 = .ok (.aload_n 0, 1) := by decide +kernel
theorem dX8_followFrom_52 : decode mX8_followFrom.2.1 52 = .ok (.getfield 25, 3) := by decide +kernel
theorem dX8_followFrom_55 : decode mX8_followFrom.2.1 55 = .ok (.iload 5, 2) := by decide +kernel
theorem dX8_followFrom_57 : decode mX8_followFrom.2.1 57 = .ok (.iaload, 1) := by decide +kernel
theorem dX8_followFrom_58 : decode mX8_followFrom.2.1 58 = .ok (.iload_n 2, 1) := by decide +kernel
theorem dX8_followFrom_59 : decode mX8_followFrom.2.1 59 = .ok (.if_icmp .ne 32, 3) := by decide +kernel
theorem dX8_followFrom_62 : decode mX8_followFrom.2.1 62 = .ok (.aload_n 0, 1) := by decide +kernel
theorem dX8_followFrom_63 : decode mX8_followFrom.2.1 63 = .ok (.dup, 1) := by decide +kernel
theorem dX8_followFrom_64 : decode mX8_followFrom.2.1 64 = .ok (.getfield 68, 3) := by decide +kernel
theorem dX8_followFrom_67 : decode mX8_followFrom.2.1 67 = .ok (.iconst 1, 1) := by decide +kernel
theorem dX8_followFrom_68 : decode mX8_followFrom.2.1 68 = .ok (.iadd, 1) := by decide +kernel
theorem dX8_followFrom_69 : decode mX8_followFrom.2.1 69 = .ok (.putfield 68, 3) := by decide +kernel
theorem dX8_followFrom_72 : decode mX8_followFrom.2.1 72 = .ok (.aload_n 0, 1) := by decide +kernel
theorem dX8_followFrom_73 : decode mX8_followFrom.2.1 73 = .ok (.getfield 34, 3) := by decide +kernel
theorem dX8_followFrom_76 : decode mX8_followFrom.2.1 76 = .ok (.aload_n 0, 1) := by decide +kernel
theorem dX8_followFrom_77 : decode mX8_followFrom.2.1 77 = .ok (.getfield 19, 3) := by decide +kernel
theorem dX8_followFrom_80 : decode mX8_followFrom.2.1 80 = .ok (.iload 5, 2) := by decide +kernel
theorem dX8_followFrom_82 : decode mX8_followFrom.2.1 82 = .ok (.iaload, 1) := by decide +kernel
theorem dX8_followFrom_83 : decode mX8_followFrom.2.1 83 = .ok (.dup2, 1) := by decide +kernel
theorem dX8_followFrom_84 : decode mX8_followFrom.2.1 84 = .ok (.iaload, 1) := by decide +kernel
theorem dX8_followFrom_85 : decode mX8_followFrom.2.1 85 = .ok (.iconst 1, 1) := by decide +kernel
theorem dX8_followFrom_86 : decode mX8_followFrom.2.1 86 = .ok (.iadd, 1) := by decide +kernel
theorem dX8_followFrom_87 : decode mX8_followFrom.2.1 87 = .ok (.iastore, 1) := by decide +kernel
theorem dX8_followFrom_88 : decode mX8_followFrom.2.1 88 = .ok (.iinc 4 (-1), 3) := by decide +kernel
theorem dX8_followFrom_91 : decode mX8_followFrom.2.1 91 = .ok (.aload_n 0, 1) := by decide +kernel
theorem dX8_followFrom_92 : decode mX8_followFrom.2.1 92 = .ok (.getfield 22, 3) := by decide +kernel
theorem dX8_followFrom_95 : decode mX8_followFrom.2.1 95 = .ok (.iload 5, 2) := by decide +kernel
theorem dX8_followFrom_97 : decode mX8_followFrom.2.1 97 = .ok (.iaload, 1) := by decide +kernel
theorem dX8_followFrom_98 : decode mX8_followFrom.2.1 98 = .ok (.istore 5, 2) := by decide +kernel
theorem dX8_followFrom_100 : decode mX8_followFrom.2.1 100 = .ok (.iinc 6 1, 3) := by decide +kernel
theorem dX8_followFrom_103 : decode mX8_followFrom.2.1 103 = .ok (.goto (-94), 3) := by decide +kernel
theorem dX8_followFrom_106 : decode mX8_followFrom.2.1 106 = .ok (.iload 4, 2) := by decide +kernel
theorem dX8_followFrom_108 : decode mX8_followFrom.2.1 108 = .ok (.ireturn, 1) := by decide +kernel
theorem dX8_isThing_0 : decode mX8_isThing.2.1 0 = .ok (.iload_n 1, 1) := by decide +kernel
theorem dX8_isThing_1 : decode mX8_isThing.2.1 1 = .ok (.ifCond .lt 15, 3) := by decide +kernel
theorem dX8_isThing_4 : decode mX8_isThing.2.1 4 = .ok (.iload_n 1, 1) := by decide +kernel
theorem dX8_isThing_5 : decode mX8_isThing.2.1 5 = .ok (.aload_n 0, 1) := by decide +kernel
theorem dX8_isThing_6 : decode mX8_isThing.2.1 6 = .ok (.getfield 56, 3) := by decide +kernel
theorem dX8_isThing_9 : decode mX8_isThing.2.1 9 = .ok (.if_icmp .ge 7, 3) := by decide +kernel
theorem dX8_isThing_12 : decode mX8_isThing.2.1 12 = .ok (.iconst 1, 1) := by decide +kernel
theorem dX8_isThing_13 : decode mX8_isThing.2.1 13 = .ok (.goto 4, 3) := by decide +kernel
theorem dX8_isThing_16 : decode mX8_isThing.2.1 16 = .ok (.iconst 0, 1) := by decide +kernel
theorem dX8_isThing_17 : decode mX8_isThing.2.1 17 = .ok (.ireturn, 1) := by decide +kernel
theorem dX8_inName_0 : decode mX8_inName.2.1 0 = .ok (.iload_n 1, 1) := by decide +kernel
theorem dX8_inName_1 : decode mX8_inName.2.1 1 = .ok (.iconst 4, 1) := by decide +kernel
theorem dX8_inName_2 : decode mX8_inName.2.1 2 = .ok (.invokestatic 71, 3) := by decide +kernel
theorem dX8_inName_5 : decode mX8_inName.2.1 5 = .ok (.ifCond .ne 11, 3) := by decide +kernel
theorem dX8_inName_8 : decode mX8_inName.2.1 8 = .ok (.iload_n 2, 1) := by decide +kernel
theorem dX8_inName_9 : decode mX8_inName.2.1 9 = .ok (.iconst 4, 1) := by decide +kernel
theorem dX8_inName_10 : decode mX8_inName.2.1 10 = .ok (.invokestatic 71, 3) := by decide +kernel
theorem dX8_inName_13 : decode mX8_inName.2.1 13 = .ok (.ifCond .eq 7, 3) := by decide +kernel
theorem dX8_inName_16 : decode mX8_inName.2.1 16 = .ok (.iconst (-1), 1) := by decide +kernel
theorem dX8_inName_17 : decode mX8_inName.2.1 17 = .ok (.goto 13, 3) := by decide +kernel
theorem dX8_inName_20 : decode mX8_inName.2.1 20 = .ok (.aload_n 0, 1) := by decide +kernel
theorem dX8_inName_21 : decode mX8_inName.2.1 21 = .ok (.getfield 9, 3) := by decide +kernel
theorem dX8_inName_24 : decode mX8_inName.2.1 24 = .ok (.iload_n 1, 1) := by decide +kernel
theorem dX8_inName_25 : decode mX8_inName.2.1 25 = .ok (.iconst 4, 1) := by decide +kernel
theorem dX8_inName_26 : decode mX8_inName.2.1 26 = .ok (.imul, 1) := by decide +kernel
theorem dX8_inName_27 : decode mX8_inName.2.1 27 = .ok (.iload_n 2, 1) := by decide +kernel
theorem dX8_inName_28 : decode mX8_inName.2.1 28 = .ok (.iadd, 1) := by decide +kernel
theorem dX8_inName_29 : decode mX8_inName.2.1 29 = .ok (.iaload, 1) := by decide +kernel
theorem dX8_inName_30 : decode mX8_inName.2.1 30 = .ok (.ireturn, 1) := by decide +kernel
theorem dX8_setName_0 : decode mX8_setName.2.1 0 = .ok (.iload_n 1, 1) := by decide +kernel
theorem dX8_setName_1 : decode mX8_setName.2.1 1 = .ok (.iconst 4, 1) := by decide +kernel
theorem dX8_setName_2 : decode mX8_setName.2.1 2 = .ok (.invokestatic 71, 3) := by decide +kernel
theorem dX8_setName_5 : decode mX8_setName.2.1 5 = .ok (.ifCond .ne 22, 3) := by decide +kernel
theorem dX8_setName_8 : decode mX8_setName.2.1 8 = .ok (.iload_n 2, 1) := by decide +kernel
theorem dX8_setName_9 : decode mX8_setName.2.1 9 = .ok (.iconst 4, 1) := by decide +kernel
theorem dX8_setName_10 : decode mX8_setName.2.1 10 = .ok (.invokestatic 71, 3) := by decide +kernel
theorem dX8_setName_13 : decode mX8_setName.2.1 13 = .ok (.ifCond .ne 14, 3) := by decide +kernel
theorem dX8_setName_16 : decode mX8_setName.2.1 16 = .ok (.aload_n 0, 1) := by decide +kernel
theorem dX8_setName_17 : decode mX8_setName.2.1 17 = .ok (.getfield 9, 3) := by decide +kernel
theorem dX8_setName_20 : decode mX8_setName.2.1 20 = .ok (.iload_n 1, 1) := by decide +kernel
theorem dX8_setName_21 : decode mX8_setName.2.1 21 = .ok (.iconst 4, 1) := by decide +kernel
theorem dX8_setName_22 : decode mX8_setName.2.1 22 = .ok (.imul, 1) := by decide +kernel
theorem dX8_setName_23 : decode mX8_setName.2.1 23 = .ok (.iload_n 2, 1) := by decide +kernel
theorem dX8_setName_24 : decode mX8_setName.2.1 24 = .ok (.iadd, 1) := by decide +kernel
theorem dX8_setName_25 : decode mX8_setName.2.1 25 = .ok (.iload_n 3, 1) := by decide +kernel
theorem dX8_setName_26 : decode mX8_setName.2.1 26 = .ok (.iastore, 1) := by decide +kernel
theorem dX8_setName_27 : decode mX8_setName.2.1 27 = .ok (.return_, 1) := by decide +kernel
