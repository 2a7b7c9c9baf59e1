theorem dX0_init_0 : decode cX0_init 0 = .ok (.aload_n 0, 1) := by decide +kernel
theorem dX0_init_1 : decode cX0_init 1 = .ok (.invokespecial 3, 3) := by decide +kernel
theorem dX0_init_4 : decode cX0_init 4 = .ok (.aload_n 0, 1) := by decide +kernel
theorem dX0_init_5 : decode cX0_init 5 = .ok (.aload_n 1, 1) := by decide +kernel
theorem dX0_init_6 : decode cX0_init 6 = .ok (.putfield 9, 3) := by decide +kernel
theorem dX0_init_9 : decode cX0_init 9 = .ok (.aload_n 0, 1) := by decide +kernel
theorem dX0_init_10 : decode cX0_init 10 = .ok (.aload_n 2, 1) := by decide +kernel
theorem dX0_init_11 : decode cX0_init 11 = .ok (.putfield 15, 3) := by decide +kernel
theorem dX0_init_14 : decode cX0_init 14 = .ok (.return_, 1) := by decide +kernel
theorem dX0_left_0 : decode cX0_left 0 = .ok (.aload_n 0, 1) := by decide +kernel
theorem dX0_left_1 : decode cX0_left 1 = .ok (.getfield 15, 3) := by decide +kernel
theorem dX0_left_4 : decode cX0_left 4 = .ok (.invokevirtual 19, 3) := by decide +kernel
theorem dX0_left_7 : decode cX0_left 7 = .ok (.aload_n 0, 1) := by decide +kernel
theorem dX0_left_8 : decode cX0_left 8 = .ok (.getfield 9, 3) := by decide +kernel
theorem dX0_left_11 : decode cX0_left 11 = .ok (.invokevirtual 24, 3) := by decide +kernel
theorem dX0_left_14 : decode cX0_left 14 = .ok (.lstore_n 1, 1) := by decide +kernel
theorem dX0_left_15 : decode cX0_left 15 = .ok (.iconst 0, 1) := by decide +kernel
theorem dX0_left_16 : decode cX0_left 16 = .ok (.istore_n 3, 1) := by decide +kernel
theorem dX0_left_17 : decode cX0_left 17 = .ok (.iload_n 3, 1) := by decide +kernel
theorem dX0_left_18 : decode cX0_left 18 = .ok (.aload_n 0, 1) := by decide +kernel
theorem dX0_left_19 : decode cX0_left 19 = .ok (.getfield 9, 3) := by decide +kernel
theorem dX0_left_22 : decode cX0_left 22 = .ok (.getfield 30, 3) := by decide +kernel
theorem dX0_left_25 : decode cX0_left 25 = .ok (.if_icmp .ge 63, 3) := by decide +kernel
theorem dX0_left_28 : decode cX0_left 28 = .ok (.aload_n 0, 1) := by decide +kernel
theorem dX0_left_29 : decode cX0_left 29 = .ok (.getfield 15, 3) := by decide +kernel
theorem dX0_left_32 : decode cX0_left 32 = .ok (.aload_n 0, 1) := by decide +kernel
theorem dX0_left_33 : decode cX0_left 33 = .ok (.getfield 9, 3) := by decide +kernel
theorem dX0_left_36 : decode cX0_left 36 = .ok (.iload_n 3, 1) := by decide +kernel
theorem dX0_left_37 : decode cX0_left 37 = .ok (.iconst 0, 1) := by decide +kernel
theorem dX0_left_38 : decode cX0_left 38 = .ok (.invokevirtual 34, 3) := by decide +kernel
theorem dX0_left_41 : decode cX0_left 41 = .ok (.aload_n 0, 1) := by decide +kernel
theorem dX0_left_42 : decode cX0_left 42 = .ok (.getfield 9, 3) := by decide +kernel
theorem dX0_left_45 : decode cX0_left 45 = .ok (.iload_n 3, 1) := by decide +kernel
theorem dX0_left_46 : decode cX0_left 46 = .ok (.iconst 1, 1) := by decide +kernel
theorem dX0_left_47 : decode cX0_left 47 = .ok (.invokevirtual 34, 3) := by decide +kernel
theorem dX0_left_50 : decode cX0_left 50 = .ok (.invokevirtual 38, 3) := by decide +kernel
theorem dX0_left_53 : decode cX0_left 53 = .ok (.lstore 4, 2) := by decide +kernel
theorem dX0_left_55 : decode cX0_left 55 = .ok (.lload_n 1, 1) := by decide +kernel
theorem dX0_left_56 : decode cX0_left 56 = .ok (.aload_n 0, 1) := by decide +kernel
theorem dX0_left_57 : decode cX0_left 57 = .ok (.getfield 9, 3) := by decide +kernel
theorem dX0_left_60 : decode cX0_left 60 = .ok (.iload_n 3, 1) := by decide +kernel
theorem dX0_left_61 : decode cX0_left 61 = .ok (.iconst 2, 1) := by decide +kernel
theorem dX0_left_62 : decode cX0_left 62 = .ok (.invokevirtual 34, 3) := by decide +kernel
theorem dX0_left_65 : decode cX0_left 65 = .ok (.iconst 1, 1) := by decide +kernel
theorem dX0_left_66 : decode cX0_left 66 = .ok (.if_icmp .ne 12, 3) := by decide +kernel
theorem dX0_left_69 : decode cX0_left 69 = .ok (.lload 4, 2) := by decide +kernel
theorem dX0_left_71 : decode cX0_left 71 = .ok (.ldc2_w 42, 3) := by decide +kernel
theorem dX0_left_74 : decode cX0_left 74 = .ok (.lxor, 1) := by decide +kernel
theorem dX0_left_75 : decode cX0_left 75 = .ok (.goto 5, 3) := by decide +kernel
theorem dX0_left_78 : decode cX0_left 78 = .ok (.lload 4, 2) := by decide +kernel
theorem dX0_left_80 : decode cX0_left 80 = .ok (.land, 1) := by decide +kernel
theorem dX0_left_81 : decode cX0_left 81 = .ok (.lstore_n 1, 1) := by decide +kernel
theorem dX0_left_82 : decode cX0_left 82 = .ok (.iinc 3 1, 3) := by decide +kernel
theorem dX0_left_85 : decode cX0_left 85 = .ok (.goto (-68), 3) := by decide +kernel
theorem dX0_left_88 : decode cX0_left 88 = .ok (.lload_n 1, 1) := by decide +kernel
theorem dX0_left_89 : decode cX0_left 89 = .ok (.lreturn, 1) := by decide +kernel
theorem dX0_cleanIn_0 : decode cX0_cleanIn 0 = .ok (.lload_n 1, 1) := by decide +kernel
theorem dX0_cleanIn_1 : decode cX0_cleanIn 1 = .ok (.aload_n 0, 1) := by decide +kernel
theorem dX0_cleanIn_2 : decode cX0_cleanIn 2 = .ok (.getfield 15, 3) := by decide +kernel
theorem dX0_cleanIn_5 : decode cX0_cleanIn 5 = .ok (.iload_n 3, 1) := by decide +kernel
theorem dX0_cleanIn_6 : decode cX0_cleanIn 6 = .ok (.iload 4, 2) := by decide +kernel
theorem dX0_cleanIn_8 : decode cX0_cleanIn 8 = .ok (.invokevirtual 38, 3) := by decide +kernel
theorem dX0_cleanIn_11 : decode cX0_cleanIn 11 = .ok (.ldc2_w 42, 3) := by decide +kernel
theorem dX0_cleanIn_14 : decode cX0_cleanIn 14 = .ok (.lxor, 1) := by decide +kernel
theorem dX0_cleanIn_15 : decode cX0_cleanIn 15 = .ok (.land, 1) := by decide +kernel
theorem dX0_cleanIn_16 : decode cX0_cleanIn 16 = .ok (.lreturn, 1) := by decide +kernel
theorem dX0_sureIn_0 : decode cX0_sureIn 0 = .ok (.lload_n 1, 1) := by decide +kernel
theorem dX0_sureIn_1 : decode cX0_sureIn 1 = .ok (.lconst 0, 1) := by decide +kernel
theorem dX0_sureIn_2 : decode cX0_sureIn 2 = .ok (.lcmp, 1) := by decide +kernel
theorem dX0_sureIn_3 : decode cX0_sureIn 3 = .ok (.ifCond .ne 6, 3) := by decide +kernel
theorem dX0_sureIn_6 : decode cX0_sureIn 6 = .ok (.bipush (-9), 2) := by decide +kernel
theorem dX0_sureIn_8 : decode cX0_sureIn 8 = .ok (.ireturn, 1) := by decide +kernel
theorem dX0_sureIn_9 : decode cX0_sureIn 9 = .ok (.aload_n 0, 1) := by decide +kernel
theorem dX0_sureIn_10 : decode cX0_sureIn 10 = .ok (.lload_n 1, 1) := by decide +kernel
theorem dX0_sureIn_11 : decode cX0_sureIn 11 = .ok (.iload_n 3, 1) := by decide +kernel
theorem dX0_sureIn_12 : decode cX0_sureIn 12 = .ok (.iload 4, 2) := by decide +kernel
theorem dX0_sureIn_14 : decode cX0_sureIn 14 = .ok (.invokevirtual 44, 3) := by decide +kernel
theorem dX0_sureIn_17 : decode cX0_sureIn 17 = .ok (.lstore 5, 2) := by decide +kernel
theorem dX0_sureIn_19 : decode cX0_sureIn 19 = .ok (.lload 5, 2) := by decide +kernel
theorem dX0_sureIn_21 : decode cX0_sureIn 21 = .ok (.lload_n 1, 1) := by decide +kernel
theorem dX0_sureIn_22 : decode cX0_sureIn 22 = .ok (.lcmp, 1) := by decide +kernel
theorem dX0_sureIn_23 : decode cX0_sureIn 23 = .ok (.ifCond .ne 5, 3) := by decide +kernel
theorem dX0_sureIn_26 : decode cX0_sureIn 26 = .ok (.iconst 2, 1) := by decide +kernel
theorem dX0_sureIn_27 : decode cX0_sureIn 27 = .ok (.ireturn, 1) := by decide +kernel
theorem dX0_sureIn_28 : decode cX0_sureIn 28 = .ok (.lload 5, 2) := by decide +kernel
theorem dX0_sureIn_30 : decode cX0_sureIn 30 = .ok (.lconst 0, 1) := by decide +kernel
theorem dX0_sureIn_31 : decode cX0_sureIn 31 = .ok (.lcmp, 1) := by decide +kernel
theorem dX0_sureIn_32 : decode cX0_sureIn 32 = .ok (.ifCond .ne 7, 3) := by decide +kernel
theorem dX0_sureIn_35 : decode cX0_sureIn 35 = .ok (.iconst 0, 1) := by decide +kernel
theorem dX0_sureIn_36 : decode cX0_sureIn 36 = .ok (.goto 4, 3) := by decide +kernel
theorem dX0_sureIn_39 : decode cX0_sureIn 39 = .ok (.iconst 1, 1) := by decide +kernel
theorem dX0_sureIn_40 : decode cX0_sureIn 40 = .ok (.ireturn, 1) := by decide +kernel
theorem dX0_judge_0 : decode cX0_judge 0 = .ok (.lload_n 1, 1) := by decide +kernel
theorem dX0_judge_1 : decode cX0_judge 1 = .ok (.lconst 0, 1) := by decide +kernel
theorem dX0_judge_2 : decode cX0_judge 2 = .ok (.lcmp, 1) := by decide +kernel
theorem dX0_judge_3 : decode cX0_judge 3 = .ok (.ifCond .ne 6, 3) := by decide +kernel
theorem dX0_judge_6 : decode cX0_judge 6 = .ok (.bipush (-9), 2) := by decide +kernel
theorem dX0_judge_8 : decode cX0_judge 8 = .ok (.ireturn, 1) := by decide +kernel
theorem dX0_judge_9 : decode cX0_judge 9 = .ok (.aload_n 0, 1) := by decide +kernel
theorem dX0_judge_10 : decode cX0_judge 10 = .ok (.getfield 9, 3) := by decide +kernel
theorem dX0_judge_13 : decode cX0_judge 13 = .ok (.aload_n 0, 1) := by decide +kernel
theorem dX0_judge_14 : decode cX0_judge 14 = .ok (.getfield 9, 3) := by decide +kernel
theorem dX0_judge_17 : decode cX0_judge 17 = .ok (.iload_n 3, 1) := by decide +kernel
theorem dX0_judge_18 : decode cX0_judge 18 = .ok (.invokevirtual 48, 3) := by decide +kernel
theorem dX0_judge_21 : decode cX0_judge 21 = .ok (.ifCond .eq 7, 3) := by decide +kernel
theorem dX0_judge_24 : decode cX0_judge 24 = .ok (.iconst 2, 1) := by decide +kernel
theorem dX0_judge_25 : decode cX0_judge 25 = .ok (.goto 4, 3) := by decide +kernel
theorem dX0_judge_28 : decode cX0_judge 28 = .ok (.iconst 1, 1) := by decide +kernel
theorem dX0_judge_29 : decode cX0_judge 29 = .ok (.invokevirtual 52, 3) := by decide +kernel
theorem dX0_judge_32 : decode cX0_judge 32 = .ok (.istore 5, 2) := by decide +kernel
theorem dX0_judge_34 : decode cX0_judge 34 = .ok (.iload 4, 2) := by decide +kernel
theorem dX0_judge_36 : decode cX0_judge 36 = .ok (.istore 6, 2) := by decide +kernel
theorem dX0_judge_38 : decode cX0_judge 38 = .ok (.iload 6, 2) := by decide +kernel
theorem dX0_judge_40 : decode cX0_judge 40 = .ok (.ifCond .lt 82, 3) := by decide +kernel
theorem dX0_judge_43 : decode cX0_judge 43 = .ok (.aload_n 0, 1) := by decide +kernel
theorem dX0_judge_44 : decode cX0_judge 44 = .ok (.lload_n 1, 1) := by decide +kernel
theorem dX0_judge_45 : decode cX0_judge 45 = .ok (.iload_n 3, 1) := by decide +kernel
theorem dX0_judge_46 : decode cX0_judge 46 = .ok (.iload 6, 2) := by decide +kernel
theorem dX0_judge_48 : decode cX0_judge 48 = .ok (.invokevirtual 56, 3) := by decide +kernel
theorem dX0_judge_51 : decode cX0_judge 51 = .ok (.istore 7, 2) := by decide +kernel
theorem dX0_judge_53 : decode cX0_judge 53 = .ok (.iload 7, 2) := by decide +kernel
theorem dX0_judge_55 : decode cX0_judge 55 = .ok (.iconst 1, 1) := by decide +kernel
theorem dX0_judge_56 : decode cX0_judge 56 = .ok (.if_icmp .eq 15, 3) := by decide +kernel
theorem dX0_judge_59 : decode cX0_judge 59 = .ok (.iload 7, 2) := by decide +kernel
theorem dX0_judge_61 : decode cX0_judge 61 = .ok (.iconst 2, 1) := by decide +kernel
theorem dX0_judge_62 : decode cX0_judge 62 = .ok (.if_icmp .ne 7, 3) := by decide +kernel
theorem dX0_judge_65 : decode cX0_judge 65 = .ok (.iconst 1, 1) := by decide +kernel
theorem dX0_judge_66 : decode cX0_judge 66 = .ok (.goto 4, 3) := by decide +kernel
theorem dX0_judge_69 : decode cX0_judge 69 = .ok (.iconst 0, 1) := by decide +kernel
theorem dX0_judge_70 : decode cX0_judge 70 = .ok (.ireturn, 1) := by decide +kernel
theorem dX0_judge_71 : decode cX0_judge 71 = .ok (.iload 5, 2) := by decide +kernel
theorem dX0_judge_73 : decode cX0_judge 73 = .ok (.iconst 2, 1) := by decide +kernel
theorem dX0_judge_74 : decode cX0_judge 74 = .ok (.if_icmp .ge 6, 3) := by decide +kernel
theorem dX0_judge_77 : decode cX0_judge 77 = .ok (.iload 5, 2) := by decide +kernel
theorem dX0_judge_79 : decode cX0_judge 79 = .ok (.ireturn, 1) := by decide +kernel
theorem dX0_judge_80 : decode cX0_judge 80 = .ok (.iload 5, 2) := by decide +kernel
theorem dX0_judge_82 : decode cX0_judge 82 = .ok (.iconst 2, 1) := by decide +kernel
theorem dX0_judge_83 : decode cX0_judge 83 = .ok (.if_icmp .ne 33, 3) := by decide +kernel
theorem dX0_judge_86 : decode cX0_judge 86 = .ok (.aload_n 0, 1) := by decide +kernel
theorem dX0_judge_87 : decode cX0_judge 87 = .ok (.lload_n 1, 1) := by decide +kernel
theorem dX0_judge_88 : decode cX0_judge 88 = .ok (.iload_n 3, 1) := by decide +kernel
theorem dX0_judge_89 : decode cX0_judge 89 = .ok (.iload 6, 2) := by decide +kernel
theorem dX0_judge_91 : decode cX0_judge 91 = .ok (.invokevirtual 44, 3) := by decide +kernel
theorem dX0_judge_94 : decode cX0_judge 94 = .ok (.invokestatic 60, 3) := by decide +kernel
theorem dX0_judge_97 : decode cX0_judge 97 = .ok (.istore 8, 2) := by decide +kernel
theorem dX0_judge_99 : decode cX0_judge 99 = .ok (.iconst 2, 1) := by decide +kernel
theorem dX0_judge_100 : decode cX0_judge 100 = .ok (.iload 8, 2) := by decide +kernel
theorem dX0_judge_102 : decode cX0_judge 102 = .ok (.imul, 1) := by decide +kernel
theorem dX0_judge_103 : decode cX0_judge 103 = .ok (.lload_n 1, 1) := by decide +kernel
theorem dX0_judge_104 : decode cX0_judge 104 = .ok (.invokestatic 60, 3) := by decide +kernel
theorem dX0_judge_107 : decode cX0_judge 107 = .ok (.if_icmp .le 7, 3) := by decide +kernel
theorem dX0_judge_110 : decode cX0_judge 110 = .ok (.iconst 1, 1) := by decide +kernel
theorem dX0_judge_111 : decode cX0_judge 111 = .ok (.goto 4, 3) := by decide +kernel
theorem dX0_judge_114 : decode cX0_judge 114 = .ok (.iconst 0, 1) := by decide +kernel
theorem dX0_judge_115 : decode cX0_judge 115 = .ok (.ireturn, 1) := by decide +kernel
theorem dX0_judge_116 : decode cX0_judge 116 = .ok (.iinc 6 (-1), 3) := by decide +kernel
theorem dX0_judge_119 : decode cX0_judge 119 = .ok (.goto (-81), 3) := by decide +kernel
theorem dX0_judge_122 : decode cX0_judge 122 = .ok (.iconst 1, 1) := by decide +kernel
theorem dX0_judge_123 : decode cX0_judge 123 = .ok (.ireturn, 1) := by decide +kernel
theorem dX0_fewestRivals_0 : decode cX0_fewestRivals 0 = .ok (.iconst 1, 1) := by decide +kernel
theorem dX0_fewestRivals_1 : decode cX0_fewestRivals 1 = .ok (.istore 4, 2) := by decide +kernel
theorem dX0_fewestRivals_3 : decode cX0_fewestRivals 3 = .ok (.iload 4, 2) := by decide +kernel
theorem dX0_fewestRivals_5 : decode cX0_fewestRivals 5 = .ok (.aload_n 0, 1) := by decide +kernel
theorem dX0_fewestRivals_6 : decode cX0_fewestRivals 6 = .ok (.getfield 9, 3) := by decide +kernel
theorem dX0_fewestRivals_9 : decode cX0_fewestRivals 9 = .ok (.getfield 66, 3) := by decide +kernel
theorem dX0_fewestRivals_12 : decode cX0_fewestRivals 12 = .ok (.if_icmp .ge 50, 3) := by decide +kernel
theorem dX0_fewestRivals_15 : decode cX0_fewestRivals 15 = .ok (.iconst 0, 1) := by decide +kernel
theorem dX0_fewestRivals_16 : decode cX0_fewestRivals 16 = .ok (.istore 5, 2) := by decide +kernel
theorem dX0_fewestRivals_18 : decode cX0_fewestRivals 18 = .ok (.iload 5, 2) := by decide +kernel
theorem dX0_fewestRivals_20 : decode cX0_fewestRivals 20 = .ok (.iload 4, 2) := by decide +kernel
theorem dX0_fewestRivals_22 : decode cX0_fewestRivals 22 = .ok (.if_icmp .ge 34, 3) := by decide +kernel
theorem dX0_fewestRivals_25 : decode cX0_fewestRivals 25 = .ok (.aload_n 0, 1) := by decide +kernel
theorem dX0_fewestRivals_26 : decode cX0_fewestRivals 26 = .ok (.lload_n 1, 1) := by decide +kernel
theorem dX0_fewestRivals_27 : decode cX0_fewestRivals 27 = .ok (.iload_n 3, 1) := by decide +kernel
theorem dX0_fewestRivals_28 : decode cX0_fewestRivals 28 = .ok (.iload 5, 2) := by decide +kernel
theorem dX0_fewestRivals_30 : decode cX0_fewestRivals 30 = .ok (.iload 4, 2) := by decide +kernel
theorem dX0_fewestRivals_32 : decode cX0_fewestRivals 32 = .ok (.iload 4, 2) := by decide +kernel
theorem dX0_fewestRivals_34 : decode cX0_fewestRivals 34 = .ok (.invokevirtual 69, 3) := by decide +kernel
theorem dX0_fewestRivals_37 : decode cX0_fewestRivals 37 = .ok (.ifCond .eq 13, 3) := by decide +kernel
theorem dX0_fewestRivals_40 : decode cX0_fewestRivals 40 = .ok (.iconst 1, 1) := by decide +kernel
theorem dX0_fewestRivals_41 : decode cX0_fewestRivals 41 = .ok (.iload 5, 2) := by decide +kernel
theorem dX0_fewestRivals_43 : decode cX0_fewestRivals 43 = .ok (.ishl, 1) := by decide +kernel
theorem dX0_fewestRivals_44 : decode cX0_fewestRivals 44 = .ok (.iconst 1, 1) := by decide +kernel
theorem dX0_fewestRivals_45 : decode cX0_fewestRivals 45 = .ok (.iload 4, 2) := by decide +kernel
theorem dX0_fewestRivals_47 : decode cX0_fewestRivals 47 = .ok (.ishl, 1) := by decide +kernel
theorem dX0_fewestRivals_48 : decode cX0_fewestRivals 48 = .ok (.ior, 1) := by decide +kernel
theorem dX0_fewestRivals_49 : decode cX0_fewestRivals 49 = .ok (.ireturn, 1) := by decide +kernel
theorem dX0_fewestRivals_50 : decode cX0_fewestRivals 50 = .ok (.iinc 5 1, 3) := by decide +kernel
theorem dX0_fewestRivals_53 : decode cX0_fewestRivals 53 = .ok (.goto (-35), 3) := by decide +kernel
theorem dX0_fewestRivals_56 : decode cX0_fewestRivals 56 = .ok (.iinc 4 1, 3) := by decide +kernel
theorem dX0_fewestRivals_59 : decode cX0_fewestRivals 59 = .ok (.goto (-56), 3) := by decide +kernel
theorem dX0_fewestRivals_62 : decode cX0_fewestRivals 62 = .ok (.iconst 2, 1) := by decide +kernel
theorem dX0_fewestRivals_63 : decode cX0_fewestRivals 63 = .ok (.istore 4, 2) := by decide +kernel
theorem dX0_fewestRivals_65 : decode cX0_fewestRivals 65 = .ok (.iload 4, 2) := by decide +kernel
theorem dX0_fewestRivals_67 : decode cX0_fewestRivals 67 = .ok (.aload_n 0, 1) := by decide +kernel
theorem dX0_fewestRivals_68 : decode cX0_fewestRivals 68 = .ok (.getfield 9, 3) := by decide +kernel
theorem dX0_fewestRivals_71 : decode cX0_fewestRivals 71 = .ok (.getfield 66, 3) := by decide +kernel
theorem dX0_fewestRivals_74 : decode cX0_fewestRivals 74 = .ok (.if_icmp .ge 71, 3) := by decide +kernel
theorem dX0_fewestRivals_77 : decode cX0_fewestRivals 77 = .ok (.iconst 1, 1) := by decide +kernel
theorem dX0_fewestRivals_78 : decode cX0_fewestRivals 78 = .ok (.istore 5, 2) := by decide +kernel
theorem dX0_fewestRivals_80 : decode cX0_fewestRivals 80 = .ok (.iload 5, 2) := by decide +kernel
theorem dX0_fewestRivals_82 : decode cX0_fewestRivals 82 = .ok (.iload 4, 2) := by decide +kernel
theorem dX0_fewestRivals_84 : decode cX0_fewestRivals 84 = .ok (.if_icmp .ge 55, 3) := by decide +kernel
theorem dX0_fewestRivals_87 : decode cX0_fewestRivals 87 = .ok (.iconst 0, 1) := by decide +kernel
theorem dX0_fewestRivals_88 : decode cX0_fewestRivals 88 = .ok (.istore 6, 2) := by decide +kernel
theorem dX0_fewestRivals_90 : decode cX0_fewestRivals 90 = .ok (.iload 6, 2) := by decide +kernel
theorem dX0_fewestRivals_92 : decode cX0_fewestRivals 92 = .ok (.iload 5, 2) := by decide +kernel
theorem dX0_fewestRivals_94 : decode cX0_fewestRivals 94 = .ok (.if_icmp .ge 39, 3) := by decide +kernel
theorem dX0_fewestRivals_97 : decode cX0_fewestRivals 97 = .ok (.aload_n 0, 1) := by decide +kernel
theorem dX0_fewestRivals_98 : decode cX0_fewestRivals 98 = .ok (.lload_n 1, 1) := by decide +kernel
theorem dX0_fewestRivals_99 : decode cX0_fewestRivals 99 = .ok (.iload_n 3, 1) := by decide +kernel
theorem dX0_fewestRivals_100 : decode cX0_fewestRivals 100 = .ok (.iload 6, 2) := by decide +kernel
theorem dX0_fewestRivals_102 : decode cX0_fewestRivals 102 = .ok (.iload 5, 2) := by decide +kernel
theorem dX0_fewestRivals_104 : decode cX0_fewestRivals 104 = .ok (.iload 4, 2) := by decide +kernel
theorem dX0_fewestRivals_106 : decode cX0_fewestRivals 106 = .ok (.invokevirtual 69, 3) := by decide +kernel
theorem dX0_fewestRivals_109 : decode cX0_fewestRivals 109 = .ok (.ifCond .eq 18, 3) := by decide +kernel
theorem dX0_fewestRivals_112 : decode cX0_fewestRivals 112 = .ok (.iconst 1, 1) := by decide +kernel
theorem dX0_fewestRivals_113 : decode cX0_fewestRivals 113 = .ok (.iload 6, 2) := by decide +kernel
theorem dX0_fewestRivals_115 : decode cX0_fewestRivals 115 = .ok (.ishl, 1) := by decide +kernel
theorem dX0_fewestRivals_116 : decode cX0_fewestRivals 116 = .ok (.iconst 1, 1) := by decide +kernel
theorem dX0_fewestRivals_117 : decode cX0_fewestRivals 117 = .ok (.iload 5, 2) := by decide +kernel
theorem dX0_fewestRivals_119 : decode cX0_fewestRivals 119 = .ok (.ishl, 1) := by decide +kernel
theorem dX0_fewestRivals_120 : decode cX0_fewestRivals 120 = .ok (.ior, 1) := by decide +kernel
theorem dX0_fewestRivals_121 : decode cX0_fewestRivals 121 = .ok (.iconst 1, 1) := by decide +kernel
theorem dX0_fewestRivals_122 : decode cX0_fewestRivals 122 = .ok (.iload 4, 2) := by decide +kernel
theorem dX0_fewestRivals_124 : decode cX0_fewestRivals 124 = .ok (.ishl, 1) := by decide +kernel
theorem dX0_fewestRivals_125 : decode cX0_fewestRivals 125 = .ok (.ior, 1) := by decide +kernel
theorem dX0_fewestRivals_126 : decode cX0_fewestRivals 126 = .ok (.ireturn, 1) := by decide +kernel
theorem dX0_fewestRivals_127 : decode cX0_fewestRivals 127 = .ok (.iinc 6 1, 3) := by decide +kernel
theorem dX0_fewestRivals_130 : decode cX0_fewestRivals 130 = .ok (.goto (-40), 3) := by decide +kernel
theorem dX0_fewestRivals_133 : decode cX0_fewestRivals 133 = .ok (.iinc 5 1, 3) := by decide +kernel
theorem dX0_fewestRivals_136 : decode cX0_fewestRivals 136 = .ok (.goto (-56), 3) := by decide +kernel
theorem dX0_fewestRivals_139 : decode cX0_fewestRivals 139 = .ok (.iinc 4 1, 3) := by decide +kernel
theorem dX0_fewestRivals_142 : decode cX0_fewestRivals 142 = .ok (.goto (-77), 3) := by decide +kernel
theorem dX0_fewestRivals_145 : decode cX0_fewestRivals 145 = .ok (.bipush (-9), 2) := by decide +kernel
theorem dX0_fewestRivals_147 : decode cX0_fewestRivals 147 = .ok (.ireturn, 1) := by decide +kernel
theorem dX0_areRivals_0 : decode cX0_areRivals 0 = .ok (.aload_n 0, 1) := by decide +kernel
theorem dX0_areRivals_1 : decode cX0_areRivals 1 = .ok (.lload_n 1, 1) := by decide +kernel
theorem dX0_areRivals_2 : decode cX0_areRivals 2 = .ok (.iload 4, 2) := by decide +kernel
theorem dX0_areRivals_4 : decode cX0_areRivals 4 = .ok (.iload_n 3, 1) := by decide +kernel
theorem dX0_areRivals_5 : decode cX0_areRivals 5 = .ok (.invokevirtual 44, 3) := by decide +kernel
theorem dX0_areRivals_8 : decode cX0_areRivals 8 = .ok (.lstore 7, 2) := by decide +kernel
theorem dX0_areRivals_10 : decode cX0_areRivals 10 = .ok (.aload_n 0, 1) := by decide +kernel
theorem dX0_areRivals_11 : decode cX0_areRivals 11 = .ok (.lload_n 1, 1) := by decide +kernel
theorem dX0_areRivals_12 : decode cX0_areRivals 12 = .ok (.iload 5, 2) := by decide +kernel
theorem dX0_areRivals_14 : decode cX0_areRivals 14 = .ok (.iload_n 3, 1) := by decide +kernel
theorem dX0_areRivals_15 : decode cX0_areRivals 15 = .ok (.invokevirtual 44, 3) := by decide +kernel
theorem dX0_areRivals_18 : decode cX0_areRivals 18 = .ok (.lstore 9, 2) := by decide +kernel
theorem dX0_areRivals_20 : decode cX0_areRivals 20 = .ok (.aload_n 0, 1) := by decide +kernel
theorem dX0_areRivals_21 : decode cX0_areRivals 21 = .ok (.lload_n 1, 1) := by decide +kernel
theorem dX0_areRivals_22 : decode cX0_areRivals 22 = .ok (.iload 6, 2) := by decide +kernel
theorem dX0_areRivals_24 : decode cX0_areRivals 24 = .ok (.iload_n 3, 1) := by decide +kernel
theorem dX0_areRivals_25 : decode cX0_areRivals 25 = .ok (.invokevirtual 44, 3) := by decide +kernel
theorem dX0_areRivals_28 : decode cX0_areRivals 28 = .ok (.lstore 11, 2) := by decide +kernel
theorem dX0_areRivals_30 : decode cX0_areRivals 30 = .ok (.lload 7, 2) := by decide +kernel
theorem dX0_areRivals_32 : decode cX0_areRivals 32 = .ok (.lconst 0, 1) := by decide +kernel
theorem dX0_areRivals_33 : decode cX0_areRivals 33 = .ok (.lcmp, 1) := by decide +kernel
theorem dX0_areRivals_34 : decode cX0_areRivals 34 = .ok (.ifCond .eq 34, 3) := by decide +kernel
theorem dX0_areRivals_37 : decode cX0_areRivals 37 = .ok (.lload 9, 2) := by decide +kernel
theorem dX0_areRivals_39 : decode cX0_areRivals 39 = .ok (.lconst 0, 1) := by decide +kernel
theorem dX0_areRivals_40 : decode cX0_areRivals 40 = .ok (.lcmp, 1) := by decide +kernel
theorem dX0_areRivals_41 : decode cX0_areRivals 41 = .ok (.ifCond .eq 27, 3) := by decide +kernel
theorem dX0_areRivals_44 : decode cX0_areRivals 44 = .ok (.lload 11, 2) := by decide +kernel
theorem dX0_areRivals_46 : decode cX0_areRivals 46 = .ok (.lconst 0, 1) := by decide +kernel
theorem dX0_areRivals_47 : decode cX0_areRivals 47 = .ok (.lcmp, 1) := by decide +kernel
theorem dX0_areRivals_48 : decode cX0_areRivals 48 = .ok (.ifCond .eq 20, 3) := by decide +kernel
theorem dX0_areRivals_51 : decode cX0_areRivals 51 = .ok (.lload 7, 2) := by decide +kernel
theorem dX0_areRivals_53 : decode cX0_areRivals 53 = .ok (.lload 9, 2) := by decide +kernel
theorem dX0_areRivals_55 : decode cX0_areRivals 55 = .ok (.land, 1) := by decide +kernel
theorem dX0_areRivals_56 : decode cX0_areRivals 56 = .ok (.lload 11, 2) := by decide +kernel
theorem dX0_areRivals_58 : decode cX0_areRivals 58 = .ok (.land, 1) := by decide +kernel
theorem dX0_areRivals_59 : decode cX0_areRivals 59 = .ok (.lconst 0, 1) := by decide +kernel
theorem dX0_areRivals_60 : decode cX0_areRivals 60 = .ok (.lcmp, 1) := by decide +kernel
theorem dX0_areRivals_61 : decode cX0_areRivals 61 = .ok (.ifCond .ne 7, 3) := by decide +kernel
theorem dX0_areRivals_64 : decode cX0_areRivals 64 = .ok (.iconst 1, 1) := by decide +kernel
theorem dX0_areRivals_65 : decode cX0_areRivals 65 = .ok (.goto 4, 3) := by decide +kernel
theorem dX0_areRivals_68 : decode cX0_areRivals 68 = .ok (.iconst 0, 1) := by decide +kernel
theorem dX0_areRivals_69 : decode cX0_areRivals 69 = .ok (.ireturn, 1) := by decide +kernel
theorem dX0_bestQuestion_0 : decode cX0_bestQuestion 0 = .ok (.lload_n 1, 1) := by decide +kernel
theorem dX0_bestQuestion_1 : decode cX0_bestQuestion 1 = .ok (.lconst 0, 1) := by decide +kernel
theorem dX0_bestQuestion_2 : decode cX0_bestQuestion 2 = .ok (.lcmp, 1) := by decide +kernel
theorem dX0_bestQuestion_3 : decode cX0_bestQuestion 3 = .ok (.ifCond .ne 6, 3) := by decide +kernel
theorem dX0_bestQuestion_6 : decode cX0_bestQuestion 6 = .ok (.bipush (-9), 2) := by decide +kernel
theorem dX0_bestQuestion_8 : decode cX0_bestQuestion 8 = .ok (.ireturn, 1) := by decide +kernel
theorem dX0_bestQuestion_9 : decode cX0_bestQuestion 9 = .ok (.aload_n 0, 1) := by decide +kernel
theorem dX0_bestQuestion_10 : decode cX0_bestQuestion 10 = .ok (.getfield 9, 3) := by decide +kernel
theorem dX0_bestQuestion_13 : decode cX0_bestQuestion 13 = .ok (.invokevirtual 73, 3) := by decide +kernel
theorem dX0_bestQuestion_16 : decode cX0_bestQuestion 16 = .ok (.istore 5, 2) := by decide +kernel
theorem dX0_bestQuestion_18 : decode cX0_bestQuestion 18 = .ok (.bipush (-9), 2) := by decide +kernel
theorem dX0_bestQuestion_20 : decode cX0_bestQuestion 20 = .ok (.istore 6, 2) := by decide +kernel
theorem dX0_bestQuestion_22 : decode cX0_bestQuestion 22 = .ok (.bipush 13, 2) := by decide +kernel
theorem dX0_bestQuestion_24 : decode cX0_bestQuestion 24 = .ok (.istore 7, 2) := by decide +kernel
theorem dX0_bestQuestion_26 : decode cX0_bestQuestion 26 = .ok (.iconst 0, 1) := by decide +kernel
theorem dX0_bestQuestion_27 : decode cX0_bestQuestion 27 = .ok (.istore 8, 2) := by decide +kernel
theorem dX0_bestQuestion_29 : decode cX0_bestQuestion 29 = .ok (.iload 8, 2) := by decide +kernel
theorem dX0_bestQuestion_31 : decode cX0_bestQuestion 31 = .ok (.bipush 6, 2) := by decide +kernel
theorem dX0_bestQuestion_33 : decode cX0_bestQuestion 33 = .ok (.if_icmp .ge 79, 3) := by decide +kernel
theorem dX0_bestQuestion_36 : decode cX0_bestQuestion 36 = .ok (.iload 5, 2) := by decide +kernel
theorem dX0_bestQuestion_38 : decode cX0_bestQuestion 38 = .ok (.iload 8, 2) := by decide +kernel
theorem dX0_bestQuestion_40 : decode cX0_bestQuestion 40 = .ok (.iushr, 1) := by decide +kernel
theorem dX0_bestQuestion_41 : decode cX0_bestQuestion 41 = .ok (.iconst 1, 1) := by decide +kernel
theorem dX0_bestQuestion_42 : decode cX0_bestQuestion 42 = .ok (.iand, 1) := by decide +kernel
theorem dX0_bestQuestion_43 : decode cX0_bestQuestion 43 = .ok (.iconst 1, 1) := by decide +kernel
theorem dX0_bestQuestion_44 : decode cX0_bestQuestion 44 = .ok (.if_icmp .ne 62, 3) := by decide +kernel
theorem dX0_bestQuestion_47 : decode cX0_bestQuestion 47 = .ok (.aload_n 0, 1) := by decide +kernel
theorem dX0_bestQuestion_48 : decode cX0_bestQuestion 48 = .ok (.lload_n 1, 1) := by decide +kernel
theorem dX0_bestQuestion_49 : decode cX0_bestQuestion 49 = .ok (.getstatic 77, 3) := by decide +kernel
theorem dX0_bestQuestion_52 : decode cX0_bestQuestion 52 = .ok (.iload 8, 2) := by decide +kernel
theorem dX0_bestQuestion_54 : decode cX0_bestQuestion 54 = .ok (.laload, 1) := by decide +kernel
theorem dX0_bestQuestion_55 : decode cX0_bestQuestion 55 = .ok (.land, 1) := by decide +kernel
theorem dX0_bestQuestion_56 : decode cX0_bestQuestion 56 = .ok (.iload_n 3, 1) := by decide +kernel
theorem dX0_bestQuestion_57 : decode cX0_bestQuestion 57 = .ok (.invokevirtual 81, 3) := by decide +kernel
theorem dX0_bestQuestion_60 : decode cX0_bestQuestion 60 = .ok (.istore 9, 2) := by decide +kernel
theorem dX0_bestQuestion_62 : decode cX0_bestQuestion 62 = .ok (.aload_n 0, 1) := by decide +kernel
theorem dX0_bestQuestion_63 : decode cX0_bestQuestion 63 = .ok (.lload_n 1, 1) := by decide +kernel
theorem dX0_bestQuestion_64 : decode cX0_bestQuestion 64 = .ok (.getstatic 77, 3) := by decide +kernel
theorem dX0_bestQuestion_67 : decode cX0_bestQuestion 67 = .ok (.iload 8, 2) := by decide +kernel
theorem dX0_bestQuestion_69 : decode cX0_bestQuestion 69 = .ok (.laload, 1) := by decide +kernel
theorem dX0_bestQuestion_70 : decode cX0_bestQuestion 70 = .ok (.ldc2_w 42, 3) := by decide +kernel
theorem dX0_bestQuestion_73 : decode cX0_bestQuestion 73 = .ok (.lxor, 1) := by decide +kernel
theorem dX0_bestQuestion_74 : decode cX0_bestQuestion 74 = .ok (.land, 1) := by decide +kernel
theorem dX0_bestQuestion_75 : decode cX0_bestQuestion 75 = .ok (.iload_n 3, 1) := by decide +kernel
theorem dX0_bestQuestion_76 : decode cX0_bestQuestion 76 = .ok (.invokevirtual 81, 3) := by decide +kernel
theorem dX0_bestQuestion_79 : decode cX0_bestQuestion 79 = .ok (.istore 10, 2) := by decide +kernel
theorem dX0_bestQuestion_81 : decode cX0_bestQuestion 81 = .ok (.iload 9, 2) := by decide +kernel
theorem dX0_bestQuestion_83 : decode cX0_bestQuestion 83 = .ok (.iload 10, 2) := by decide +kernel
theorem dX0_bestQuestion_85 : decode cX0_bestQuestion 85 = .ok (.invokestatic 85, 3) := by decide +kernel
theorem dX0_bestQuestion_88 : decode cX0_bestQuestion 88 = .ok (.iload 7, 2) := by decide +kernel
theorem dX0_bestQuestion_90 : decode cX0_bestQuestion 90 = .ok (.if_icmp .ge 16, 3) := by decide +kernel
theorem dX0_bestQuestion_93 : decode cX0_bestQuestion 93 = .ok (.iload 9, 2) := by decide +kernel
theorem dX0_bestQuestion_95 : decode cX0_bestQuestion 95 = .ok (.iload 10, 2) := by decide +kernel
theorem dX0_bestQuestion_97 : decode cX0_bestQuestion 97 = .ok (.invokestatic 85, 3) := by decide +kernel
theorem dX0_bestQuestion_100 : decode cX0_bestQuestion 100 = .ok (.istore 7, 2) := by decide +kernel
theorem dX0_bestQuestion_102 : decode cX0_bestQuestion 102 = .ok (.iload 8, 2) := by decide +kernel
theorem dX0_bestQuestion_104 : decode cX0_bestQuestion 104 = .ok (.istore 6, 2) := by decide +kernel
theorem dX0_bestQuestion_106 : decode cX0_bestQuestion 106 = .ok (.iinc 8 1, 3) := by decide +kernel
theorem dX0_bestQuestion_109 : decode cX0_bestQuestion 109 = .ok (.goto (-80), 3) := by decide +kernel
theorem dX0_bestQuestion_112 : decode cX0_bestQuestion 112 = .ok (.iload 4, 2) := by decide +kernel
theorem dX0_bestQuestion_114 : decode cX0_bestQuestion 114 = .ok (.ifCond .eq 10, 3) := by decide +kernel
theorem dX0_bestQuestion_117 : decode cX0_bestQuestion 117 = .ok (.iload 6, 2) := by decide +kernel
theorem dX0_bestQuestion_119 : decode cX0_bestQuestion 119 = .ok (.bipush (-9), 2) := by decide +kernel
theorem dX0_bestQuestion_121 : decode cX0_bestQuestion 121 = .ok (.if_icmp .ne 8, 3) := by decide +kernel
theorem dX0_bestQuestion_124 : decode cX0_bestQuestion 124 = .ok (.iload 6, 2) := by decide +kernel
theorem dX0_bestQuestion_126 : decode cX0_bestQuestion 126 = .ok (.goto 5, 3) := by decide +kernel
theorem dX0_bestQuestion_129 : decode cX0_bestQuestion 129 = .ok (.iload 7, 2) := by decide +kernel
theorem dX0_bestQuestion_131 : decode cX0_bestQuestion 131 = .ok (.ireturn, 1) := by decide +kernel
theorem dX0_inDoubt_0 : decode cX0_inDoubt 0 = .ok (.iconst 0, 1) := by decide +kernel
theorem dX0_inDoubt_1 : decode cX0_inDoubt 1 = .ok (.istore 4, 2) := by decide +kernel
theorem dX0_inDoubt_3 : decode cX0_inDoubt 3 = .ok (.iconst 0, 1) := by decide +kernel
theorem dX0_inDoubt_4 : decode cX0_inDoubt 4 = .ok (.istore 5, 2) := by decide +kernel
theorem dX0_inDoubt_6 : decode cX0_inDoubt 6 = .ok (.iload 5, 2) := by decide +kernel
theorem dX0_inDoubt_8 : decode cX0_inDoubt 8 = .ok (.aload_n 0, 1) := by decide +kernel
theorem dX0_inDoubt_9 : decode cX0_inDoubt 9 = .ok (.getfield 9, 3) := by decide +kernel
theorem dX0_inDoubt_12 : decode cX0_inDoubt 12 = .ok (.getfield 66, 3) := by decide +kernel
theorem dX0_inDoubt_15 : decode cX0_inDoubt 15 = .ok (.if_icmp .ge 24, 3) := by decide +kernel
theorem dX0_inDoubt_18 : decode cX0_inDoubt 18 = .ok (.aload_n 0, 1) := by decide +kernel
theorem dX0_inDoubt_19 : decode cX0_inDoubt 19 = .ok (.lload_n 1, 1) := by decide +kernel
theorem dX0_inDoubt_20 : decode cX0_inDoubt 20 = .ok (.iload 5, 2) := by decide +kernel
theorem dX0_inDoubt_22 : decode cX0_inDoubt 22 = .ok (.iload_n 3, 1) := by decide +kernel
theorem dX0_inDoubt_23 : decode cX0_inDoubt 23 = .ok (.invokevirtual 56, 3) := by decide +kernel
theorem dX0_inDoubt_26 : decode cX0_inDoubt 26 = .ok (.iconst 1, 1) := by decide +kernel
theorem dX0_inDoubt_27 : decode cX0_inDoubt 27 = .ok (.if_icmp .ne 6, 3) := by decide +kernel
theorem dX0_inDoubt_30 : decode cX0_inDoubt 30 = .ok (.iinc 4 1, 3) := by decide +kernel
theorem dX0_inDoubt_33 : decode cX0_inDoubt 33 = .ok (.iinc 5 1, 3) := by decide +kernel
theorem dX0_inDoubt_36 : decode cX0_inDoubt 36 = .ok (.goto (-30), 3) := by decide +kernel
theorem dX0_inDoubt_39 : decode cX0_inDoubt 39 = .ok (.iload 4, 2) := by decide +kernel
theorem dX0_inDoubt_41 : decode cX0_inDoubt 41 = .ok (.ireturn, 1) := by decide +kernel
theorem dX1_init_0 : decode cX1_init 0 = .ok (.aload_n 0, 1) := by decide +kernel
theorem dX1_init_1 : decode cX1_init 1 = .ok (.invokespecial 3, 3) := by decide +kernel
theorem dX1_init_4 : decode cX1_init 4 = .ok (.aload_n 0, 1) := by decide +kernel
theorem dX1_init_5 : decode cX1_init 5 = .ok (.bipush 80, 2) := by decide +kernel
theorem dX1_init_7 : decode cX1_init 7 = .ok (.newarray .int, 2) := by decide +kernel
theorem dX1_init_9 : decode cX1_init 9 = .ok (.putfield 9, 3) := by decide +kernel
theorem dX1_init_12 : decode cX1_init 12 = .ok (.aload_n 0, 1) := by decide +kernel
theorem dX1_init_13 : decode cX1_init 13 = .ok (.aload_n 1, 1) := by decide +kernel
theorem dX1_init_14 : decode cX1_init 14 = .ok (.putfield 15, 3) := by decide +kernel
theorem dX1_init_17 : decode cX1_init 17 = .ok (.return_, 1) := by decide +kernel
theorem dX1_append_0 : decode cX1_append 0 = .ok (.iconst 0, 1) := by decide +kernel
theorem dX1_append_1 : decode cX1_append 1 = .ok (.istore 4, 2) := by decide +kernel
theorem dX1_append_3 : decode cX1_append 3 = .ok (.iload 4, 2) := by decide +kernel
theorem dX1_append_5 : decode cX1_append 5 = .ok (.iload_n 1, 1) := by decide +kernel
theorem dX1_append_6 : decode cX1_append 6 = .ok (.if_icmp .ge 52, 3) := by decide +kernel
theorem dX1_append_9 : decode cX1_append 9 = .ok (.aload_n 0, 1) := by decide +kernel
theorem dX1_append_10 : decode cX1_append 10 = .ok (.getfield 19, 3) := by decide +kernel
theorem dX1_append_13 : decode cX1_append 13 = .ok (.aload_n 0, 1) := by decide +kernel
theorem dX1_append_14 : decode cX1_append 14 = .ok (.getfield 9, 3) := by decide +kernel
theorem dX1_append_17 : decode cX1_append 17 = .ok (.arraylength, 1) := by decide +kernel
theorem dX1_append_18 : decode cX1_append 18 = .ok (.if_icmp .ge 40, 3) := by decide +kernel
theorem dX1_append_21 : decode cX1_append 21 = .ok (.aload_n 0, 1) := by decide +kernel
theorem dX1_append_22 : decode cX1_append 22 = .ok (.getfield 9, 3) := by decide +kernel
theorem dX1_append_25 : decode cX1_append 25 = .ok (.aload_n 0, 1) := by decide +kernel
theorem dX1_append_26 : decode cX1_append 26 = .ok (.getfield 19, 3) := by decide +kernel
theorem dX1_append_29 : decode cX1_append 29 = .ok (.lload_n 2, 1) := by decide +kernel
theorem dX1_append_30 : decode cX1_append 30 = .ok (.bipush 8, 2) := by decide +kernel
theorem dX1_append_32 : decode cX1_append 32 = .ok (.iload 4, 2) := by decide +kernel
theorem dX1_append_34 : decode cX1_append 34 = .ok (.imul, 1) := by decide +kernel
theorem dX1_append_35 : decode cX1_append 35 = .ok (.lushr, 1) := by decide +kernel
theorem dX1_append_36 : decode cX1_append 36 = .ok (.l2i, 1) := by decide +kernel
theorem dX1_append_37 : decode cX1_append 37 = .ok (.sipush 255, 3) := by decide +kernel
theorem dX1_append_40 : decode cX1_append 40 = .ok (.iand, 1) := by decide +kernel
theorem dX1_append_41 : decode cX1_append 41 = .ok (.iastore, 1) := by decide +kernel
theorem dX1_append_42 : decode cX1_append 42 = .ok (.aload_n 0, 1) := by decide +kernel
theorem dX1_append_43 : decode cX1_append 43 = .ok (.dup, 1) := by decide +kernel
theorem dX1_append_44 : decode cX1_append 44 = .ok (.getfield 19, 3) := by decide +kernel
theorem dX1_append_47 : decode cX1_append 47 = .ok (.iconst 1, 1) := by decide +kernel
theorem dX1_append_48 : decode cX1_append 48 = .ok (.iadd, 1) := by decide +kernel
theorem dX1_append_49 : decode cX1_append 49 = .ok (.putfield 19, 3) := by decide +kernel
theorem dX1_append_52 : decode cX1_append 52 = .ok (.iinc 4 1, 3) := by decide +kernel
theorem dX1_append_55 : decode cX1_append 55 = .ok (.goto (-52), 3) := by decide +kernel
theorem dX1_append_58 : decode cX1_append 58 = .ok (.aload_n 0, 1) := by decide +kernel
theorem dX1_append_59 : decode cX1_append 59 = .ok (.getfield 19, 3) := by decide +kernel
theorem dX1_append_62 : decode cX1_append 62 = .ok (.ireturn, 1) := by decide +kernel
theorem dX1_readAll_0 : decode cX1_readAll 0 = .ok (.iconst 0, 1) := by decide +kernel
theorem dX1_readAll_1 : decode cX1_readAll 1 = .ok (.istore_n 1, 1) := by decide +kernel
theorem dX1_readAll_2 : decode cX1_readAll 2 = .ok (.iconst 1, 1) := by decide +kernel
theorem dX1_readAll_3 : decode cX1_readAll 3 = .ok (.istore_n 2, 1) := by decide +kernel
theorem dX1_readAll_4 : decode cX1_readAll 4 = .ok (.aload_n 0, 1) := by decide +kernel
theorem dX1_readAll_5 : decode cX1_readAll 5 = .ok (.iconst 0, 1) := by decide +kernel
theorem dX1_readAll_6 : decode cX1_readAll 6 = .ok (.putfield 23, 3) := by decide +kernel
theorem dX1_readAll_9 : decode cX1_readAll 9 = .ok (.iload_n 2, 1) := by decide +kernel
theorem dX1_readAll_10 : decode cX1_readAll 10 = .ok (.ifCond .eq 35, 3) := by decide +kernel
theorem dX1_readAll_13 : decode cX1_readAll 13 = .ok (.aload_n 0, 1) := by decide +kernel
theorem dX1_readAll_14 : decode cX1_readAll 14 = .ok (.getfield 23, 3) := by decide +kernel
theorem dX1_readAll_17 : decode cX1_readAll 17 = .ok (.aload_n 0, 1) := by decide +kernel
theorem dX1_readAll_18 : decode cX1_readAll 18 = .ok (.getfield 19, 3) := by decide +kernel
theorem dX1_readAll_21 : decode cX1_readAll 21 = .ok (.if_icmp .ge 24, 3) := by decide +kernel
theorem dX1_readAll_24 : decode cX1_readAll 24 = .ok (.iload_n 1, 1) := by decide +kernel
theorem dX1_readAll_25 : decode cX1_readAll 25 = .ok (.bipush 80, 2) := by decide +kernel
theorem dX1_readAll_27 : decode cX1_readAll 27 = .ok (.if_icmp .gt 18, 3) := by decide +kernel
theorem dX1_readAll_30 : decode cX1_readAll 30 = .ok (.aload_n 0, 1) := by decide +kernel
theorem dX1_readAll_31 : decode cX1_readAll 31 = .ok (.invokevirtual 26, 3) := by decide +kernel
theorem dX1_readAll_34 : decode cX1_readAll 34 = .ok (.istore_n 2, 1) := by decide +kernel
theorem dX1_readAll_35 : decode cX1_readAll 35 = .ok (.iload_n 2, 1) := by decide +kernel
theorem dX1_readAll_36 : decode cX1_readAll 36 = .ok (.ifCond .eq (-27), 3) := by decide +kernel
theorem dX1_readAll_39 : decode cX1_readAll 39 = .ok (.iinc 1 1, 3) := by decide +kernel
theorem dX1_readAll_42 : decode cX1_readAll 42 = .ok (.goto (-33), 3) := by decide +kernel
theorem dX1_readAll_45 : decode cX1_readAll 45 = .ok (.aload_n 0, 1) := by decide +kernel
theorem dX1_readAll_46 : decode cX1_readAll 46 = .ok (.iconst 0, 1) := by decide +kernel
theorem dX1_readAll_47 : decode cX1_readAll 47 = .ok (.putfield 19, 3) := by decide +kernel
theorem dX1_readAll_50 : decode cX1_readAll 50 = .ok (.iload_n 2, 1) := by decide +kernel
theorem dX1_readAll_51 : decode cX1_readAll 51 = .ok (.ifCond .eq 7, 3) := by decide +kernel
theorem dX1_readAll_54 : decode cX1_readAll 54 = .ok (.iload_n 1, 1) := by decide +kernel
theorem dX1_readAll_55 : decode cX1_readAll 55 = .ok (.goto 10, 3) := by decide +kernel
theorem dX1_readAll_58 : decode cX1_readAll 58 = .ok (.bipush (-20), 2) := by decide +kernel
theorem dX1_readAll_60 : decode cX1_readAll 60 = .ok (.aload_n 0, 1) := by decide +kernel
theorem dX1_readAll_61 : decode cX1_readAll 61 = .ok (.getfield 23, 3) := by decide +kernel
theorem dX1_readAll_64 : decode cX1_readAll 64 = .ok (.isub, 1) := by decide +kernel
theorem dX1_readAll_65 : decode cX1_readAll 65 = .ok (.ireturn, 1) := by decide +kernel
theorem dX1_readStatement_0 : decode cX1_readStatement 0 = .ok (.aload_n 0, 1) := by decide +kernel
theorem dX1_readStatement_1 : decode cX1_readStatement 1 = .ok (.invokevirtual 30, 3) := by decide +kernel
theorem dX1_readStatement_4 : decode cX1_readStatement 4 = .ok (.lookupswitch 51 #[(101, 41), (107, 46), (116, 36)], 36) := by decide +kernel
theorem dX1_readStatement_40 : decode cX1_readStatement 40 = .ok (.aload_n 0, 1) := by decide +kernel
theorem dX1_readStatement_41 : decode cX1_readStatement 41 = .ok (.invokevirtual 34, 3) := by decide +kernel
theorem dX1_readStatement_44 : decode cX1_readStatement 44 = .ok (.ireturn, 1) := by decide +kernel
theorem dX1_readStatement_45 : decode cX1_readStatement 45 = .ok (.aload_n 0, 1) := by decide +kernel
theorem dX1_readStatement_46 : decode cX1_readStatement 46 = .ok (.invokevirtual 37, 3) := by decide +kernel
theorem dX1_readStatement_49 : decode cX1_readStatement 49 = .ok (.ireturn, 1) := by decide +kernel
theorem dX1_readStatement_50 : decode cX1_readStatement 50 = .ok (.aload_n 0, 1) := by decide +kernel
theorem dX1_readStatement_51 : decode cX1_readStatement 51 = .ok (.invokevirtual 40, 3) := by decide +kernel
theorem dX1_readStatement_54 : decode cX1_readStatement 54 = .ok (.ireturn, 1) := by decide +kernel
theorem dX1_readStatement_55 : decode cX1_readStatement 55 = .ok (.iconst 0, 1) := by decide +kernel
theorem dX1_readStatement_56 : decode cX1_readStatement 56 = .ok (.ireturn, 1) := by decide +kernel
theorem dX1_readThing_0 : decode cX1_readThing 0 = .ok (.aload_n 0, 1) := by decide +kernel
theorem dX1_readThing_1 : decode cX1_readThing 1 = .ok (.getfield 15, 3) := by decide +kernel
theorem dX1_readThing_4 : decode cX1_readThing 4 = .ok (.getfield 43, 3) := by decide +kernel
theorem dX1_readThing_7 : decode cX1_readThing 7 = .ok (.bipush 12, 2) := by decide +kernel
theorem dX1_readThing_9 : decode cX1_readThing 9 = .ok (.if_icmp .lt 5, 3) := by decide +kernel
theorem dX1_readThing_12 : decode cX1_readThing 12 = .ok (.iconst 0, 1) := by decide +kernel
theorem dX1_readThing_13 : decode cX1_readThing 13 = .ok (.ireturn, 1) := by decide +kernel
theorem dX1_readThing_14 : decode cX1_readThing 14 = .ok (.aload_n 0, 1) := by decide +kernel
theorem dX1_readThing_15 : decode cX1_readThing 15 = .ok (.dup, 1) := by decide +kernel
theorem dX1_readThing_16 : decode cX1_readThing 16 = .ok (.getfield 23, 3) := by decide +kernel
theorem dX1_readThing_19 : decode cX1_readThing 19 = .ok (.iconst 1, 1) := by decide +kernel
theorem dX1_readThing_20 : decode cX1_readThing 20 = .ok (.iadd, 1) := by decide +kernel
theorem dX1_readThing_21 : decode cX1_readThing 21 = .ok (.putfield 23, 3) := by decide +kernel
theorem dX1_readThing_24 : decode cX1_readThing 24 = .ok (.aload_n 0, 1) := by decide +kernel
theorem dX1_readThing_25 : decode cX1_readThing 25 = .ok (.invokevirtual 48, 3) := by decide +kernel
theorem dX1_readThing_28 : decode cX1_readThing 28 = .ok (.istore_n 1, 1) := by decide +kernel
theorem dX1_readThing_29 : decode cX1_readThing 29 = .ok (.iload_n 1, 1) := by decide +kernel
theorem dX1_readThing_30 : decode cX1_readThing 30 = .ok (.ifCond .lt 24, 3) := by decide +kernel
theorem dX1_readThing_33 : decode cX1_readThing 33 = .ok (.iload_n 1, 1) := by decide +kernel
theorem dX1_readThing_34 : decode cX1_readThing 34 = .ok (.bipush 6, 2) := by decide +kernel
theorem dX1_readThing_36 : decode cX1_readThing 36 = .ok (.if_icmp .ge 18, 3) := by decide +kernel
theorem dX1_readThing_39 : decode cX1_readThing 39 = .ok (.iload_n 1, 1) := by decide +kernel
theorem dX1_readThing_40 : decode cX1_readThing 40 = .ok (.iconst 5, 1) := by decide +kernel
theorem dX1_readThing_41 : decode cX1_readThing 41 = .ok (.if_icmp .ne 15, 3) := by decide +kernel
theorem dX1_readThing_44 : decode cX1_readThing 44 = .ok (.aload_n 0, 1) := by decide +kernel
theorem dX1_readThing_45 : decode cX1_readThing 45 = .ok (.getfield 15, 3) := by decide +kernel
theorem dX1_readThing_48 : decode cX1_readThing 48 = .ok (.invokevirtual 51, 3) := by decide +kernel
theorem dX1_readThing_51 : decode cX1_readThing 51 = .ok (.ifCond .ne 5, 3) := by decide +kernel
theorem dX1_readThing_54 : decode cX1_readThing 54 = .ok (.iconst 0, 1) := by decide +kernel
theorem dX1_readThing_55 : decode cX1_readThing 55 = .ok (.ireturn, 1) := by decide +kernel
theorem dX1_readThing_56 : decode cX1_readThing 56 = .ok (.aload_n 0, 1) := by decide +kernel
theorem dX1_readThing_57 : decode cX1_readThing 57 = .ok (.dup, 1) := by decide +kernel
theorem dX1_readThing_58 : decode cX1_readThing 58 = .ok (.getfield 23, 3) := by decide +kernel
theorem dX1_readThing_61 : decode cX1_readThing 61 = .ok (.iconst 1, 1) := by decide +kernel
theorem dX1_readThing_62 : decode cX1_readThing 62 = .ok (.iadd, 1) := by decide +kernel
theorem dX1_readThing_63 : decode cX1_readThing 63 = .ok (.putfield 23, 3) := by decide +kernel
theorem dX1_readThing_66 : decode cX1_readThing 66 = .ok (.aload_n 0, 1) := by decide +kernel
theorem dX1_readThing_67 : decode cX1_readThing 67 = .ok (.bipush 119, 2) := by decide +kernel
theorem dX1_readThing_69 : decode cX1_readThing 69 = .ok (.invokevirtual 54, 3) := by decide +kernel
theorem dX1_readThing_72 : decode cX1_readThing 72 = .ok (.istore_n 2, 1) := by decide +kernel
theorem dX1_readThing_73 : decode cX1_readThing 73 = .ok (.aload_n 0, 1) := by decide +kernel
theorem dX1_readThing_74 : decode cX1_readThing 74 = .ok (.bipush 112, 2) := by decide +kernel
theorem dX1_readThing_76 : decode cX1_readThing 76 = .ok (.invokevirtual 54, 3) := by decide +kernel
theorem dX1_readThing_79 : decode cX1_readThing 79 = .ok (.istore_n 3, 1) := by decide +kernel
theorem dX1_readThing_80 : decode cX1_readThing 80 = .ok (.aload_n 0, 1) := by decide +kernel
theorem dX1_readThing_81 : decode cX1_readThing 81 = .ok (.bipush 59, 2) := by decide +kernel
theorem dX1_readThing_83 : decode cX1_readThing 83 = .ok (.invokevirtual 54, 3) := by decide +kernel
theorem dX1_readThing_86 : decode cX1_readThing 86 = .ok (.ifCond .ne 5, 3) := by decide +kernel
theorem dX1_readThing_89 : decode cX1_readThing 89 = .ok (.iconst 0, 1) := by decide +kernel
theorem dX1_readThing_90 : decode cX1_readThing 90 = .ok (.ireturn, 1) := by decide +kernel
theorem dX1_readThing_91 : decode cX1_readThing 91 = .ok (.aload_n 0, 1) := by decide +kernel
theorem dX1_readThing_92 : decode cX1_readThing 92 = .ok (.getfield 15, 3) := by decide +kernel
theorem dX1_readThing_95 : decode cX1_readThing 95 = .ok (.iload_n 1, 1) := by decide +kernel
theorem dX1_readThing_96 : decode cX1_readThing 96 = .ok (.iload_n 2, 1) := by decide +kernel
theorem dX1_readThing_97 : decode cX1_readThing 97 = .ok (.iload_n 3, 1) := by decide +kernel
theorem dX1_readThing_98 : decode cX1_readThing 98 = .ok (.invokevirtual 58, 3) := by decide +kernel
theorem dX1_readThing_101 : decode cX1_readThing 101 = .ok (.pop, 1) := by decide +kernel
theorem dX1_readThing_102 : decode cX1_readThing 102 = .ok (.iconst 1, 1) := by decide +kernel
theorem dX1_readThing_103 : decode cX1_readThing 103 = .ok (.ireturn, 1) := by decide +kernel
theorem dX1_readTaken_0 : decode cX1_readTaken 0 = .ok (.aload_n 0, 1) := by decide +kernel
theorem dX1_readTaken_1 : decode cX1_readTaken 1 = .ok (.dup, 1) := by decide +kernel
theorem dX1_readTaken_2 : decode cX1_readTaken 2 = .ok (.getfield 23, 3) := by decide +kernel
theorem dX1_readTaken_5 : decode cX1_readTaken 5 = .ok (.iconst 1, 1) := by decide +kernel
theorem dX1_readTaken_6 : decode cX1_readTaken 6 = .ok (.iadd, 1) := by decide +kernel
theorem dX1_readTaken_7 : decode cX1_readTaken 7 = .ok (.putfield 23, 3) := by decide +kernel
theorem dX1_readTaken_10 : decode cX1_readTaken 10 = .ok (.aload_n 0, 1) := by decide +kernel
theorem dX1_readTaken_11 : decode cX1_readTaken 11 = .ok (.invokevirtual 48, 3) := by decide +kernel
theorem dX1_readTaken_14 : decode cX1_readTaken 14 = .ok (.istore_n 1, 1) := by decide +kernel
theorem dX1_readTaken_15 : decode cX1_readTaken 15 = .ok (.iload_n 1, 1) := by decide +kernel
theorem dX1_readTaken_16 : decode cX1_readTaken 16 = .ok (.ifCond .lt 9, 3) := by decide +kernel
theorem dX1_readTaken_19 : decode cX1_readTaken 19 = .ok (.iload_n 1, 1) := by decide +kernel
theorem dX1_readTaken_20 : decode cX1_readTaken 20 = .ok (.bipush 6, 2) := by decide +kernel
theorem dX1_readTaken_22 : decode cX1_readTaken 22 = .ok (.if_icmp .lt 5, 3) := by decide +kernel
theorem dX1_readTaken_25 : decode cX1_readTaken 25 = .ok (.iconst 0, 1) := by decide +kernel
theorem dX1_readTaken_26 : decode cX1_readTaken 26 = .ok (.ireturn, 1) := by decide +kernel
theorem dX1_readTaken_27 : decode cX1_readTaken 27 = .ok (.aload_n 0, 1) := by decide +kernel
theorem dX1_readTaken_28 : decode cX1_readTaken 28 = .ok (.dup, 1) := by decide +kernel
theorem dX1_readTaken_29 : decode cX1_readTaken 29 = .ok (.getfield 23, 3) := by decide +kernel
theorem dX1_readTaken_32 : decode cX1_readTaken 32 = .ok (.iconst 1, 1) := by decide +kernel
theorem dX1_readTaken_33 : decode cX1_readTaken 33 = .ok (.iadd, 1) := by decide +kernel
theorem dX1_readTaken_34 : decode cX1_readTaken 34 = .ok (.putfield 23, 3) := by decide +kernel
theorem dX1_readTaken_37 : decode cX1_readTaken 37 = .ok (.aload_n 0, 1) := by decide +kernel
theorem dX1_readTaken_38 : decode cX1_readTaken 38 = .ok (.invokevirtual 48, 3) := by decide +kernel
theorem dX1_readTaken_41 : decode cX1_readTaken 41 = .ok (.istore_n 2, 1) := by decide +kernel
theorem dX1_readTaken_42 : decode cX1_readTaken 42 = .ok (.iload_n 2, 1) := by decide +kernel
theorem dX1_readTaken_43 : decode cX1_readTaken 43 = .ok (.ifCond .lt 8, 3) := by decide +kernel
theorem dX1_readTaken_46 : decode cX1_readTaken 46 = .ok (.iload_n 2, 1) := by decide +kernel
theorem dX1_readTaken_47 : decode cX1_readTaken 47 = .ok (.iconst 4, 1) := by decide +kernel
theorem dX1_readTaken_48 : decode cX1_readTaken 48 = .ok (.if_icmp .le 5, 3) := by decide +kernel
theorem dX1_readTaken_51 : decode cX1_readTaken 51 = .ok (.iconst 0, 1) := by decide +kernel
theorem dX1_readTaken_52 : decode cX1_readTaken 52 = .ok (.ireturn, 1) := by decide +kernel
theorem dX1_readTaken_53 : decode cX1_readTaken 53 = .ok (.aload_n 0, 1) := by decide +kernel
theorem dX1_readTaken_54 : decode cX1_readTaken 54 = .ok (.dup, 1) := by decide +kernel
theorem dX1_readTaken_55 : decode cX1_readTaken 55 = .ok (.getfield 23, 3) := by decide +kernel
theorem dX1_readTaken_58 : decode cX1_readTaken 58 = .ok (.iconst 1, 1) := by decide +kernel
theorem dX1_readTaken_59 : decode cX1_readTaken 59 = .ok (.iadd, 1) := by decide +kernel
theorem dX1_readTaken_60 : decode cX1_readTaken 60 = .ok (.putfield 23, 3) := by decide +kernel
theorem dX1_readTaken_63 : decode cX1_readTaken 63 = .ok (.aload_n 0, 1) := by decide +kernel
theorem dX1_readTaken_64 : decode cX1_readTaken 64 = .ok (.bipush 59, 2) := by decide +kernel
theorem dX1_readTaken_66 : decode cX1_readTaken 66 = .ok (.invokevirtual 54, 3) := by decide +kernel
theorem dX1_readTaken_69 : decode cX1_readTaken 69 = .ok (.ifCond .ne 5, 3) := by decide +kernel
theorem dX1_readTaken_72 : decode cX1_readTaken 72 = .ok (.iconst 0, 1) := by decide +kernel
theorem dX1_readTaken_73 : decode cX1_readTaken 73 = .ok (.ireturn, 1) := by decide +kernel
theorem dX1_readTaken_74 : decode cX1_readTaken 74 = .ok (.aload_n 0, 1) := by decide +kernel
theorem dX1_readTaken_75 : decode cX1_readTaken 75 = .ok (.getfield 15, 3) := by decide +kernel
theorem dX1_readTaken_78 : decode cX1_readTaken 78 = .ok (.iload_n 1, 1) := by decide +kernel
theorem dX1_readTaken_79 : decode cX1_readTaken 79 = .ok (.iload_n 2, 1) := by decide +kernel
theorem dX1_readTaken_80 : decode cX1_readTaken 80 = .ok (.invokevirtual 62, 3) := by decide +kernel
theorem dX1_readTaken_83 : decode cX1_readTaken 83 = .ok (.pop, 1) := by decide +kernel
theorem dX1_readTaken_84 : decode cX1_readTaken 84 = .ok (.iconst 1, 1) := by decide +kernel
theorem dX1_readTaken_85 : decode cX1_readTaken 85 = .ok (.ireturn, 1) := by decide +kernel
theorem dX1_readEvent_0 : decode cX1_readEvent 0 = .ok (.aload_n 0, 1) := by decide +kernel
theorem dX1_readEvent_1 : decode cX1_readEvent 1 = .ok (.getfield 15, 3) := by decide +kernel
theorem dX1_readEvent_4 : decode cX1_readEvent 4 = .ok (.getfield 66, 3) := by decide +kernel
theorem dX1_readEvent_7 : decode cX1_readEvent 7 = .ok (.bipush 60, 2) := by decide +kernel
theorem dX1_readEvent_9 : decode cX1_readEvent 9 = .ok (.if_icmp .lt 5, 3) := by decide +kernel
theorem dX1_readEvent_12 : decode cX1_readEvent 12 = .ok (.iconst 0, 1) := by decide +kernel
theorem dX1_readEvent_13 : decode cX1_readEvent 13 = .ok (.ireturn, 1) := by decide +kernel
theorem dX1_readEvent_14 : decode cX1_readEvent 14 = .ok (.aload_n 0, 1) := by decide +kernel
theorem dX1_readEvent_15 : decode cX1_readEvent 15 = .ok (.dup, 1) := by decide +kernel
theorem dX1_readEvent_16 : decode cX1_readEvent 16 = .ok (.getfield 23, 3) := by decide +kernel
theorem dX1_readEvent_19 : decode cX1_readEvent 19 = .ok (.iconst 1, 1) := by decide +kernel
theorem dX1_readEvent_20 : decode cX1_readEvent 20 = .ok (.iadd, 1) := by decide +kernel
theorem dX1_readEvent_21 : decode cX1_readEvent 21 = .ok (.putfield 23, 3) := by decide +kernel
theorem dX1_readEvent_24 : decode cX1_readEvent 24 = .ok (.aload_n 0, 1) := by decide +kernel
theorem dX1_readEvent_25 : decode cX1_readEvent 25 = .ok (.iconst 0, 1) := by decide +kernel
theorem dX1_readEvent_26 : decode cX1_readEvent 26 = .ok (.bipush 47, 2) := by decide +kernel
theorem dX1_readEvent_28 : decode cX1_readEvent 28 = .ok (.iconst (-1), 1) := by decide +kernel
theorem dX1_readEvent_29 : decode cX1_readEvent 29 = .ok (.invokevirtual 69, 3) := by decide +kernel
theorem dX1_readEvent_32 : decode cX1_readEvent 32 = .ok (.istore_n 1, 1) := by decide +kernel
theorem dX1_readEvent_33 : decode cX1_readEvent 33 = .ok (.iload_n 1, 1) := by decide +kernel
theorem dX1_readEvent_34 : decode cX1_readEvent 34 = .ok (.bipush (-2), 2) := by decide +kernel
theorem dX1_readEvent_36 : decode cX1_readEvent 36 = .ok (.if_icmp .eq 12, 3) := by decide +kernel
theorem dX1_readEvent_39 : decode cX1_readEvent 39 = .ok (.aload_n 0, 1) := by decide +kernel
theorem dX1_readEvent_40 : decode cX1_readEvent 40 = .ok (.bipush 44, 2) := by decide +kernel
theorem dX1_readEvent_42 : decode cX1_readEvent 42 = .ok (.invokevirtual 54, 3) := by decide +kernel
theorem dX1_readEvent_45 : decode cX1_readEvent 45 = .ok (.ifCond .ne 5, 3) := by decide +kernel
theorem dX1_readEvent_48 : decode cX1_readEvent 48 = .ok (.iconst 0, 1) := by decide +kernel
theorem dX1_readEvent_49 : decode cX1_readEvent 49 = .ok (.ireturn, 1) := by decide +kernel
theorem dX1_readEvent_50 : decode cX1_readEvent 50 = .ok (.aload_n 0, 1) := by decide +kernel
theorem dX1_readEvent_51 : decode cX1_readEvent 51 = .ok (.invokevirtual 48, 3) := by decide +kernel
theorem dX1_readEvent_54 : decode cX1_readEvent 54 = .ok (.istore_n 2, 1) := by decide +kernel
theorem dX1_readEvent_55 : decode cX1_readEvent 55 = .ok (.iload_n 2, 1) := by decide +kernel
theorem dX1_readEvent_56 : decode cX1_readEvent 56 = .ok (.ifCond .ge 5, 3) := by decide +kernel
theorem dX1_readEvent_59 : decode cX1_readEvent 59 = .ok (.iconst 0, 1) := by decide +kernel
theorem dX1_readEvent_60 : decode cX1_readEvent 60 = .ok (.ireturn, 1) := by decide +kernel
theorem dX1_readEvent_61 : decode cX1_readEvent 61 = .ok (.aload_n 0, 1) := by decide +kernel
theorem dX1_readEvent_62 : decode cX1_readEvent 62 = .ok (.dup, 1) := by decide +kernel
theorem dX1_readEvent_63 : decode cX1_readEvent 63 = .ok (.getfield 23, 3) := by decide +kernel
theorem dX1_readEvent_66 : decode cX1_readEvent 66 = .ok (.iconst 1, 1) := by decide +kernel
theorem dX1_readEvent_67 : decode cX1_readEvent 67 = .ok (.iadd, 1) := by decide +kernel
theorem dX1_readEvent_68 : decode cX1_readEvent 68 = .ok (.putfield 23, 3) := by decide +kernel
theorem dX1_readEvent_71 : decode cX1_readEvent 71 = .ok (.aload_n 0, 1) := by decide +kernel
theorem dX1_readEvent_72 : decode cX1_readEvent 72 = .ok (.bipush 44, 2) := by decide +kernel
theorem dX1_readEvent_74 : decode cX1_readEvent 74 = .ok (.invokevirtual 54, 3) := by decide +kernel
theorem dX1_readEvent_77 : decode cX1_readEvent 77 = .ok (.ifCond .ne 5, 3) := by decide +kernel
theorem dX1_readEvent_80 : decode cX1_readEvent 80 = .ok (.iconst 0, 1) := by decide +kernel
theorem dX1_readEvent_81 : decode cX1_readEvent 81 = .ok (.ireturn, 1) := by decide +kernel
theorem dX1_readEvent_82 : decode cX1_readEvent 82 = .ok (.aload_n 0, 1) := by decide +kernel
theorem dX1_readEvent_83 : decode cX1_readEvent 83 = .ok (.iconst 0, 1) := by decide +kernel
theorem dX1_readEvent_84 : decode cX1_readEvent 84 = .ok (.aload_n 0, 1) := by decide +kernel
theorem dX1_readEvent_85 : decode cX1_readEvent 85 = .ok (.getfield 15, 3) := by decide +kernel
theorem dX1_readEvent_88 : decode cX1_readEvent 88 = .ok (.getfield 43, 3) := by decide +kernel
theorem dX1_readEvent_91 : decode cX1_readEvent 91 = .ok (.iconst 1, 1) := by decide +kernel
theorem dX1_readEvent_92 : decode cX1_readEvent 92 = .ok (.isub, 1) := by decide +kernel
theorem dX1_readEvent_93 : decode cX1_readEvent 93 = .ok (.iconst (-1), 1) := by decide +kernel
theorem dX1_readEvent_94 : decode cX1_readEvent 94 = .ok (.invokevirtual 69, 3) := by decide +kernel
theorem dX1_readEvent_97 : decode cX1_readEvent 97 = .ok (.istore_n 3, 1) := by decide +kernel
theorem dX1_readEvent_98 : decode cX1_readEvent 98 = .ok (.iload_n 3, 1) := by decide +kernel
theorem dX1_readEvent_99 : decode cX1_readEvent 99 = .ok (.bipush (-2), 2) := by decide +kernel
theorem dX1_readEvent_101 : decode cX1_readEvent 101 = .ok (.if_icmp .ne 5, 3) := by decide +kernel
theorem dX1_readEvent_104 : decode cX1_readEvent 104 = .ok (.iconst 0, 1) := by decide +kernel
theorem dX1_readEvent_105 : decode cX1_readEvent 105 = .ok (.ireturn, 1) := by decide +kernel
theorem dX1_readEvent_106 : decode cX1_readEvent 106 = .ok (.bipush (-9), 2) := by decide +kernel
theorem dX1_readEvent_108 : decode cX1_readEvent 108 = .ok (.istore 4, 2) := by decide +kernel
theorem dX1_readEvent_110 : decode cX1_readEvent 110 = .ok (.iload_n 2, 1) := by decide +kernel
theorem dX1_readEvent_111 : decode cX1_readEvent 111 = .ok (.invokestatic 73, 3) := by decide +kernel
theorem dX1_readEvent_114 : decode cX1_readEvent 114 = .ok (.ifCond .eq 56, 3) := by decide +kernel
theorem dX1_readEvent_117 : decode cX1_readEvent 117 = .ok (.aload_n 0, 1) := by decide +kernel
theorem dX1_readEvent_118 : decode cX1_readEvent 118 = .ok (.bipush 44, 2) := by decide +kernel
theorem dX1_readEvent_120 : decode cX1_readEvent 120 = .ok (.invokevirtual 54, 3) := by decide +kernel
theorem dX1_readEvent_123 : decode cX1_readEvent 123 = .ok (.ifCond .ne 5, 3) := by decide +kernel
theorem dX1_readEvent_126 : decode cX1_readEvent 126 = .ok (.iconst 0, 1) := by decide +kernel
theorem dX1_readEvent_127 : decode cX1_readEvent 127 = .ok (.ireturn, 1) := by decide +kernel
theorem dX1_readEvent_128 : decode cX1_readEvent 128 = .ok (.iload_n 2, 1) := by decide +kernel
theorem dX1_readEvent_129 : decode cX1_readEvent 129 = .ok (.bipush 9, 2) := by decide +kernel
theorem dX1_readEvent_131 : decode cX1_readEvent 131 = .ok (.if_icmp .ne 13, 3) := by decide +kernel
theorem dX1_readEvent_134 : decode cX1_readEvent 134 = .ok (.aload_n 0, 1) := by decide +kernel
theorem dX1_readEvent_135 : decode cX1_readEvent 135 = .ok (.iconst 1, 1) := by decide +kernel
theorem dX1_readEvent_136 : decode cX1_readEvent 136 = .ok (.iconst 4, 1) := by decide +kernel
theorem dX1_readEvent_137 : decode cX1_readEvent 137 = .ok (.iconst (-1), 1) := by decide +kernel
theorem dX1_readEvent_138 : decode cX1_readEvent 138 = .ok (.invokevirtual 69, 3) := by decide +kernel
theorem dX1_readEvent_141 : decode cX1_readEvent 141 = .ok (.goto 18, 3) := by decide +kernel
theorem dX1_readEvent_144 : decode cX1_readEvent 144 = .ok (.aload_n 0, 1) := by decide +kernel
theorem dX1_readEvent_145 : decode cX1_readEvent 145 = .ok (.iconst 0, 1) := by decide +kernel
theorem dX1_readEvent_146 : decode cX1_readEvent 146 = .ok (.aload_n 0, 1) := by decide +kernel
theorem dX1_readEvent_147 : decode cX1_readEvent 147 = .ok (.getfield 15, 3) := by decide +kernel
theorem dX1_readEvent_150 : decode cX1_readEvent 150 = .ok (.getfield 43, 3) := by decide +kernel
theorem dX1_readEvent_153 : decode cX1_readEvent 153 = .ok (.iconst 1, 1) := by decide +kernel
theorem dX1_readEvent_154 : decode cX1_readEvent 154 = .ok (.isub, 1) := by decide +kernel
theorem dX1_readEvent_155 : decode cX1_readEvent 155 = .ok (.iload_n 3, 1) := by decide +kernel
theorem dX1_readEvent_156 : decode cX1_readEvent 156 = .ok (.invokevirtual 69, 3) := by decide +kernel
theorem dX1_readEvent_159 : decode cX1_readEvent 159 = .ok (.istore 4, 2) := by decide +kernel
theorem dX1_readEvent_161 : decode cX1_readEvent 161 = .ok (.iload 4, 2) := by decide +kernel
theorem dX1_readEvent_163 : decode cX1_readEvent 163 = .ok (.bipush (-2), 2) := by decide +kernel
theorem dX1_readEvent_165 : decode cX1_readEvent 165 = .ok (.if_icmp .ne 5, 3) := by decide +kernel
theorem dX1_readEvent_168 : decode cX1_readEvent 168 = .ok (.iconst 0, 1) := by decide +kernel
theorem dX1_readEvent_169 : decode cX1_readEvent 169 = .ok (.ireturn, 1) := by decide +kernel
theorem dX1_readEvent_170 : decode cX1_readEvent 170 = .ok (.aload_n 0, 1) := by decide +kernel
theorem dX1_readEvent_171 : decode cX1_readEvent 171 = .ok (.invokevirtual 77, 3) := by decide +kernel
theorem dX1_readEvent_174 : decode cX1_readEvent 174 = .ok (.istore 5, 2) := by decide +kernel
theorem dX1_readEvent_176 : decode cX1_readEvent 176 = .ok (.iload 5, 2) := by decide +kernel
theorem dX1_readEvent_178 : decode cX1_readEvent 178 = .ok (.bipush (-2), 2) := by decide +kernel
theorem dX1_readEvent_180 : decode cX1_readEvent 180 = .ok (.if_icmp .eq 12, 3) := by decide +kernel
theorem dX1_readEvent_183 : decode cX1_readEvent 183 = .ok (.aload_n 0, 1) := by decide +kernel
theorem dX1_readEvent_184 : decode cX1_readEvent 184 = .ok (.bipush 59, 2) := by decide +kernel
theorem dX1_readEvent_186 : decode cX1_readEvent 186 = .ok (.invokevirtual 54, 3) := by decide +kernel
theorem dX1_readEvent_189 : decode cX1_readEvent 189 = .ok (.ifCond .ne 5, 3) := by decide +kernel
theorem dX1_readEvent_192 : decode cX1_readEvent 192 = .ok (.iconst 0, 1) := by decide +kernel
theorem dX1_readEvent_193 : decode cX1_readEvent 193 = .ok (.ireturn, 1) := by decide +kernel
theorem dX1_readEvent_194 : decode cX1_readEvent 194 = .ok (.aload_n 0, 1) := by decide +kernel
theorem dX1_readEvent_195 : decode cX1_readEvent 195 = .ok (.getfield 15, 3) := by decide +kernel
theorem dX1_readEvent_198 : decode cX1_readEvent 198 = .ok (.iload_n 1, 1) := by decide +kernel
theorem dX1_readEvent_199 : decode cX1_readEvent 199 = .ok (.iload_n 2, 1) := by decide +kernel
theorem dX1_readEvent_200 : decode cX1_readEvent 200 = .ok (.iload_n 3, 1) := by decide +kernel
theorem dX1_readEvent_201 : decode cX1_readEvent 201 = .ok (.iload 4, 2) := by decide +kernel
theorem dX1_readEvent_203 : decode cX1_readEvent 203 = .ok (.iload 5, 2) := by decide +kernel
theorem dX1_readEvent_205 : decode cX1_readEvent 205 = .ok (.invokevirtual 80, 3) := by decide +kernel
theorem dX1_readEvent_208 : decode cX1_readEvent 208 = .ok (.pop, 1) := by decide +kernel
theorem dX1_readEvent_209 : decode cX1_readEvent 209 = .ok (.iconst 1, 1) := by decide +kernel
theorem dX1_readEvent_210 : decode cX1_readEvent 210 = .ok (.ireturn, 1) := by decide +kernel
theorem dX1_readUnknown_0 : decode cX1_readUnknown 0 = .ok (.aload_n 0, 1) := by decide +kernel
theorem dX1_readUnknown_1 : decode cX1_readUnknown 1 = .ok (.invokevirtual 30, 3) := by decide +kernel
theorem dX1_readUnknown_4 : decode cX1_readUnknown 4 = .ok (.istore_n 1, 1) := by decide +kernel
theorem dX1_readUnknown_5 : decode cX1_readUnknown 5 = .ok (.iload_n 1, 1) := by decide +kernel
theorem dX1_readUnknown_6 : decode cX1_readUnknown 6 = .ok (.bipush 63, 2) := by decide +kernel
theorem dX1_readUnknown_8 : decode cX1_readUnknown 8 = .ok (.if_icmp .eq 11, 3) := by decide +kernel
theorem dX1_readUnknown_11 : decode cX1_readUnknown 11 = .ok (.iload_n 1, 1) := by decide +kernel
theorem dX1_readUnknown_12 : decode cX1_readUnknown 12 = .ok (.bipush 33, 2) := by decide +kernel
theorem dX1_readUnknown_14 : decode cX1_readUnknown 14 = .ok (.if_icmp .eq 5, 3) := by decide +kernel
theorem dX1_readUnknown_17 : decode cX1_readUnknown 17 = .ok (.iconst (-1), 1) := by decide +kernel
theorem dX1_readUnknown_18 : decode cX1_readUnknown 18 = .ok (.ireturn, 1) := by decide +kernel
theorem dX1_readUnknown_19 : decode cX1_readUnknown 19 = .ok (.aload_n 0, 1) := by decide +kernel
theorem dX1_readUnknown_20 : decode cX1_readUnknown 20 = .ok (.dup, 1) := by decide +kernel
theorem dX1_readUnknown_21 : decode cX1_readUnknown 21 = .ok (.getfield 23, 3) := by decide +kernel
theorem dX1_readUnknown_24 : decode cX1_readUnknown 24 = .ok (.iconst 1, 1) := by decide +kernel
theorem dX1_readUnknown_25 : decode cX1_readUnknown 25 = .ok (.iadd, 1) := by decide +kernel
theorem dX1_readUnknown_26 : decode cX1_readUnknown 26 = .ok (.putfield 23, 3) := by decide +kernel
theorem dX1_readUnknown_29 : decode cX1_readUnknown 29 = .ok (.aload_n 0, 1) := by decide +kernel
theorem dX1_readUnknown_30 : decode cX1_readUnknown 30 = .ok (.invokevirtual 48, 3) := by decide +kernel
theorem dX1_readUnknown_33 : decode cX1_readUnknown 33 = .ok (.istore_n 2, 1) := by decide +kernel
theorem dX1_readUnknown_34 : decode cX1_readUnknown 34 = .ok (.iload_n 2, 1) := by decide +kernel
theorem dX1_readUnknown_35 : decode cX1_readUnknown 35 = .ok (.ifCond .lt 9, 3) := by decide +kernel
theorem dX1_readUnknown_38 : decode cX1_readUnknown 38 = .ok (.iload_n 2, 1) := by decide +kernel
theorem dX1_readUnknown_39 : decode cX1_readUnknown 39 = .ok (.bipush 6, 2) := by decide +kernel
theorem dX1_readUnknown_41 : decode cX1_readUnknown 41 = .ok (.if_icmp .lt 6, 3) := by decide +kernel
theorem dX1_readUnknown_44 : decode cX1_readUnknown 44 = .ok (.bipush (-2), 2) := by decide +kernel
theorem dX1_readUnknown_46 : decode cX1_readUnknown 46 = .ok (.ireturn, 1) := by decide +kernel
theorem dX1_readUnknown_47 : decode cX1_readUnknown 47 = .ok (.aload_n 0, 1) := by decide +kernel
theorem dX1_readUnknown_48 : decode cX1_readUnknown 48 = .ok (.dup, 1) := by decide +kernel
theorem dX1_readUnknown_49 : decode cX1_readUnknown 49 = .ok (.getfield 23, 3) := by decide +kernel
theorem dX1_readUnknown_52 : decode cX1_readUnknown 52 = .ok (.iconst 1, 1) := by decide +kernel
theorem dX1_readUnknown_53 : decode cX1_readUnknown 53 = .ok (.iadd, 1) := by decide +kernel
theorem dX1_readUnknown_54 : decode cX1_readUnknown 54 = .ok (.putfield 23, 3) := by decide +kernel
theorem dX1_readUnknown_57 : decode cX1_readUnknown 57 = .ok (.iload_n 1, 1) := by decide +kernel
theorem dX1_readUnknown_58 : decode cX1_readUnknown 58 = .ok (.bipush 63, 2) := by decide +kernel
theorem dX1_readUnknown_60 : decode cX1_readUnknown 60 = .ok (.if_icmp .ne 7, 3) := by decide +kernel
theorem dX1_readUnknown_63 : decode cX1_readUnknown 63 = .ok (.iload_n 2, 1) := by decide +kernel
theorem dX1_readUnknown_64 : decode cX1_readUnknown 64 = .ok (.goto 7, 3) := by decide +kernel
theorem dX1_readUnknown_67 : decode cX1_readUnknown 67 = .ok (.bipush 10, 2) := by decide +kernel
theorem dX1_readUnknown_69 : decode cX1_readUnknown 69 = .ok (.iload_n 2, 1) := by decide +kernel
theorem dX1_readUnknown_70 : decode cX1_readUnknown 70 = .ok (.iadd, 1) := by decide +kernel
theorem dX1_readUnknown_71 : decode cX1_readUnknown 71 = .ok (.ireturn, 1) := by decide +kernel
theorem dX1_readNumber_0 : decode cX1_readNumber 0 = .ok (.aload_n 0, 1) := by decide +kernel
theorem dX1_readNumber_1 : decode cX1_readNumber 1 = .ok (.getfield 23, 3) := by decide +kernel
theorem dX1_readNumber_4 : decode cX1_readNumber 4 = .ok (.istore 4, 2) := by decide +kernel
theorem dX1_readNumber_6 : decode cX1_readNumber 6 = .ok (.aload_n 0, 1) := by decide +kernel
theorem dX1_readNumber_7 : decode cX1_readNumber 7 = .ok (.invokevirtual 48, 3) := by decide +kernel
theorem dX1_readNumber_10 : decode cX1_readNumber 10 = .ok (.istore 5, 2) := by decide +kernel
theorem dX1_readNumber_12 : decode cX1_readNumber 12 = .ok (.iload 5, 2) := by decide +kernel
theorem dX1_readNumber_14 : decode cX1_readNumber 14 = .ok (.ifCond .ge 6, 3) := by decide +kernel
theorem dX1_readNumber_17 : decode cX1_readNumber 17 = .ok (.bipush (-2), 2) := by decide +kernel
theorem dX1_readNumber_19 : decode cX1_readNumber 19 = .ok (.ireturn, 1) := by decide +kernel
theorem dX1_readNumber_20 : decode cX1_readNumber 20 = .ok (.aload_n 0, 1) := by decide +kernel
theorem dX1_readNumber_21 : decode cX1_readNumber 21 = .ok (.dup, 1) := by decide +kernel
theorem dX1_readNumber_22 : decode cX1_readNumber 22 = .ok (.getfield 23, 3) := by decide +kernel
theorem dX1_readNumber_25 : decode cX1_readNumber 25 = .ok (.iconst 1, 1) := by decide +kernel
theorem dX1_readNumber_26 : decode cX1_readNumber 26 = .ok (.iadd, 1) := by decide +kernel
theorem dX1_readNumber_27 : decode cX1_readNumber 27 = .ok (.putfield 23, 3) := by decide +kernel
theorem dX1_readNumber_30 : decode cX1_readNumber 30 = .ok (.aload_n 0, 1) := by decide +kernel
theorem dX1_readNumber_31 : decode cX1_readNumber 31 = .ok (.invokevirtual 48, 3) := by decide +kernel
theorem dX1_readNumber_34 : decode cX1_readNumber 34 = .ok (.istore 6, 2) := by decide +kernel
theorem dX1_readNumber_36 : decode cX1_readNumber 36 = .ok (.iload 5, 2) := by decide +kernel
theorem dX1_readNumber_38 : decode cX1_readNumber 38 = .ok (.ifCond .le 28, 3) := by decide +kernel
theorem dX1_readNumber_41 : decode cX1_readNumber 41 = .ok (.iload 6, 2) := by decide +kernel
theorem dX1_readNumber_43 : decode cX1_readNumber 43 = .ok (.ifCond .lt 23, 3) := by decide +kernel
theorem dX1_readNumber_46 : decode cX1_readNumber 46 = .ok (.iload 5, 2) := by decide +kernel
theorem dX1_readNumber_48 : decode cX1_readNumber 48 = .ok (.bipush 10, 2) := by decide +kernel
theorem dX1_readNumber_50 : decode cX1_readNumber 50 = .ok (.imul, 1) := by decide +kernel
theorem dX1_readNumber_51 : decode cX1_readNumber 51 = .ok (.iload 6, 2) := by decide +kernel
theorem dX1_readNumber_53 : decode cX1_readNumber 53 = .ok (.iadd, 1) := by decide +kernel
theorem dX1_readNumber_54 : decode cX1_readNumber 54 = .ok (.istore 5, 2) := by decide +kernel
theorem dX1_readNumber_56 : decode cX1_readNumber 56 = .ok (.aload_n 0, 1) := by decide +kernel
theorem dX1_readNumber_57 : decode cX1_readNumber 57 = .ok (.dup, 1) := by decide +kernel
theorem dX1_readNumber_58 : decode cX1_readNumber 58 = .ok (.getfield 23, 3) := by decide +kernel
theorem dX1_readNumber_61 : decode cX1_readNumber 61 = .ok (.iconst 1, 1) := by decide +kernel
theorem dX1_readNumber_62 : decode cX1_readNumber 62 = .ok (.iadd, 1) := by decide +kernel
theorem dX1_readNumber_63 : decode cX1_readNumber 63 = .ok (.putfield 23, 3) := by decide +kernel
theorem dX1_readNumber_66 : decode cX1_readNumber 66 = .ok (.iload 5, 2) := by decide +kernel
theorem dX1_readNumber_68 : decode cX1_readNumber 68 = .ok (.iload_n 1, 1) := by decide +kernel
theorem dX1_readNumber_69 : decode cX1_readNumber 69 = .ok (.if_icmp .lt 15, 3) := by decide +kernel
theorem dX1_readNumber_72 : decode cX1_readNumber 72 = .ok (.iload 5, 2) := by decide +kernel
theorem dX1_readNumber_74 : decode cX1_readNumber 74 = .ok (.iload_n 2, 1) := by decide +kernel
theorem dX1_readNumber_75 : decode cX1_readNumber 75 = .ok (.if_icmp .gt 9, 3) := by decide +kernel
theorem dX1_readNumber_78 : decode cX1_readNumber 78 = .ok (.iload 5, 2) := by decide +kernel
theorem dX1_readNumber_80 : decode cX1_readNumber 80 = .ok (.iload_n 3, 1) := by decide +kernel
theorem dX1_readNumber_81 : decode cX1_readNumber 81 = .ok (.if_icmp .ne 12, 3) := by decide +kernel
theorem dX1_readNumber_84 : decode cX1_readNumber 84 = .ok (.aload_n 0, 1) := by decide +kernel
theorem dX1_readNumber_85 : decode cX1_readNumber 85 = .ok (.iload 4, 2) := by decide +kernel
theorem dX1_readNumber_87 : decode cX1_readNumber 87 = .ok (.putfield 23, 3) := by decide +kernel
theorem dX1_readNumber_90 : decode cX1_readNumber 90 = .ok (.bipush (-2), 2) := by decide +kernel
theorem dX1_readNumber_92 : decode cX1_readNumber 92 = .ok (.ireturn, 1) := by decide +kernel
theorem dX1_readNumber_93 : decode cX1_readNumber 93 = .ok (.iload 5, 2) := by decide +kernel
theorem dX1_readNumber_95 : decode cX1_readNumber 95 = .ok (.ireturn, 1) := by decide +kernel
theorem dX1_sign_0 : decode cX1_sign 0 = .ok (.aload_n 0, 1) := by decide +kernel
theorem dX1_sign_1 : decode cX1_sign 1 = .ok (.getfield 23, 3) := by decide +kernel
theorem dX1_sign_4 : decode cX1_sign 4 = .ok (.ifCond .lt 38, 3) := by decide +kernel
theorem dX1_sign_7 : decode cX1_sign 7 = .ok (.aload_n 0, 1) := by decide +kernel
theorem dX1_sign_8 : decode cX1_sign 8 = .ok (.getfield 23, 3) := by decide +kernel
theorem dX1_sign_11 : decode cX1_sign 11 = .ok (.aload_n 0, 1) := by decide +kernel
theorem dX1_sign_12 : decode cX1_sign 12 = .ok (.getfield 19, 3) := by decide +kernel
theorem dX1_sign_15 : decode cX1_sign 15 = .ok (.if_icmp .ge 27, 3) := by decide +kernel
theorem dX1_sign_18 : decode cX1_sign 18 = .ok (.aload_n 0, 1) := by decide +kernel
theorem dX1_sign_19 : decode cX1_sign 19 = .ok (.getfield 23, 3) := by decide +kernel
theorem dX1_sign_22 : decode cX1_sign 22 = .ok (.aload_n 0, 1) := by decide +kernel
theorem dX1_sign_23 : decode cX1_sign 23 = .ok (.getfield 9, 3) := by decide +kernel
theorem dX1_sign_26 : decode cX1_sign 26 = .ok (.arraylength, 1) := by decide +kernel
theorem dX1_sign_27 : decode cX1_sign 27 = .ok (.if_icmp .ge 15, 3) := by decide +kernel
theorem dX1_sign_30 : decode cX1_sign 30 = .ok (.aload_n 0, 1) := by decide +kernel
theorem dX1_sign_31 : decode cX1_sign 31 = .ok (.getfield 9, 3) := by decide +kernel
theorem dX1_sign_34 : decode cX1_sign 34 = .ok (.aload_n 0, 1) := by decide +kernel
theorem dX1_sign_35 : decode cX1_sign 35 = .ok (.getfield 23, 3) := by decide +kernel
theorem dX1_sign_38 : decode cX1_sign 38 = .ok (.iaload, 1) := by decide +kernel
theorem dX1_sign_39 : decode cX1_sign 39 = .ok (.goto 4, 3) := by decide +kernel
theorem dX1_sign_42 : decode cX1_sign 42 = .ok (.iconst (-1), 1) := by decide +kernel
theorem dX1_sign_43 : decode cX1_sign 43 = .ok (.ireturn, 1) := by decide +kernel
theorem dX1_digit_0 : decode cX1_digit 0 = .ok (.aload_n 0, 1) := by decide +kernel
theorem dX1_digit_1 : decode cX1_digit 1 = .ok (.invokevirtual 30, 3) := by decide +kernel
theorem dX1_digit_4 : decode cX1_digit 4 = .ok (.istore_n 1, 1) := by decide +kernel
theorem dX1_digit_5 : decode cX1_digit 5 = .ok (.iload_n 1, 1) := by decide +kernel
theorem dX1_digit_6 : decode cX1_digit 6 = .ok (.bipush 48, 2) := by decide +kernel
theorem dX1_digit_8 : decode cX1_digit 8 = .ok (.if_icmp .lt 16, 3) := by decide +kernel
theorem dX1_digit_11 : decode cX1_digit 11 = .ok (.iload_n 1, 1) := by decide +kernel
theorem dX1_digit_12 : decode cX1_digit 12 = .ok (.bipush 57, 2) := by decide +kernel
theorem dX1_digit_14 : decode cX1_digit 14 = .ok (.if_icmp .gt 10, 3) := by decide +kernel
theorem dX1_digit_17 : decode cX1_digit 17 = .ok (.iload_n 1, 1) := by decide +kernel
theorem dX1_digit_18 : decode cX1_digit 18 = .ok (.bipush 48, 2) := by decide +kernel
theorem dX1_digit_20 : decode cX1_digit 20 = .ok (.isub, 1) := by decide +kernel
theorem dX1_digit_21 : decode cX1_digit 21 = .ok (.goto 4, 3) := by decide +kernel
theorem dX1_digit_24 : decode cX1_digit 24 = .ok (.iconst (-1), 1) := by decide +kernel
theorem dX1_digit_25 : decode cX1_digit 25 = .ok (.ireturn, 1) := by decide +kernel
theorem dX1_skip_0 : decode cX1_skip 0 = .ok (.aload_n 0, 1) := by decide +kernel
theorem dX1_skip_1 : decode cX1_skip 1 = .ok (.invokevirtual 30, 3) := by decide +kernel
theorem dX1_skip_4 : decode cX1_skip 4 = .ok (.iload_n 1, 1) := by decide +kernel
theorem dX1_skip_5 : decode cX1_skip 5 = .ok (.if_icmp .eq 5, 3) := by decide +kernel
theorem dX1_skip_8 : decode cX1_skip 8 = .ok (.iconst 0, 1) := by decide +kernel
theorem dX1_skip_9 : decode cX1_skip 9 = .ok (.ireturn, 1) := by decide +kernel
theorem dX1_skip_10 : decode cX1_skip 10 = .ok (.aload_n 0, 1) := by decide +kernel
theorem dX1_skip_11 : decode cX1_skip 11 = .ok (.dup, 1) := by decide +kernel
theorem dX1_skip_12 : decode cX1_skip 12 = .ok (.getfield 23, 3) := by decide +kernel
theorem dX1_skip_15 : decode cX1_skip 15 = .ok (.iconst 1, 1) := by decide +kernel
theorem dX1_skip_16 : decode cX1_skip 16 = .ok (.iadd, 1) := by decide +kernel
theorem dX1_skip_17 : decode cX1_skip 17 = .ok (.putfield 23, 3) := by decide +kernel
theorem dX1_skip_20 : decode cX1_skip 20 = .ok (.iconst 1, 1) := by decide +kernel
theorem dX1_skip_21 : decode cX1_skip 21 = .ok (.ireturn, 1) := by decide +kernel
theorem dX2_init_0 : decode cX2_init 0 = .ok (.aload_n 0, 1) := by decide +kernel
theorem dX2_init_1 : decode cX2_init 1 = .ok (.invokespecial 3, 3) := by decide +kernel
theorem dX2_init_4 : decode cX2_init 4 = .ok (.aload_n 0, 1) := by decide +kernel
theorem dX2_init_5 : decode cX2_init 5 = .ok (.sipush 780, 3) := by decide +kernel
theorem dX2_init_8 : decode cX2_init 8 = .ok (.newarray .long, 2) := by decide +kernel
theorem dX2_init_10 : decode cX2_init 10 = .ok (.putfield 9, 3) := by decide +kernel
theorem dX2_init_13 : decode cX2_init 13 = .ok (.aload_n 0, 1) := by decide +kernel
theorem dX2_init_14 : decode cX2_init 14 = .ok (.aload_n 1, 1) := by decide +kernel
theorem dX2_init_15 : decode cX2_init 15 = .ok (.putfield 15, 3) := by decide +kernel
theorem dX2_init_18 : decode cX2_init 18 = .ok (.aload_n 0, 1) := by decide +kernel
theorem dX2_init_19 : decode cX2_init 19 = .ok (.aload_n 2, 1) := by decide +kernel
theorem dX2_init_20 : decode cX2_init 20 = .ok (.putfield 19, 3) := by decide +kernel
theorem dX2_init_23 : decode cX2_init 23 = .ok (.return_, 1) := by decide +kernel
theorem dX2_fewestWashes_0 : decode cX2_fewestWashes 0 = .ok (.lload_n 3, 1) := by decide +kernel
theorem dX2_fewestWashes_1 : decode cX2_fewestWashes 1 = .ok (.lconst 0, 1) := by decide +kernel
theorem dX2_fewestWashes_2 : decode cX2_fewestWashes 2 = .ok (.lcmp, 1) := by decide +kernel
theorem dX2_fewestWashes_3 : decode cX2_fewestWashes 3 = .ok (.ifCond .ne 6, 3) := by decide +kernel
theorem dX2_fewestWashes_6 : decode cX2_fewestWashes 6 = .ok (.bipush (-9), 2) := by decide +kernel
theorem dX2_fewestWashes_8 : decode cX2_fewestWashes 8 = .ok (.ireturn, 1) := by decide +kernel
theorem dX2_fewestWashes_9 : decode cX2_fewestWashes 9 = .ok (.aload_n 0, 1) := by decide +kernel
theorem dX2_fewestWashes_10 : decode cX2_fewestWashes 10 = .ok (.getfield 19, 3) := by decide +kernel
theorem dX2_fewestWashes_13 : decode cX2_fewestWashes 13 = .ok (.iload_n 1, 1) := by decide +kernel
theorem dX2_fewestWashes_14 : decode cX2_fewestWashes 14 = .ok (.invokevirtual 23, 3) := by decide +kernel
theorem dX2_fewestWashes_17 : decode cX2_fewestWashes 17 = .ok (.aload_n 0, 1) := by decide +kernel
theorem dX2_fewestWashes_18 : decode cX2_fewestWashes 18 = .ok (.iconst 0, 1) := by decide +kernel
theorem dX2_fewestWashes_19 : decode cX2_fewestWashes 19 = .ok (.invokevirtual 29, 3) := by decide +kernel
theorem dX2_fewestWashes_22 : decode cX2_fewestWashes 22 = .ok (.iconst 1, 1) := by decide +kernel
theorem dX2_fewestWashes_23 : decode cX2_fewestWashes 23 = .ok (.aload_n 0, 1) := by decide +kernel
theorem dX2_fewestWashes_24 : decode cX2_fewestWashes 24 = .ok (.getfield 15, 3) := by decide +kernel
theorem dX2_fewestWashes_27 : decode cX2_fewestWashes 27 = .ok (.getfield 32, 3) := by decide +kernel
theorem dX2_fewestWashes_30 : decode cX2_fewestWashes 30 = .ok (.bipush 8, 2) := by decide +kernel
theorem dX2_fewestWashes_32 : decode cX2_fewestWashes 32 = .ok (.invokestatic 38, 3) := by decide +kernel
theorem dX2_fewestWashes_35 : decode cX2_fewestWashes 35 = .ok (.ishl, 1) := by decide +kernel
theorem dX2_fewestWashes_36 : decode cX2_fewestWashes 36 = .ok (.istore 5, 2) := by decide +kernel
theorem dX2_fewestWashes_38 : decode cX2_fewestWashes 38 = .ok (.iconst 0, 1) := by decide +kernel
theorem dX2_fewestWashes_39 : decode cX2_fewestWashes 39 = .ok (.istore 6, 2) := by decide +kernel
theorem dX2_fewestWashes_41 : decode cX2_fewestWashes 41 = .ok (.iload 6, 2) := by decide +kernel
theorem dX2_fewestWashes_43 : decode cX2_fewestWashes 43 = .ok (.bipush 8, 2) := by decide +kernel
theorem dX2_fewestWashes_45 : decode cX2_fewestWashes 45 = .ok (.if_icmp .gt 50, 3) := by decide +kernel
theorem dX2_fewestWashes_48 : decode cX2_fewestWashes 48 = .ok (.iconst 0, 1) := by decide +kernel
theorem dX2_fewestWashes_49 : decode cX2_fewestWashes 49 = .ok (.istore 7, 2) := by decide +kernel
theorem dX2_fewestWashes_51 : decode cX2_fewestWashes 51 = .ok (.iload 7, 2) := by decide +kernel
theorem dX2_fewestWashes_53 : decode cX2_fewestWashes 53 = .ok (.iload 5, 2) := by decide +kernel
theorem dX2_fewestWashes_55 : decode cX2_fewestWashes 55 = .ok (.if_icmp .ge 34, 3) := by decide +kernel
theorem dX2_fewestWashes_58 : decode cX2_fewestWashes 58 = .ok (.iload 7, 2) := by decide +kernel
theorem dX2_fewestWashes_60 : decode cX2_fewestWashes 60 = .ok (.invokestatic 44, 3) := by decide +kernel
theorem dX2_fewestWashes_63 : decode cX2_fewestWashes 63 = .ok (.iload 6, 2) := by decide +kernel
theorem dX2_fewestWashes_65 : decode cX2_fewestWashes 65 = .ok (.if_icmp .ne 18, 3) := by decide +kernel
theorem dX2_fewestWashes_68 : decode cX2_fewestWashes 68 = .ok (.aload_n 0, 1) := by decide +kernel
theorem dX2_fewestWashes_69 : decode cX2_fewestWashes 69 = .ok (.iload 7, 2) := by decide +kernel
theorem dX2_fewestWashes_71 : decode cX2_fewestWashes 71 = .ok (.iload_n 1, 1) := by decide +kernel
theorem dX2_fewestWashes_72 : decode cX2_fewestWashes 72 = .ok (.iload_n 2, 1) := by decide +kernel
theorem dX2_fewestWashes_73 : decode cX2_fewestWashes 73 = .ok (.lload_n 3, 1) := by decide +kernel
theorem dX2_fewestWashes_74 : decode cX2_fewestWashes 74 = .ok (.invokevirtual 50, 3) := by decide +kernel
theorem dX2_fewestWashes_77 : decode cX2_fewestWashes 77 = .ok (.ifCond .eq 6, 3) := by decide +kernel
theorem dX2_fewestWashes_80 : decode cX2_fewestWashes 80 = .ok (.iload 7, 2) := by decide +kernel
theorem dX2_fewestWashes_82 : decode cX2_fewestWashes 82 = .ok (.ireturn, 1) := by decide +kernel
theorem dX2_fewestWashes_83 : decode cX2_fewestWashes 83 = .ok (.iinc 7 1, 3) := by decide +kernel
theorem dX2_fewestWashes_86 : decode cX2_fewestWashes 86 = .ok (.goto (-35), 3) := by decide +kernel
theorem dX2_fewestWashes_89 : decode cX2_fewestWashes 89 = .ok (.iinc 6 1, 3) := by decide +kernel
theorem dX2_fewestWashes_92 : decode cX2_fewestWashes 92 = .ok (.goto (-51), 3) := by decide +kernel
theorem dX2_fewestWashes_95 : decode cX2_fewestWashes 95 = .ok (.bipush (-9), 2) := by decide +kernel
theorem dX2_fewestWashes_97 : decode cX2_fewestWashes 97 = .ok (.ireturn, 1) := by decide +kernel
theorem dX2_cleansAll_0 : decode cX2_cleansAll 0 = .ok (.aload_n 0, 1) := by decide +kernel
theorem dX2_cleansAll_1 : decode cX2_cleansAll 1 = .ok (.iconst 0, 1) := by decide +kernel
theorem dX2_cleansAll_2 : decode cX2_cleansAll 2 = .ok (.invokevirtual 54, 3) := by decide +kernel
theorem dX2_cleansAll_5 : decode cX2_cleansAll 5 = .ok (.iconst 0, 1) := by decide +kernel
theorem dX2_cleansAll_6 : decode cX2_cleansAll 6 = .ok (.istore 6, 2) := by decide +kernel
theorem dX2_cleansAll_8 : decode cX2_cleansAll 8 = .ok (.iload 6, 2) := by decide +kernel
theorem dX2_cleansAll_10 : decode cX2_cleansAll 10 = .ok (.bipush 8, 2) := by decide +kernel
theorem dX2_cleansAll_12 : decode cX2_cleansAll 12 = .ok (.if_icmp .ge 53, 3) := by decide +kernel
theorem dX2_cleansAll_15 : decode cX2_cleansAll 15 = .ok (.iload_n 1, 1) := by decide +kernel
theorem dX2_cleansAll_16 : decode cX2_cleansAll 16 = .ok (.iload 6, 2) := by decide +kernel
theorem dX2_cleansAll_18 : decode cX2_cleansAll 18 = .ok (.iushr, 1) := by decide +kernel
theorem dX2_cleansAll_19 : decode cX2_cleansAll 19 = .ok (.iconst 1, 1) := by decide +kernel
theorem dX2_cleansAll_20 : decode cX2_cleansAll 20 = .ok (.iand, 1) := by decide +kernel
theorem dX2_cleansAll_21 : decode cX2_cleansAll 21 = .ok (.iconst 1, 1) := by decide +kernel
theorem dX2_cleansAll_22 : decode cX2_cleansAll 22 = .ok (.if_icmp .ne 37, 3) := by decide +kernel
theorem dX2_cleansAll_25 : decode cX2_cleansAll 25 = .ok (.aload_n 0, 1) := by decide +kernel
theorem dX2_cleansAll_26 : decode cX2_cleansAll 26 = .ok (.getfield 19, 3) := by decide +kernel
theorem dX2_cleansAll_29 : decode cX2_cleansAll 29 = .ok (.iconst 0, 1) := by decide +kernel
theorem dX2_cleansAll_30 : decode cX2_cleansAll 30 = .ok (.putfield 57, 3) := by decide +kernel
theorem dX2_cleansAll_33 : decode cX2_cleansAll 33 = .ok (.aload_n 0, 1) := by decide +kernel
theorem dX2_cleansAll_34 : decode cX2_cleansAll 34 = .ok (.getfield 19, 3) := by decide +kernel
theorem dX2_cleansAll_37 : decode cX2_cleansAll 37 = .ok (.iconst 5, 1) := by decide +kernel
theorem dX2_cleansAll_38 : decode cX2_cleansAll 38 = .ok (.iload 6, 2) := by decide +kernel
theorem dX2_cleansAll_40 : decode cX2_cleansAll 40 = .ok (.iload 6, 2) := by decide +kernel
theorem dX2_cleansAll_42 : decode cX2_cleansAll 42 = .ok (.lload 4, 2) := by decide +kernel
theorem dX2_cleansAll_44 : decode cX2_cleansAll 44 = .ok (.invokevirtual 61, 3) := by decide +kernel
theorem dX2_cleansAll_47 : decode cX2_cleansAll 47 = .ok (.aload_n 0, 1) := by decide +kernel
theorem dX2_cleansAll_48 : decode cX2_cleansAll 48 = .ok (.getfield 19, 3) := by decide +kernel
theorem dX2_cleansAll_51 : decode cX2_cleansAll 51 = .ok (.getfield 57, 3) := by decide +kernel
theorem dX2_cleansAll_54 : decode cX2_cleansAll 54 = .ok (.ifCond .ne 5, 3) := by decide +kernel
theorem dX2_cleansAll_57 : decode cX2_cleansAll 57 = .ok (.iconst 0, 1) := by decide +kernel
theorem dX2_cleansAll_58 : decode cX2_cleansAll 58 = .ok (.ireturn, 1) := by decide +kernel
theorem dX2_cleansAll_59 : decode cX2_cleansAll 59 = .ok (.iinc 6 1, 3) := by decide +kernel
theorem dX2_cleansAll_62 : decode cX2_cleansAll 62 = .ok (.goto (-54), 3) := by decide +kernel
theorem dX2_cleansAll_65 : decode cX2_cleansAll 65 = .ok (.aload_n 0, 1) := by decide +kernel
theorem dX2_cleansAll_66 : decode cX2_cleansAll 66 = .ok (.getfield 19, 3) := by decide +kernel
theorem dX2_cleansAll_69 : decode cX2_cleansAll 69 = .ok (.iload_n 2, 1) := by decide +kernel
theorem dX2_cleansAll_70 : decode cX2_cleansAll 70 = .ok (.iconst 1, 1) := by decide +kernel
theorem dX2_cleansAll_71 : decode cX2_cleansAll 71 = .ok (.iadd, 1) := by decide +kernel
theorem dX2_cleansAll_72 : decode cX2_cleansAll 72 = .ok (.bipush 47, 2) := by decide +kernel
theorem dX2_cleansAll_74 : decode cX2_cleansAll 74 = .ok (.invokevirtual 65, 3) := by decide +kernel
theorem dX2_cleansAll_77 : decode cX2_cleansAll 77 = .ok (.aload_n 0, 1) := by decide +kernel
theorem dX2_cleansAll_78 : decode cX2_cleansAll 78 = .ok (.getfield 19, 3) := by decide +kernel
theorem dX2_cleansAll_81 : decode cX2_cleansAll 81 = .ok (.iload_n 3, 1) := by decide +kernel
theorem dX2_cleansAll_82 : decode cX2_cleansAll 82 = .ok (.lload 4, 2) := by decide +kernel
theorem dX2_cleansAll_84 : decode cX2_cleansAll 84 = .ok (.invokevirtual 69, 3) := by decide +kernel
theorem dX2_cleansAll_87 : decode cX2_cleansAll 87 = .ok (.ireturn, 1) := by decide +kernel
theorem dX2_firstOrder_0 : decode cX2_firstOrder 0 = .ok (.lload_n 2, 1) := by decide +kernel
theorem dX2_firstOrder_1 : decode cX2_firstOrder 1 = .ok (.lconst 0, 1) := by decide +kernel
theorem dX2_firstOrder_2 : decode cX2_firstOrder 2 = .ok (.lcmp, 1) := by decide +kernel
theorem dX2_firstOrder_3 : decode cX2_firstOrder 3 = .ok (.ifCond .ne 6, 3) := by decide +kernel
theorem dX2_firstOrder_6 : decode cX2_firstOrder 6 = .ok (.bipush (-9), 2) := by decide +kernel
theorem dX2_firstOrder_8 : decode cX2_firstOrder 8 = .ok (.ireturn, 1) := by decide +kernel
theorem dX2_firstOrder_9 : decode cX2_firstOrder 9 = .ok (.aload_n 0, 1) := by decide +kernel
theorem dX2_firstOrder_10 : decode cX2_firstOrder 10 = .ok (.getfield 19, 3) := by decide +kernel
theorem dX2_firstOrder_13 : decode cX2_firstOrder 13 = .ok (.bipush 47, 2) := by decide +kernel
theorem dX2_firstOrder_15 : decode cX2_firstOrder 15 = .ok (.invokevirtual 23, 3) := by decide +kernel
theorem dX2_firstOrder_18 : decode cX2_firstOrder 18 = .ok (.aload_n 0, 1) := by decide +kernel
theorem dX2_firstOrder_19 : decode cX2_firstOrder 19 = .ok (.iconst 0, 1) := by decide +kernel
theorem dX2_firstOrder_20 : decode cX2_firstOrder 20 = .ok (.iconst 0, 1) := by decide +kernel
theorem dX2_firstOrder_21 : decode cX2_firstOrder 21 = .ok (.iload_n 1, 1) := by decide +kernel
theorem dX2_firstOrder_22 : decode cX2_firstOrder 22 = .ok (.lload_n 2, 1) := by decide +kernel
theorem dX2_firstOrder_23 : decode cX2_firstOrder 23 = .ok (.invokevirtual 73, 3) := by decide +kernel
theorem dX2_firstOrder_26 : decode cX2_firstOrder 26 = .ok (.ireturn, 1) := by decide +kernel
theorem dX2_orderFrom_0 : decode cX2_orderFrom 0 = .ok (.iload_n 1, 1) := by decide +kernel
theorem dX2_orderFrom_1 : decode cX2_orderFrom 1 = .ok (.aload_n 0, 1) := by decide +kernel
theorem dX2_orderFrom_2 : decode cX2_orderFrom 2 = .ok (.getfield 15, 3) := by decide +kernel
theorem dX2_orderFrom_5 : decode cX2_orderFrom 5 = .ok (.getfield 77, 3) := by decide +kernel
theorem dX2_orderFrom_8 : decode cX2_orderFrom 8 = .ok (.if_icmp .ge 8, 3) := by decide +kernel
theorem dX2_orderFrom_11 : decode cX2_orderFrom 11 = .ok (.iload_n 1, 1) := by decide +kernel
theorem dX2_orderFrom_12 : decode cX2_orderFrom 12 = .ok (.iconst 5, 1) := by decide +kernel
theorem dX2_orderFrom_13 : decode cX2_orderFrom 13 = .ok (.if_icmp .lt 5, 3) := by decide +kernel
theorem dX2_orderFrom_16 : decode cX2_orderFrom 16 = .ok (.iconst 0, 1) := by decide +kernel
theorem dX2_orderFrom_17 : decode cX2_orderFrom 17 = .ok (.ireturn, 1) := by decide +kernel
theorem dX2_orderFrom_18 : decode cX2_orderFrom 18 = .ok (.aload_n 0, 1) := by decide +kernel
theorem dX2_orderFrom_19 : decode cX2_orderFrom 19 = .ok (.iload_n 1, 1) := by decide +kernel
theorem dX2_orderFrom_20 : decode cX2_orderFrom 20 = .ok (.invokevirtual 29, 3) := by decide +kernel
theorem dX2_orderFrom_23 : decode cX2_orderFrom 23 = .ok (.iconst 0, 1) := by decide +kernel
theorem dX2_orderFrom_24 : decode cX2_orderFrom 24 = .ok (.istore 6, 2) := by decide +kernel
theorem dX2_orderFrom_26 : decode cX2_orderFrom 26 = .ok (.iload 6, 2) := by decide +kernel
theorem dX2_orderFrom_28 : decode cX2_orderFrom 28 = .ok (.aload_n 0, 1) := by decide +kernel
theorem dX2_orderFrom_29 : decode cX2_orderFrom 29 = .ok (.getfield 15, 3) := by decide +kernel
theorem dX2_orderFrom_32 : decode cX2_orderFrom 32 = .ok (.getfield 77, 3) := by decide +kernel
theorem dX2_orderFrom_35 : decode cX2_orderFrom 35 = .ok (.if_icmp .ge 111, 3) := by decide +kernel
theorem dX2_orderFrom_38 : decode cX2_orderFrom 38 = .ok (.iload_n 2, 1) := by decide +kernel
theorem dX2_orderFrom_39 : decode cX2_orderFrom 39 = .ok (.iload 6, 2) := by decide +kernel
theorem dX2_orderFrom_41 : decode cX2_orderFrom 41 = .ok (.iushr, 1) := by decide +kernel
theorem dX2_orderFrom_42 : decode cX2_orderFrom 42 = .ok (.iconst 1, 1) := by decide +kernel
theorem dX2_orderFrom_43 : decode cX2_orderFrom 43 = .ok (.iand, 1) := by decide +kernel
theorem dX2_orderFrom_44 : decode cX2_orderFrom 44 = .ok (.ifCond .ne 96, 3) := by decide +kernel
theorem dX2_orderFrom_47 : decode cX2_orderFrom 47 = .ok (.aload_n 0, 1) := by decide +kernel
theorem dX2_orderFrom_48 : decode cX2_orderFrom 48 = .ok (.iload_n 1, 1) := by decide +kernel
theorem dX2_orderFrom_49 : decode cX2_orderFrom 49 = .ok (.invokevirtual 54, 3) := by decide +kernel
theorem dX2_orderFrom_52 : decode cX2_orderFrom 52 = .ok (.aload_n 0, 1) := by decide +kernel
theorem dX2_orderFrom_53 : decode cX2_orderFrom 53 = .ok (.getfield 19, 3) := by decide +kernel
theorem dX2_orderFrom_56 : decode cX2_orderFrom 56 = .ok (.aload_n 0, 1) := by decide +kernel
theorem dX2_orderFrom_57 : decode cX2_orderFrom 57 = .ok (.getfield 15, 3) := by decide +kernel
theorem dX2_orderFrom_60 : decode cX2_orderFrom 60 = .ok (.iload 6, 2) := by decide +kernel
theorem dX2_orderFrom_62 : decode cX2_orderFrom 62 = .ok (.iconst 0, 1) := by decide +kernel
theorem dX2_orderFrom_63 : decode cX2_orderFrom 63 = .ok (.invokevirtual 80, 3) := by decide +kernel
theorem dX2_orderFrom_66 : decode cX2_orderFrom 66 = .ok (.aload_n 0, 1) := by decide +kernel
theorem dX2_orderFrom_67 : decode cX2_orderFrom 67 = .ok (.getfield 15, 3) := by decide +kernel
theorem dX2_orderFrom_70 : decode cX2_orderFrom 70 = .ok (.iload 6, 2) := by decide +kernel
theorem dX2_orderFrom_72 : decode cX2_orderFrom 72 = .ok (.iconst 1, 1) := by decide +kernel
theorem dX2_orderFrom_73 : decode cX2_orderFrom 73 = .ok (.invokevirtual 80, 3) := by decide +kernel
theorem dX2_orderFrom_76 : decode cX2_orderFrom 76 = .ok (.aload_n 0, 1) := by decide +kernel
theorem dX2_orderFrom_77 : decode cX2_orderFrom 77 = .ok (.getfield 15, 3) := by decide +kernel
theorem dX2_orderFrom_80 : decode cX2_orderFrom 80 = .ok (.iload 6, 2) := by decide +kernel
theorem dX2_orderFrom_82 : decode cX2_orderFrom 82 = .ok (.iconst 2, 1) := by decide +kernel
theorem dX2_orderFrom_83 : decode cX2_orderFrom 83 = .ok (.invokevirtual 80, 3) := by decide +kernel
theorem dX2_orderFrom_86 : decode cX2_orderFrom 86 = .ok (.lload 4, 2) := by decide +kernel
theorem dX2_orderFrom_88 : decode cX2_orderFrom 88 = .ok (.invokevirtual 61, 3) := by decide +kernel
theorem dX2_orderFrom_91 : decode cX2_orderFrom 91 = .ok (.aload_n 0, 1) := by decide +kernel
theorem dX2_orderFrom_92 : decode cX2_orderFrom 92 = .ok (.getfield 19, 3) := by decide +kernel
theorem dX2_orderFrom_95 : decode cX2_orderFrom 95 = .ok (.iload_n 3, 1) := by decide +kernel
theorem dX2_orderFrom_96 : decode cX2_orderFrom 96 = .ok (.lload 4, 2) := by decide +kernel
theorem dX2_orderFrom_98 : decode cX2_orderFrom 98 = .ok (.invokevirtual 69, 3) := by decide +kernel
theorem dX2_orderFrom_101 : decode cX2_orderFrom 101 = .ok (.ifCond .eq 39, 3) := by decide +kernel
theorem dX2_orderFrom_104 : decode cX2_orderFrom 104 = .ok (.aload_n 0, 1) := by decide +kernel
theorem dX2_orderFrom_105 : decode cX2_orderFrom 105 = .ok (.iload_n 1, 1) := by decide +kernel
theorem dX2_orderFrom_106 : decode cX2_orderFrom 106 = .ok (.iconst 1, 1) := by decide +kernel
theorem dX2_orderFrom_107 : decode cX2_orderFrom 107 = .ok (.iadd, 1) := by decide +kernel
theorem dX2_orderFrom_108 : decode cX2_orderFrom 108 = .ok (.iload_n 2, 1) := by decide +kernel
theorem dX2_orderFrom_109 : decode cX2_orderFrom 109 = .ok (.iconst 1, 1) := by decide +kernel
theorem dX2_orderFrom_110 : decode cX2_orderFrom 110 = .ok (.iload 6, 2) := by decide +kernel
theorem dX2_orderFrom_112 : decode cX2_orderFrom 112 = .ok (.ishl, 1) := by decide +kernel
theorem dX2_orderFrom_113 : decode cX2_orderFrom 113 = .ok (.ior, 1) := by decide +kernel
theorem dX2_orderFrom_114 : decode cX2_orderFrom 114 = .ok (.iload_n 3, 1) := by decide +kernel
theorem dX2_orderFrom_115 : decode cX2_orderFrom 115 = .ok (.lload 4, 2) := by decide +kernel
theorem dX2_orderFrom_117 : decode cX2_orderFrom 117 = .ok (.invokevirtual 73, 3) := by decide +kernel
theorem dX2_orderFrom_120 : decode cX2_orderFrom 120 = .ok (.istore 7, 2) := by decide +kernel
theorem dX2_orderFrom_122 : decode cX2_orderFrom 122 = .ok (.iload 7, 2) := by decide +kernel
theorem dX2_orderFrom_124 : decode cX2_orderFrom 124 = .ok (.bipush (-9), 2) := by decide +kernel
theorem dX2_orderFrom_126 : decode cX2_orderFrom 126 = .ok (.if_icmp .eq 14, 3) := by decide +kernel
theorem dX2_orderFrom_129 : decode cX2_orderFrom 129 = .ok (.iload 7, 2) := by decide +kernel
theorem dX2_orderFrom_131 : decode cX2_orderFrom 131 = .ok (.bipush 6, 2) := by decide +kernel
theorem dX2_orderFrom_133 : decode cX2_orderFrom 133 = .ok (.imul, 1) := by decide +kernel
theorem dX2_orderFrom_134 : decode cX2_orderFrom 134 = .ok (.iload 6, 2) := by decide +kernel
theorem dX2_orderFrom_136 : decode cX2_orderFrom 136 = .ok (.iadd, 1) := by decide +kernel
theorem dX2_orderFrom_137 : decode cX2_orderFrom 137 = .ok (.iconst 1, 1) := by decide +kernel
theorem dX2_orderFrom_138 : decode cX2_orderFrom 138 = .ok (.iadd, 1) := by decide +kernel
theorem dX2_orderFrom_139 : decode cX2_orderFrom 139 = .ok (.ireturn, 1) := by decide +kernel
theorem dX2_orderFrom_140 : decode cX2_orderFrom 140 = .ok (.iinc 6 1, 3) := by decide +kernel
theorem dX2_orderFrom_143 : decode cX2_orderFrom 143 = .ok (.goto (-117), 3) := by decide +kernel
theorem dX2_orderFrom_146 : decode cX2_orderFrom 146 = .ok (.bipush (-9), 2) := by decide +kernel
theorem dX2_orderFrom_148 : decode cX2_orderFrom 148 = .ok (.ireturn, 1) := by decide +kernel
theorem dX2_keepRow_0 : decode cX2_keepRow 0 = .ok (.iload_n 1, 1) := by decide +kernel
theorem dX2_keepRow_1 : decode cX2_keepRow 1 = .ok (.ifCond .lt 31, 3) := by decide +kernel
theorem dX2_keepRow_4 : decode cX2_keepRow 4 = .ok (.iload_n 1, 1) := by decide +kernel
theorem dX2_keepRow_5 : decode cX2_keepRow 5 = .ok (.iconst 5, 1) := by decide +kernel
theorem dX2_keepRow_6 : decode cX2_keepRow 6 = .ok (.if_icmp .ge 26, 3) := by decide +kernel
theorem dX2_keepRow_9 : decode cX2_keepRow 9 = .ok (.aload_n 0, 1) := by decide +kernel
theorem dX2_keepRow_10 : decode cX2_keepRow 10 = .ok (.getfield 19, 3) := by decide +kernel
theorem dX2_keepRow_13 : decode cX2_keepRow 13 = .ok (.getfield 83, 3) := by decide +kernel
theorem dX2_keepRow_16 : decode cX2_keepRow 16 = .ok (.iconst 0, 1) := by decide +kernel
theorem dX2_keepRow_17 : decode cX2_keepRow 17 = .ok (.aload_n 0, 1) := by decide +kernel
theorem dX2_keepRow_18 : decode cX2_keepRow 18 = .ok (.getfield 9, 3) := by decide +kernel
theorem dX2_keepRow_21 : decode cX2_keepRow 21 = .ok (.iload_n 1, 1) := by decide +kernel
theorem dX2_keepRow_22 : decode cX2_keepRow 22 = .ok (.sipush 156, 3) := by decide +kernel
theorem dX2_keepRow_25 : decode cX2_keepRow 25 = .ok (.imul, 1) := by decide +kernel
theorem dX2_keepRow_26 : decode cX2_keepRow 26 = .ok (.sipush 156, 3) := by decide +kernel
theorem dX2_keepRow_29 : decode cX2_keepRow 29 = .ok (.invokestatic 86, 3) := by decide +kernel
theorem dX2_keepRow_32 : decode cX2_keepRow 32 = .ok (.return_, 1) := by decide +kernel
theorem dX2_takeRow_0 : decode cX2_takeRow 0 = .ok (.iload_n 1, 1) := by decide +kernel
theorem dX2_takeRow_1 : decode cX2_takeRow 1 = .ok (.ifCond .lt 31, 3) := by decide +kernel
theorem dX2_takeRow_4 : decode cX2_takeRow 4 = .ok (.iload_n 1, 1) := by decide +kernel
theorem dX2_takeRow_5 : decode cX2_takeRow 5 = .ok (.iconst 5, 1) := by decide +kernel
theorem dX2_takeRow_6 : decode cX2_takeRow 6 = .ok (.if_icmp .ge 26, 3) := by decide +kernel
theorem dX2_takeRow_9 : decode cX2_takeRow 9 = .ok (.aload_n 0, 1) := by decide +kernel
theorem dX2_takeRow_10 : decode cX2_takeRow 10 = .ok (.getfield 9, 3) := by decide +kernel
theorem dX2_takeRow_13 : decode cX2_takeRow 13 = .ok (.iload_n 1, 1) := by decide +kernel
theorem dX2_takeRow_14 : decode cX2_takeRow 14 = .ok (.sipush 156, 3) := by decide +kernel
theorem dX2_takeRow_17 : decode cX2_takeRow 17 = .ok (.imul, 1) := by decide +kernel
theorem dX2_takeRow_18 : decode cX2_takeRow 18 = .ok (.aload_n 0, 1) := by decide +kernel
theorem dX2_takeRow_19 : decode cX2_takeRow 19 = .ok (.getfield 19, 3) := by decide +kernel
theorem dX2_takeRow_22 : decode cX2_takeRow 22 = .ok (.getfield 83, 3) := by decide +kernel
theorem dX2_takeRow_25 : decode cX2_takeRow 25 = .ok (.iconst 0, 1) := by decide +kernel
theorem dX2_takeRow_26 : decode cX2_takeRow 26 = .ok (.sipush 156, 3) := by decide +kernel
theorem dX2_takeRow_29 : decode cX2_takeRow 29 = .ok (.invokestatic 86, 3) := by decide +kernel
theorem dX2_takeRow_32 : decode cX2_takeRow 32 = .ok (.return_, 1) := by decide +kernel
theorem dX3_init_0 : decode cX3_init 0 = .ok (.aload_n 0, 1) := by decide +kernel
theorem dX3_init_1 : decode cX3_init 1 = .ok (.invokespecial 3, 3) := by decide +kernel
theorem dX3_init_4 : decode cX3_init 4 = .ok (.aload_n 0, 1) := by decide +kernel
theorem dX3_init_5 : decode cX3_init 5 = .ok (.bipush 12, 2) := by decide +kernel
theorem dX3_init_7 : decode cX3_init 7 = .ok (.newarray .int, 2) := by decide +kernel
theorem dX3_init_9 : decode cX3_init 9 = .ok (.putfield 9, 3) := by decide +kernel
theorem dX3_init_12 : decode cX3_init 12 = .ok (.aload_n 0, 1) := by decide +kernel
theorem dX3_init_13 : decode cX3_init 13 = .ok (.bipush 12, 2) := by decide +kernel
theorem dX3_init_15 : decode cX3_init 15 = .ok (.newarray .int, 2) := by decide +kernel
theorem dX3_init_17 : decode cX3_init 17 = .ok (.dup, 1) := by decide +kernel
theorem dX3_init_18 : decode cX3_init 18 = .ok (.iconst 0, 1) := by decide +kernel
theorem dX3_init_19 : decode cX3_init 19 = .ok (.iconst 1, 1) := by decide +kernel
theorem dX3_init_20 : decode cX3_init 20 = .ok (.iastore, 1) := by decide +kernel
theorem dX3_init_21 : decode cX3_init 21 = .ok (.dup, 1) := by decide +kernel
theorem dX3_init_22 : decode cX3_init 22 = .ok (.iconst 1, 1) := by decide +kernel
theorem dX3_init_23 : decode cX3_init 23 = .ok (.iconst 2, 1) := by decide +kernel
theorem dX3_init_24 : decode cX3_init 24 = .ok (.iastore, 1) := by decide +kernel
theorem dX3_init_25 : decode cX3_init 25 = .ok (.dup, 1) := by decide +kernel
theorem dX3_init_26 : decode cX3_init 26 = .ok (.iconst 2, 1) := by decide +kernel
theorem dX3_init_27 : decode cX3_init 27 = .ok (.iconst 3, 1) := by decide +kernel
theorem dX3_init_28 : decode cX3_init 28 = .ok (.iastore, 1) := by decide +kernel
theorem dX3_init_29 : decode cX3_init 29 = .ok (.dup, 1) := by decide +kernel
theorem dX3_init_30 : decode cX3_init 30 = .ok (.iconst 3, 1) := by decide +kernel
theorem dX3_init_31 : decode cX3_init 31 = .ok (.iconst 1, 1) := by decide +kernel
theorem dX3_init_32 : decode cX3_init 32 = .ok (.iastore, 1) := by decide +kernel
theorem dX3_init_33 : decode cX3_init 33 = .ok (.dup, 1) := by decide +kernel
theorem dX3_init_34 : decode cX3_init 34 = .ok (.iconst 4, 1) := by decide +kernel
theorem dX3_init_35 : decode cX3_init 35 = .ok (.iconst 0, 1) := by decide +kernel
theorem dX3_init_36 : decode cX3_init 36 = .ok (.iastore, 1) := by decide +kernel
theorem dX3_init_37 : decode cX3_init 37 = .ok (.dup, 1) := by decide +kernel
theorem dX3_init_38 : decode cX3_init 38 = .ok (.iconst 5, 1) := by decide +kernel
theorem dX3_init_39 : decode cX3_init 39 = .ok (.iconst 1, 1) := by decide +kernel
theorem dX3_init_40 : decode cX3_init 40 = .ok (.iastore, 1) := by decide +kernel
theorem dX3_init_41 : decode cX3_init 41 = .ok (.dup, 1) := by decide +kernel
theorem dX3_init_42 : decode cX3_init 42 = .ok (.bipush 6, 2) := by decide +kernel
theorem dX3_init_44 : decode cX3_init 44 = .ok (.iconst 1, 1) := by decide +kernel
theorem dX3_init_45 : decode cX3_init 45 = .ok (.iastore, 1) := by decide +kernel
theorem dX3_init_46 : decode cX3_init 46 = .ok (.dup, 1) := by decide +kernel
theorem dX3_init_47 : decode cX3_init 47 = .ok (.bipush 7, 2) := by decide +kernel
theorem dX3_init_49 : decode cX3_init 49 = .ok (.iconst 2, 1) := by decide +kernel
theorem dX3_init_50 : decode cX3_init 50 = .ok (.iastore, 1) := by decide +kernel
theorem dX3_init_51 : decode cX3_init 51 = .ok (.dup, 1) := by decide +kernel
theorem dX3_init_52 : decode cX3_init 52 = .ok (.bipush 8, 2) := by decide +kernel
theorem dX3_init_54 : decode cX3_init 54 = .ok (.iconst 3, 1) := by decide +kernel
theorem dX3_init_55 : decode cX3_init 55 = .ok (.iastore, 1) := by decide +kernel
theorem dX3_init_56 : decode cX3_init 56 = .ok (.dup, 1) := by decide +kernel
theorem dX3_init_57 : decode cX3_init 57 = .ok (.bipush 9, 2) := by decide +kernel
theorem dX3_init_59 : decode cX3_init 59 = .ok (.iconst 1, 1) := by decide +kernel
theorem dX3_init_60 : decode cX3_init 60 = .ok (.iastore, 1) := by decide +kernel
theorem dX3_init_61 : decode cX3_init 61 = .ok (.dup, 1) := by decide +kernel
theorem dX3_init_62 : decode cX3_init 62 = .ok (.bipush 10, 2) := by decide +kernel
theorem dX3_init_64 : decode cX3_init 64 = .ok (.iconst 0, 1) := by decide +kernel
theorem dX3_init_65 : decode cX3_init 65 = .ok (.iastore, 1) := by decide +kernel
theorem dX3_init_66 : decode cX3_init 66 = .ok (.dup, 1) := by decide +kernel
theorem dX3_init_67 : decode cX3_init 67 = .ok (.bipush 11, 2) := by decide +kernel
theorem dX3_init_69 : decode cX3_init 69 = .ok (.iconst 1, 1) := by decide +kernel
theorem dX3_init_70 : decode cX3_init 70 = .ok (.iastore, 1) := by decide +kernel
theorem dX3_init_71 : decode cX3_init 71 = .ok (.putfield 15, 3) := by decide +kernel
theorem dX3_init_74 : decode cX3_init 74 = .ok (.aload_n 0, 1) := by decide +kernel
theorem dX3_init_75 : decode cX3_init 75 = .ok (.iconst 3, 1) := by decide +kernel
theorem dX3_init_76 : decode cX3_init 76 = .ok (.newarray .int, 2) := by decide +kernel
theorem dX3_init_78 : decode cX3_init 78 = .ok (.dup, 1) := by decide +kernel
theorem dX3_init_79 : decode cX3_init 79 = .ok (.iconst 0, 1) := by decide +kernel
theorem dX3_init_80 : decode cX3_init 80 = .ok (.iconst 0, 1) := by decide +kernel
theorem dX3_init_81 : decode cX3_init 81 = .ok (.iastore, 1) := by decide +kernel
theorem dX3_init_82 : decode cX3_init 82 = .ok (.dup, 1) := by decide +kernel
theorem dX3_init_83 : decode cX3_init 83 = .ok (.iconst 1, 1) := by decide +kernel
theorem dX3_init_84 : decode cX3_init 84 = .ok (.iconst 1, 1) := by decide +kernel
theorem dX3_init_85 : decode cX3_init 85 = .ok (.iastore, 1) := by decide +kernel
theorem dX3_init_86 : decode cX3_init 86 = .ok (.dup, 1) := by decide +kernel
theorem dX3_init_87 : decode cX3_init 87 = .ok (.iconst 2, 1) := by decide +kernel
theorem dX3_init_88 : decode cX3_init 88 = .ok (.iconst 0, 1) := by decide +kernel
theorem dX3_init_89 : decode cX3_init 89 = .ok (.iastore, 1) := by decide +kernel
theorem dX3_init_90 : decode cX3_init 90 = .ok (.putfield 18, 3) := by decide +kernel
theorem dX3_init_93 : decode cX3_init 93 = .ok (.aload_n 0, 1) := by decide +kernel
theorem dX3_init_94 : decode cX3_init 94 = .ok (.sipush 300, 3) := by decide +kernel
theorem dX3_init_97 : decode cX3_init 97 = .ok (.newarray .int, 2) := by decide +kernel
theorem dX3_init_99 : decode cX3_init 99 = .ok (.putfield 21, 3) := by decide +kernel
theorem dX3_init_102 : decode cX3_init 102 = .ok (.aload_n 0, 1) := by decide +kernel
theorem dX3_init_103 : decode cX3_init 103 = .ok (.bipush 36, 2) := by decide +kernel
theorem dX3_init_105 : decode cX3_init 105 = .ok (.newarray .int, 2) := by decide +kernel
theorem dX3_init_107 : decode cX3_init 107 = .ok (.putfield 24, 3) := by decide +kernel
theorem dX3_init_110 : decode cX3_init 110 = .ok (.aload_n 0, 1) := by decide +kernel
theorem dX3_init_111 : decode cX3_init 111 = .ok (.bipush 15, 2) := by decide +kernel
theorem dX3_init_113 : decode cX3_init 113 = .ok (.newarray .int, 2) := by decide +kernel
theorem dX3_init_115 : decode cX3_init 115 = .ok (.putfield 27, 3) := by decide +kernel
theorem dX3_init_118 : decode cX3_init 118 = .ok (.return_, 1) := by decide +kernel
theorem dX3_isThere_0 : decode cX3_isThere 0 = .ok (.iload_n 1, 1) := by decide +kernel
theorem dX3_isThere_1 : decode cX3_isThere 1 = .ok (.ifCond .lt 15, 3) := by decide +kernel
theorem dX3_isThere_4 : decode cX3_isThere 4 = .ok (.iload_n 1, 1) := by decide +kernel
theorem dX3_isThere_5 : decode cX3_isThere 5 = .ok (.aload_n 0, 1) := by decide +kernel
theorem dX3_isThere_6 : decode cX3_isThere 6 = .ok (.getfield 30, 3) := by decide +kernel
theorem dX3_isThere_9 : decode cX3_isThere 9 = .ok (.if_icmp .ge 7, 3) := by decide +kernel
theorem dX3_isThere_12 : decode cX3_isThere 12 = .ok (.iconst 1, 1) := by decide +kernel
theorem dX3_isThere_13 : decode cX3_isThere 13 = .ok (.goto 4, 3) := by decide +kernel
theorem dX3_isThere_16 : decode cX3_isThere 16 = .ok (.iconst 0, 1) := by decide +kernel
theorem dX3_isThere_17 : decode cX3_isThere 17 = .ok (.ireturn, 1) := by decide +kernel
theorem dX3_areThere_0 : decode cX3_areThere 0 = .ok (.iload_n 1, 1) := by decide +kernel
theorem dX3_areThere_1 : decode cX3_areThere 1 = .ok (.aload_n 0, 1) := by decide +kernel
theorem dX3_areThere_2 : decode cX3_areThere 2 = .ok (.getfield 30, 3) := by decide +kernel
theorem dX3_areThere_5 : decode cX3_areThere 5 = .ok (.iushr, 1) := by decide +kernel
theorem dX3_areThere_6 : decode cX3_areThere 6 = .ok (.ifCond .ne 7, 3) := by decide +kernel
theorem dX3_areThere_9 : decode cX3_areThere 9 = .ok (.iconst 1, 1) := by decide +kernel
theorem dX3_areThere_10 : decode cX3_areThere 10 = .ok (.goto 4, 3) := by decide +kernel
theorem dX3_areThere_13 : decode cX3_areThere 13 = .ok (.iconst 0, 1) := by decide +kernel
theorem dX3_areThere_14 : decode cX3_areThere 14 = .ok (.ireturn, 1) := by decide +kernel
theorem dX3_kindOf_0 : decode cX3_kindOf 0 = .ok (.iload_n 1, 1) := by decide +kernel
theorem dX3_kindOf_1 : decode cX3_kindOf 1 = .ok (.ifCond .lt 21, 3) := by decide +kernel
theorem dX3_kindOf_4 : decode cX3_kindOf 4 = .ok (.iload_n 1, 1) := by decide +kernel
theorem dX3_kindOf_5 : decode cX3_kindOf 5 = .ok (.aload_n 0, 1) := by decide +kernel
theorem dX3_kindOf_6 : decode cX3_kindOf 6 = .ok (.getfield 9, 3) := by decide +kernel
theorem dX3_kindOf_9 : decode cX3_kindOf 9 = .ok (.arraylength, 1) := by decide +kernel
theorem dX3_kindOf_10 : decode cX3_kindOf 10 = .ok (.if_icmp .ge 12, 3) := by decide +kernel
theorem dX3_kindOf_13 : decode cX3_kindOf 13 = .ok (.aload_n 0, 1) := by decide +kernel
theorem dX3_kindOf_14 : decode cX3_kindOf 14 = .ok (.getfield 9, 3) := by decide +kernel
theorem dX3_kindOf_17 : decode cX3_kindOf 17 = .ok (.iload_n 1, 1) := by decide +kernel
theorem dX3_kindOf_18 : decode cX3_kindOf 18 = .ok (.iaload, 1) := by decide +kernel
theorem dX3_kindOf_19 : decode cX3_kindOf 19 = .ok (.goto 4, 3) := by decide +kernel
theorem dX3_kindOf_22 : decode cX3_kindOf 22 = .ok (.iconst 4, 1) := by decide +kernel
theorem dX3_kindOf_23 : decode cX3_kindOf 23 = .ok (.ireturn, 1) := by decide +kernel
theorem dX3_isHidden_0 : decode cX3_isHidden 0 = .ok (.aload_n 0, 1) := by decide +kernel
theorem dX3_isHidden_1 : decode cX3_isHidden 1 = .ok (.getfield 34, 3) := by decide +kernel
theorem dX3_isHidden_4 : decode cX3_isHidden 4 = .ok (.iload_n 1, 1) := by decide +kernel
theorem dX3_isHidden_5 : decode cX3_isHidden 5 = .ok (.iushr, 1) := by decide +kernel
theorem dX3_isHidden_6 : decode cX3_isHidden 6 = .ok (.iconst 1, 1) := by decide +kernel
theorem dX3_isHidden_7 : decode cX3_isHidden 7 = .ok (.iand, 1) := by decide +kernel
theorem dX3_isHidden_8 : decode cX3_isHidden 8 = .ok (.iconst 1, 1) := by decide +kernel
theorem dX3_isHidden_9 : decode cX3_isHidden 9 = .ok (.if_icmp .ne 7, 3) := by decide +kernel
theorem dX3_isHidden_12 : decode cX3_isHidden 12 = .ok (.iconst 1, 1) := by decide +kernel
theorem dX3_isHidden_13 : decode cX3_isHidden 13 = .ok (.goto 4, 3) := by decide +kernel
theorem dX3_isHidden_16 : decode cX3_isHidden 16 = .ok (.iconst 0, 1) := by decide +kernel
theorem dX3_isHidden_17 : decode cX3_isHidden 17 = .ok (.ireturn, 1) := by decide +kernel
theorem dX3_isWet_0 : decode cX3_isWet 0 = .ok (.aload_n 0, 1) := by decide +kernel
theorem dX3_isWet_1 : decode cX3_isWet 1 = .ok (.getfield 37, 3) := by decide +kernel
theorem dX3_isWet_4 : decode cX3_isWet 4 = .ok (.iload_n 1, 1) := by decide +kernel
theorem dX3_isWet_5 : decode cX3_isWet 5 = .ok (.iushr, 1) := by decide +kernel
theorem dX3_isWet_6 : decode cX3_isWet 6 = .ok (.iconst 1, 1) := by decide +kernel
theorem dX3_isWet_7 : decode cX3_isWet 7 = .ok (.iand, 1) := by decide +kernel
theorem dX3_isWet_8 : decode cX3_isWet 8 = .ok (.iconst 1, 1) := by decide +kernel
theorem dX3_isWet_9 : decode cX3_isWet 9 = .ok (.if_icmp .ne 7, 3) := by decide +kernel
theorem dX3_isWet_12 : decode cX3_isWet 12 = .ok (.iconst 1, 1) := by decide +kernel
theorem dX3_isWet_13 : decode cX3_isWet 13 = .ok (.goto 4, 3) := by decide +kernel
theorem dX3_isWet_16 : decode cX3_isWet 16 = .ok (.iconst 0, 1) := by decide +kernel
theorem dX3_isWet_17 : decode cX3_isWet 17 = .ok (.ireturn, 1) := by decide +kernel
theorem dX3_hasPartnerAhead_0 : decode cX3_hasPartnerAhead 0 = .ok (.aload_n 0, 1) := by decide +kernel
theorem dX3_hasPartnerAhead_1 : decode cX3_hasPartnerAhead 1 = .ok (.getfield 30, 3) := by decide +kernel
theorem dX3_hasPartnerAhead_4 : decode cX3_hasPartnerAhead 4 = .ok (.ifCond .le 21, 3) := by decide +kernel
theorem dX3_hasPartnerAhead_7 : decode cX3_hasPartnerAhead 7 = .ok (.aload_n 0, 1) := by decide +kernel
theorem dX3_hasPartnerAhead_8 : decode cX3_hasPartnerAhead 8 = .ok (.aload_n 0, 1) := by decide +kernel
theorem dX3_hasPartnerAhead_9 : decode cX3_hasPartnerAhead 9 = .ok (.getfield 30, 3) := by decide +kernel
theorem dX3_hasPartnerAhead_12 : decode cX3_hasPartnerAhead 12 = .ok (.iconst 1, 1) := by decide +kernel
theorem dX3_hasPartnerAhead_13 : decode cX3_hasPartnerAhead 13 = .ok (.isub, 1) := by decide +kernel
theorem dX3_hasPartnerAhead_14 : decode cX3_hasPartnerAhead 14 = .ok (.invokevirtual 40, 3) := by decide +kernel
theorem dX3_hasPartnerAhead_17 : decode cX3_hasPartnerAhead 17 = .ok (.iconst 4, 1) := by decide +kernel
theorem dX3_hasPartnerAhead_18 : decode cX3_hasPartnerAhead 18 = .ok (.if_icmp .eq 7, 3) := by decide +kernel
theorem dX3_hasPartnerAhead_21 : decode cX3_hasPartnerAhead 21 = .ok (.iconst 1, 1) := by decide +kernel
theorem dX3_hasPartnerAhead_22 : decode cX3_hasPartnerAhead 22 = .ok (.goto 4, 3) := by decide +kernel
theorem dX3_hasPartnerAhead_25 : decode cX3_hasPartnerAhead 25 = .ok (.iconst 0, 1) := by decide +kernel
theorem dX3_hasPartnerAhead_26 : decode cX3_hasPartnerAhead 26 = .ok (.ireturn, 1) := by decide +kernel
theorem dX3_ruleOf_0 : decode cX3_ruleOf 0 = .ok (.iload_n 1, 1) := by decide +kernel
theorem dX3_ruleOf_1 : decode cX3_ruleOf 1 = .ok (.ifCond .lt 21, 3) := by decide +kernel
theorem dX3_ruleOf_4 : decode cX3_ruleOf 4 = .ok (.iload_n 1, 1) := by decide +kernel
theorem dX3_ruleOf_5 : decode cX3_ruleOf 5 = .ok (.aload_n 0, 1) := by decide +kernel
theorem dX3_ruleOf_6 : decode cX3_ruleOf 6 = .ok (.getfield 18, 3) := by decide +kernel
theorem dX3_ruleOf_9 : decode cX3_ruleOf 9 = .ok (.arraylength, 1) := by decide +kernel
theorem dX3_ruleOf_10 : decode cX3_ruleOf 10 = .ok (.if_icmp .ge 12, 3) := by decide +kernel
theorem dX3_ruleOf_13 : decode cX3_ruleOf 13 = .ok (.aload_n 0, 1) := by decide +kernel
theorem dX3_ruleOf_14 : decode cX3_ruleOf 14 = .ok (.getfield 18, 3) := by decide +kernel
theorem dX3_ruleOf_17 : decode cX3_ruleOf 17 = .ok (.iload_n 1, 1) := by decide +kernel
theorem dX3_ruleOf_18 : decode cX3_ruleOf 18 = .ok (.iaload, 1) := by decide +kernel
theorem dX3_ruleOf_19 : decode cX3_ruleOf 19 = .ok (.goto 4, 3) := by decide +kernel
theorem dX3_ruleOf_22 : decode cX3_ruleOf 22 = .ok (.iconst 0, 1) := by decide +kernel
theorem dX3_ruleOf_23 : decode cX3_ruleOf 23 = .ok (.ireturn, 1) := by decide +kernel
theorem dX3_takenBy_0 : decode cX3_takenBy 0 = .ok (.iload_n 1, 1) := by decide +kernel
theorem dX3_takenBy_1 : decode cX3_takenBy 1 = .ok (.ifCond .lt 21, 3) := by decide +kernel
theorem dX3_takenBy_4 : decode cX3_takenBy 4 = .ok (.iload_n 1, 1) := by decide +kernel
theorem dX3_takenBy_5 : decode cX3_takenBy 5 = .ok (.aload_n 0, 1) := by decide +kernel
theorem dX3_takenBy_6 : decode cX3_takenBy 6 = .ok (.getfield 15, 3) := by decide +kernel
theorem dX3_takenBy_9 : decode cX3_takenBy 9 = .ok (.arraylength, 1) := by decide +kernel
theorem dX3_takenBy_10 : decode cX3_takenBy 10 = .ok (.if_icmp .ge 12, 3) := by decide +kernel
theorem dX3_takenBy_13 : decode cX3_takenBy 13 = .ok (.aload_n 0, 1) := by decide +kernel
theorem dX3_takenBy_14 : decode cX3_takenBy 14 = .ok (.getfield 15, 3) := by decide +kernel
theorem dX3_takenBy_17 : decode cX3_takenBy 17 = .ok (.iload_n 1, 1) := by decide +kernel
theorem dX3_takenBy_18 : decode cX3_takenBy 18 = .ok (.iaload, 1) := by decide +kernel
theorem dX3_takenBy_19 : decode cX3_takenBy 19 = .ok (.goto 4, 3) := by decide +kernel
theorem dX3_takenBy_22 : decode cX3_takenBy 22 = .ok (.iconst 0, 1) := by decide +kernel
theorem dX3_takenBy_23 : decode cX3_takenBy 23 = .ok (.ireturn, 1) := by decide +kernel
theorem dX3_eventPart_0 : decode cX3_eventPart 0 = .ok (.iload_n 1, 1) := by decide +kernel
theorem dX3_eventPart_1 : decode cX3_eventPart 1 = .ok (.iconst 5, 1) := by decide +kernel
theorem dX3_eventPart_2 : decode cX3_eventPart 2 = .ok (.imul, 1) := by decide +kernel
theorem dX3_eventPart_3 : decode cX3_eventPart 3 = .ok (.iload_n 2, 1) := by decide +kernel
theorem dX3_eventPart_4 : decode cX3_eventPart 4 = .ok (.iadd, 1) := by decide +kernel
theorem dX3_eventPart_5 : decode cX3_eventPart 5 = .ok (.istore_n 3, 1) := by decide +kernel
theorem dX3_eventPart_6 : decode cX3_eventPart 6 = .ok (.iload_n 3, 1) := by decide +kernel
theorem dX3_eventPart_7 : decode cX3_eventPart 7 = .ok (.ifCond .lt 21, 3) := by decide +kernel
theorem dX3_eventPart_10 : decode cX3_eventPart 10 = .ok (.iload_n 3, 1) := by decide +kernel
theorem dX3_eventPart_11 : decode cX3_eventPart 11 = .ok (.aload_n 0, 1) := by decide +kernel
theorem dX3_eventPart_12 : decode cX3_eventPart 12 = .ok (.getfield 21, 3) := by decide +kernel
theorem dX3_eventPart_15 : decode cX3_eventPart 15 = .ok (.arraylength, 1) := by decide +kernel
theorem dX3_eventPart_16 : decode cX3_eventPart 16 = .ok (.if_icmp .ge 12, 3) := by decide +kernel
theorem dX3_eventPart_19 : decode cX3_eventPart 19 = .ok (.aload_n 0, 1) := by decide +kernel
theorem dX3_eventPart_20 : decode cX3_eventPart 20 = .ok (.getfield 21, 3) := by decide +kernel
theorem dX3_eventPart_23 : decode cX3_eventPart 23 = .ok (.iload_n 3, 1) := by decide +kernel
theorem dX3_eventPart_24 : decode cX3_eventPart 24 = .ok (.iaload, 1) := by decide +kernel
theorem dX3_eventPart_25 : decode cX3_eventPart 25 = .ok (.goto 4, 3) := by decide +kernel
theorem dX3_eventPart_28 : decode cX3_eventPart 28 = .ok (.iconst 0, 1) := by decide +kernel
theorem dX3_eventPart_29 : decode cX3_eventPart 29 = .ok (.ireturn, 1) := by decide +kernel
theorem dX3_factPart_0 : decode cX3_factPart 0 = .ok (.iload_n 1, 1) := by decide +kernel
theorem dX3_factPart_1 : decode cX3_factPart 1 = .ok (.iconst 3, 1) := by decide +kernel
theorem dX3_factPart_2 : decode cX3_factPart 2 = .ok (.imul, 1) := by decide +kernel
theorem dX3_factPart_3 : decode cX3_factPart 3 = .ok (.iload_n 2, 1) := by decide +kernel
theorem dX3_factPart_4 : decode cX3_factPart 4 = .ok (.iadd, 1) := by decide +kernel
theorem dX3_factPart_5 : decode cX3_factPart 5 = .ok (.istore_n 3, 1) := by decide +kernel
theorem dX3_factPart_6 : decode cX3_factPart 6 = .ok (.iload_n 3, 1) := by decide +kernel
theorem dX3_factPart_7 : decode cX3_factPart 7 = .ok (.ifCond .lt 21, 3) := by decide +kernel
theorem dX3_factPart_10 : decode cX3_factPart 10 = .ok (.iload_n 3, 1) := by decide +kernel
theorem dX3_factPart_11 : decode cX3_factPart 11 = .ok (.aload_n 0, 1) := by decide +kernel
theorem dX3_factPart_12 : decode cX3_factPart 12 = .ok (.getfield 24, 3) := by decide +kernel
theorem dX3_factPart_15 : decode cX3_factPart 15 = .ok (.arraylength, 1) := by decide +kernel
theorem dX3_factPart_16 : decode cX3_factPart 16 = .ok (.if_icmp .ge 12, 3) := by decide +kernel
theorem dX3_factPart_19 : decode cX3_factPart 19 = .ok (.aload_n 0, 1) := by decide +kernel
theorem dX3_factPart_20 : decode cX3_factPart 20 = .ok (.getfield 24, 3) := by decide +kernel
theorem dX3_factPart_23 : decode cX3_factPart 23 = .ok (.iload_n 3, 1) := by decide +kernel
theorem dX3_factPart_24 : decode cX3_factPart 24 = .ok (.iaload, 1) := by decide +kernel
theorem dX3_factPart_25 : decode cX3_factPart 25 = .ok (.goto 4, 3) := by decide +kernel
theorem dX3_factPart_28 : decode cX3_factPart 28 = .ok (.iconst 0, 1) := by decide +kernel
theorem dX3_factPart_29 : decode cX3_factPart 29 = .ok (.ireturn, 1) := by decide +kernel
theorem dX3_stepPart_0 : decode cX3_stepPart 0 = .ok (.iload_n 1, 1) := by decide +kernel
theorem dX3_stepPart_1 : decode cX3_stepPart 1 = .ok (.iconst 3, 1) := by decide +kernel
theorem dX3_stepPart_2 : decode cX3_stepPart 2 = .ok (.imul, 1) := by decide +kernel
theorem dX3_stepPart_3 : decode cX3_stepPart 3 = .ok (.iload_n 2, 1) := by decide +kernel
theorem dX3_stepPart_4 : decode cX3_stepPart 4 = .ok (.iadd, 1) := by decide +kernel
theorem dX3_stepPart_5 : decode cX3_stepPart 5 = .ok (.istore_n 3, 1) := by decide +kernel
theorem dX3_stepPart_6 : decode cX3_stepPart 6 = .ok (.iload_n 3, 1) := by decide +kernel
theorem dX3_stepPart_7 : decode cX3_stepPart 7 = .ok (.ifCond .lt 21, 3) := by decide +kernel
theorem dX3_stepPart_10 : decode cX3_stepPart 10 = .ok (.iload_n 3, 1) := by decide +kernel
theorem dX3_stepPart_11 : decode cX3_stepPart 11 = .ok (.aload_n 0, 1) := by decide +kernel
theorem dX3_stepPart_12 : decode cX3_stepPart 12 = .ok (.getfield 27, 3) := by decide +kernel
theorem dX3_stepPart_15 : decode cX3_stepPart 15 = .ok (.arraylength, 1) := by decide +kernel
theorem dX3_stepPart_16 : decode cX3_stepPart 16 = .ok (.if_icmp .ge 12, 3) := by decide +kernel
theorem dX3_stepPart_19 : decode cX3_stepPart 19 = .ok (.aload_n 0, 1) := by decide +kernel
theorem dX3_stepPart_20 : decode cX3_stepPart 20 = .ok (.getfield 27, 3) := by decide +kernel
theorem dX3_stepPart_23 : decode cX3_stepPart 23 = .ok (.iload_n 3, 1) := by decide +kernel
theorem dX3_stepPart_24 : decode cX3_stepPart 24 = .ok (.iaload, 1) := by decide +kernel
theorem dX3_stepPart_25 : decode cX3_stepPart 25 = .ok (.goto 4, 3) := by decide +kernel
theorem dX3_stepPart_28 : decode cX3_stepPart 28 = .ok (.iconst 0, 1) := by decide +kernel
theorem dX3_stepPart_29 : decode cX3_stepPart 29 = .ok (.ireturn, 1) := by decide +kernel
theorem dX3_addThing_0 : decode cX3_addThing 0 = .ok (.aload_n 0, 1) := by decide +kernel
theorem dX3_addThing_1 : decode cX3_addThing 1 = .ok (.getfield 30, 3) := by decide +kernel
theorem dX3_addThing_4 : decode cX3_addThing 4 = .ok (.istore 4, 2) := by decide +kernel
theorem dX3_addThing_6 : decode cX3_addThing 6 = .ok (.iload 4, 2) := by decide +kernel
theorem dX3_addThing_8 : decode cX3_addThing 8 = .ok (.ifCond .lt 13, 3) := by decide +kernel
theorem dX3_addThing_11 : decode cX3_addThing 11 = .ok (.iload 4, 2) := by decide +kernel
theorem dX3_addThing_13 : decode cX3_addThing 13 = .ok (.aload_n 0, 1) := by decide +kernel
theorem dX3_addThing_14 : decode cX3_addThing 14 = .ok (.getfield 9, 3) := by decide +kernel
theorem dX3_addThing_17 : decode cX3_addThing 17 = .ok (.arraylength, 1) := by decide +kernel
theorem dX3_addThing_18 : decode cX3_addThing 18 = .ok (.if_icmp .lt 6, 3) := by decide +kernel
theorem dX3_addThing_21 : decode cX3_addThing 21 = .ok (.bipush (-6), 2) := by decide +kernel
theorem dX3_addThing_23 : decode cX3_addThing 23 = .ok (.ireturn, 1) := by decide +kernel
theorem dX3_addThing_24 : decode cX3_addThing 24 = .ok (.aload_n 0, 1) := by decide +kernel
theorem dX3_addThing_25 : decode cX3_addThing 25 = .ok (.getfield 9, 3) := by decide +kernel
theorem dX3_addThing_28 : decode cX3_addThing 28 = .ok (.iload 4, 2) := by decide +kernel
theorem dX3_addThing_30 : decode cX3_addThing 30 = .ok (.iload_n 1, 1) := by decide +kernel
theorem dX3_addThing_31 : decode cX3_addThing 31 = .ok (.iastore, 1) := by decide +kernel
theorem dX3_addThing_32 : decode cX3_addThing 32 = .ok (.iconst 1, 1) := by decide +kernel
theorem dX3_addThing_33 : decode cX3_addThing 33 = .ok (.iload 4, 2) := by decide +kernel
theorem dX3_addThing_35 : decode cX3_addThing 35 = .ok (.ishl, 1) := by decide +kernel
theorem dX3_addThing_36 : decode cX3_addThing 36 = .ok (.istore 5, 2) := by decide +kernel
theorem dX3_addThing_38 : decode cX3_addThing 38 = .ok (.iload_n 2, 1) := by decide +kernel
theorem dX3_addThing_39 : decode cX3_addThing 39 = .ok (.ifCond .ne 8, 3) := by decide +kernel
theorem dX3_addThing_42 : decode cX3_addThing 42 = .ok (.iload_n 1, 1) := by decide +kernel
theorem dX3_addThing_43 : decode cX3_addThing 43 = .ok (.iconst 2, 1) := by decide +kernel
theorem dX3_addThing_44 : decode cX3_addThing 44 = .ok (.if_icmp .ne 7, 3) := by decide +kernel
theorem dX3_addThing_47 : decode cX3_addThing 47 = .ok (.iconst 1, 1) := by decide +kernel
theorem dX3_addThing_48 : decode cX3_addThing 48 = .ok (.goto 4, 3) := by decide +kernel
theorem dX3_addThing_51 : decode cX3_addThing 51 = .ok (.iconst 0, 1) := by decide +kernel
theorem dX3_addThing_52 : decode cX3_addThing 52 = .ok (.istore 6, 2) := by decide +kernel
theorem dX3_addThing_54 : decode cX3_addThing 54 = .ok (.aload_n 0, 1) := by decide +kernel
theorem dX3_addThing_55 : decode cX3_addThing 55 = .ok (.iload 6, 2) := by decide +kernel
theorem dX3_addThing_57 : decode cX3_addThing 57 = .ok (.ifCond .eq 13, 3) := by decide +kernel
theorem dX3_addThing_60 : decode cX3_addThing 60 = .ok (.aload_n 0, 1) := by decide +kernel
theorem dX3_addThing_61 : decode cX3_addThing 61 = .ok (.getfield 37, 3) := by decide +kernel
theorem dX3_addThing_64 : decode cX3_addThing 64 = .ok (.iload 5, 2) := by decide +kernel
theorem dX3_addThing_66 : decode cX3_addThing 66 = .ok (.ior, 1) := by decide +kernel
theorem dX3_addThing_67 : decode cX3_addThing 67 = .ok (.goto 12, 3) := by decide +kernel
theorem dX3_addThing_70 : decode cX3_addThing 70 = .ok (.aload_n 0, 1) := by decide +kernel
theorem dX3_addThing_71 : decode cX3_addThing 71 = .ok (.getfield 37, 3) := by decide +kernel
theorem dX3_addThing_74 : decode cX3_addThing 74 = .ok (.iload 5, 2) := by decide +kernel
theorem dX3_addThing_76 : decode cX3_addThing 76 = .ok (.iconst (-1), 1) := by decide +kernel
theorem dX3_addThing_77 : decode cX3_addThing 77 = .ok (.ixor, 1) := by decide +kernel
theorem dX3_addThing_78 : decode cX3_addThing 78 = .ok (.iand, 1) := by decide +kernel
theorem dX3_addThing_79 : decode cX3_addThing 79 = .ok (.putfield 37, 3) := by decide +kernel
theorem dX3_addThing_82 : decode cX3_addThing 82 = .ok (.aload_n 0, 1) := by decide +kernel
theorem dX3_addThing_83 : decode cX3_addThing 83 = .ok (.iload_n 3, 1) := by decide +kernel
theorem dX3_addThing_84 : decode cX3_addThing 84 = .ok (.ifCond .eq 13, 3) := by decide +kernel
theorem dX3_addThing_87 : decode cX3_addThing 87 = .ok (.aload_n 0, 1) := by decide +kernel
theorem dX3_addThing_88 : decode cX3_addThing 88 = .ok (.getfield 34, 3) := by decide +kernel
theorem dX3_addThing_91 : decode cX3_addThing 91 = .ok (.iload 5, 2) := by decide +kernel
theorem dX3_addThing_93 : decode cX3_addThing 93 = .ok (.ior, 1) := by decide +kernel
theorem dX3_addThing_94 : decode cX3_addThing 94 = .ok (.goto 12, 3) := by decide +kernel
theorem dX3_addThing_97 : decode cX3_addThing 97 = .ok (.aload_n 0, 1) := by decide +kernel
theorem dX3_addThing_98 : decode cX3_addThing 98 = .ok (.getfield 34, 3) := by decide +kernel
theorem dX3_addThing_101 : decode cX3_addThing 101 = .ok (.iload 5, 2) := by decide +kernel
theorem dX3_addThing_103 : decode cX3_addThing 103 = .ok (.iconst (-1), 1) := by decide +kernel
theorem dX3_addThing_104 : decode cX3_addThing 104 = .ok (.ixor, 1) := by decide +kernel
theorem dX3_addThing_105 : decode cX3_addThing 105 = .ok (.iand, 1) := by decide +kernel
theorem dX3_addThing_106 : decode cX3_addThing 106 = .ok (.putfield 34, 3) := by decide +kernel
theorem dX3_addThing_109 : decode cX3_addThing 109 = .ok (.aload_n 0, 1) := by decide +kernel
theorem dX3_addThing_110 : decode cX3_addThing 110 = .ok (.dup, 1) := by decide +kernel
theorem dX3_addThing_111 : decode cX3_addThing 111 = .ok (.getfield 30, 3) := by decide +kernel
theorem dX3_addThing_114 : decode cX3_addThing 114 = .ok (.iconst 1, 1) := by decide +kernel
theorem dX3_addThing_115 : decode cX3_addThing 115 = .ok (.iadd, 1) := by decide +kernel
theorem dX3_addThing_116 : decode cX3_addThing 116 = .ok (.putfield 30, 3) := by decide +kernel
theorem dX3_addThing_119 : decode cX3_addThing 119 = .ok (.aload_n 0, 1) := by decide +kernel
theorem dX3_addThing_120 : decode cX3_addThing 120 = .ok (.dup, 1) := by decide +kernel
theorem dX3_addThing_121 : decode cX3_addThing 121 = .ok (.getfield 44, 3) := by decide +kernel
theorem dX3_addThing_124 : decode cX3_addThing 124 = .ok (.iconst 1, 1) := by decide +kernel
theorem dX3_addThing_125 : decode cX3_addThing 125 = .ok (.iadd, 1) := by decide +kernel
theorem dX3_addThing_126 : decode cX3_addThing 126 = .ok (.putfield 44, 3) := by decide +kernel
theorem dX3_addThing_129 : decode cX3_addThing 129 = .ok (.iload 4, 2) := by decide +kernel
theorem dX3_addThing_131 : decode cX3_addThing 131 = .ok (.ireturn, 1) := by decide +kernel
theorem dX3_setTaken_0 : decode cX3_setTaken 0 = .ok (.iload_n 1, 1) := by decide +kernel
theorem dX3_setTaken_1 : decode cX3_setTaken 1 = .ok (.ifCond .lt 12, 3) := by decide +kernel
theorem dX3_setTaken_4 : decode cX3_setTaken 4 = .ok (.iload_n 1, 1) := by decide +kernel
theorem dX3_setTaken_5 : decode cX3_setTaken 5 = .ok (.aload_n 0, 1) := by decide +kernel
theorem dX3_setTaken_6 : decode cX3_setTaken 6 = .ok (.getfield 15, 3) := by decide +kernel
theorem dX3_setTaken_9 : decode cX3_setTaken 9 = .ok (.arraylength, 1) := by decide +kernel
theorem dX3_setTaken_10 : decode cX3_setTaken 10 = .ok (.if_icmp .lt 5, 3) := by decide +kernel
theorem dX3_setTaken_13 : decode cX3_setTaken 13 = .ok (.iconst 0, 1) := by decide +kernel
theorem dX3_setTaken_14 : decode cX3_setTaken 14 = .ok (.ireturn, 1) := by decide +kernel
theorem dX3_setTaken_15 : decode cX3_setTaken 15 = .ok (.aload_n 0, 1) := by decide +kernel
theorem dX3_setTaken_16 : decode cX3_setTaken 16 = .ok (.getfield 15, 3) := by decide +kernel
theorem dX3_setTaken_19 : decode cX3_setTaken 19 = .ok (.iload_n 1, 1) := by decide +kernel
theorem dX3_setTaken_20 : decode cX3_setTaken 20 = .ok (.iaload, 1) := by decide +kernel
theorem dX3_setTaken_21 : decode cX3_setTaken 21 = .ok (.istore_n 3, 1) := by decide +kernel
theorem dX3_setTaken_22 : decode cX3_setTaken 22 = .ok (.aload_n 0, 1) := by decide +kernel
theorem dX3_setTaken_23 : decode cX3_setTaken 23 = .ok (.getfield 15, 3) := by decide +kernel
theorem dX3_setTaken_26 : decode cX3_setTaken 26 = .ok (.iload_n 1, 1) := by decide +kernel
theorem dX3_setTaken_27 : decode cX3_setTaken 27 = .ok (.iload_n 2, 1) := by decide +kernel
theorem dX3_setTaken_28 : decode cX3_setTaken 28 = .ok (.iastore, 1) := by decide +kernel
theorem dX3_setTaken_29 : decode cX3_setTaken 29 = .ok (.aload_n 0, 1) := by decide +kernel
theorem dX3_setTaken_30 : decode cX3_setTaken 30 = .ok (.dup, 1) := by decide +kernel
theorem dX3_setTaken_31 : decode cX3_setTaken 31 = .ok (.getfield 44, 3) := by decide +kernel
theorem dX3_setTaken_34 : decode cX3_setTaken 34 = .ok (.iconst 1, 1) := by decide +kernel
theorem dX3_setTaken_35 : decode cX3_setTaken 35 = .ok (.iadd, 1) := by decide +kernel
theorem dX3_setTaken_36 : decode cX3_setTaken 36 = .ok (.putfield 44, 3) := by decide +kernel
theorem dX3_setTaken_39 : decode cX3_setTaken 39 = .ok (.iload_n 3, 1) := by decide +kernel
theorem dX3_setTaken_40 : decode cX3_setTaken 40 = .ok (.ireturn, 1) := by decide +kernel
theorem dX3_setRule_0 : decode cX3_setRule 0 = .ok (.iload_n 1, 1) := by decide +kernel
theorem dX3_setRule_1 : decode cX3_setRule 1 = .ok (.ifCond .lt 12, 3) := by decide +kernel
theorem dX3_setRule_4 : decode cX3_setRule 4 = .ok (.iload_n 1, 1) := by decide +kernel
theorem dX3_setRule_5 : decode cX3_setRule 5 = .ok (.aload_n 0, 1) := by decide +kernel
theorem dX3_setRule_6 : decode cX3_setRule 6 = .ok (.getfield 18, 3) := by decide +kernel
theorem dX3_setRule_9 : decode cX3_setRule 9 = .ok (.arraylength, 1) := by decide +kernel
theorem dX3_setRule_10 : decode cX3_setRule 10 = .ok (.if_icmp .lt 5, 3) := by decide +kernel
theorem dX3_setRule_13 : decode cX3_setRule 13 = .ok (.iconst 0, 1) := by decide +kernel
theorem dX3_setRule_14 : decode cX3_setRule 14 = .ok (.ireturn, 1) := by decide +kernel
theorem dX3_setRule_15 : decode cX3_setRule 15 = .ok (.aload_n 0, 1) := by decide +kernel
theorem dX3_setRule_16 : decode cX3_setRule 16 = .ok (.getfield 18, 3) := by decide +kernel
theorem dX3_setRule_19 : decode cX3_setRule 19 = .ok (.iload_n 1, 1) := by decide +kernel
theorem dX3_setRule_20 : decode cX3_setRule 20 = .ok (.iaload, 1) := by decide +kernel
theorem dX3_setRule_21 : decode cX3_setRule 21 = .ok (.istore_n 3, 1) := by decide +kernel
theorem dX3_setRule_22 : decode cX3_setRule 22 = .ok (.aload_n 0, 1) := by decide +kernel
theorem dX3_setRule_23 : decode cX3_setRule 23 = .ok (.getfield 18, 3) := by decide +kernel
theorem dX3_setRule_26 : decode cX3_setRule 26 = .ok (.iload_n 1, 1) := by decide +kernel
theorem dX3_setRule_27 : decode cX3_setRule 27 = .ok (.iload_n 2, 1) := by decide +kernel
theorem dX3_setRule_28 : decode cX3_setRule 28 = .ok (.iastore, 1) := by decide +kernel
theorem dX3_setRule_29 : decode cX3_setRule 29 = .ok (.aload_n 0, 1) := by decide +kernel
theorem dX3_setRule_30 : decode cX3_setRule 30 = .ok (.dup, 1) := by decide +kernel
theorem dX3_setRule_31 : decode cX3_setRule 31 = .ok (.getfield 44, 3) := by decide +kernel
theorem dX3_setRule_34 : decode cX3_setRule 34 = .ok (.iconst 1, 1) := by decide +kernel
theorem dX3_setRule_35 : decode cX3_setRule 35 = .ok (.iadd, 1) := by decide +kernel
theorem dX3_setRule_36 : decode cX3_setRule 36 = .ok (.putfield 44, 3) := by decide +kernel
theorem dX3_setRule_39 : decode cX3_setRule 39 = .ok (.iload_n 3, 1) := by decide +kernel
theorem dX3_setRule_40 : decode cX3_setRule 40 = .ok (.ireturn, 1) := by decide +kernel
theorem dX3_addEvent_0 : decode cX3_addEvent 0 = .ok (.aload_n 0, 1) := by decide +kernel
theorem dX3_addEvent_1 : decode cX3_addEvent 1 = .ok (.getfield 47, 3) := by decide +kernel
theorem dX3_addEvent_4 : decode cX3_addEvent 4 = .ok (.iconst 5, 1) := by decide +kernel
theorem dX3_addEvent_5 : decode cX3_addEvent 5 = .ok (.imul, 1) := by decide +kernel
theorem dX3_addEvent_6 : decode cX3_addEvent 6 = .ok (.istore 6, 2) := by decide +kernel
theorem dX3_addEvent_8 : decode cX3_addEvent 8 = .ok (.iload 6, 2) := by decide +kernel
theorem dX3_addEvent_10 : decode cX3_addEvent 10 = .ok (.ifCond .lt 15, 3) := by decide +kernel
theorem dX3_addEvent_13 : decode cX3_addEvent 13 = .ok (.iload 6, 2) := by decide +kernel
theorem dX3_addEvent_15 : decode cX3_addEvent 15 = .ok (.iconst 5, 1) := by decide +kernel
theorem dX3_addEvent_16 : decode cX3_addEvent 16 = .ok (.iadd, 1) := by decide +kernel
theorem dX3_addEvent_17 : decode cX3_addEvent 17 = .ok (.aload_n 0, 1) := by decide +kernel
theorem dX3_addEvent_18 : decode cX3_addEvent 18 = .ok (.getfield 21, 3) := by decide +kernel
theorem dX3_addEvent_21 : decode cX3_addEvent 21 = .ok (.arraylength, 1) := by decide +kernel
theorem dX3_addEvent_22 : decode cX3_addEvent 22 = .ok (.if_icmp .le 6, 3) := by decide +kernel
theorem dX3_addEvent_25 : decode cX3_addEvent 25 = .ok (.bipush (-6), 2) := by decide +kernel
theorem dX3_addEvent_27 : decode cX3_addEvent 27 = .ok (.ireturn, 1) := by decide +kernel
theorem dX3_addEvent_28 : decode cX3_addEvent 28 = .ok (.aload_n 0, 1) := by decide +kernel
theorem dX3_addEvent_29 : decode cX3_addEvent 29 = .ok (.getfield 21, 3) := by decide +kernel
theorem dX3_addEvent_32 : decode cX3_addEvent 32 = .ok (.iload 6, 2) := by decide +kernel
theorem dX3_addEvent_34 : decode cX3_addEvent 34 = .ok (.iload_n 1, 1) := by decide +kernel
theorem dX3_addEvent_35 : decode cX3_addEvent 35 = .ok (.iastore, 1) := by decide +kernel
theorem dX3_addEvent_36 : decode cX3_addEvent 36 = .ok (.aload_n 0, 1) := by decide +kernel
theorem dX3_addEvent_37 : decode cX3_addEvent 37 = .ok (.getfield 21, 3) := by decide +kernel
theorem dX3_addEvent_40 : decode cX3_addEvent 40 = .ok (.iload 6, 2) := by decide +kernel
theorem dX3_addEvent_42 : decode cX3_addEvent 42 = .ok (.iconst 1, 1) := by decide +kernel
theorem dX3_addEvent_43 : decode cX3_addEvent 43 = .ok (.iadd, 1) := by decide +kernel
theorem dX3_addEvent_44 : decode cX3_addEvent 44 = .ok (.iload_n 2, 1) := by decide +kernel
theorem dX3_addEvent_45 : decode cX3_addEvent 45 = .ok (.iastore, 1) := by decide +kernel
theorem dX3_addEvent_46 : decode cX3_addEvent 46 = .ok (.aload_n 0, 1) := by decide +kernel
theorem dX3_addEvent_47 : decode cX3_addEvent 47 = .ok (.getfield 21, 3) := by decide +kernel
theorem dX3_addEvent_50 : decode cX3_addEvent 50 = .ok (.iload 6, 2) := by decide +kernel
theorem dX3_addEvent_52 : decode cX3_addEvent 52 = .ok (.iconst 2, 1) := by decide +kernel
theorem dX3_addEvent_53 : decode cX3_addEvent 53 = .ok (.iadd, 1) := by decide +kernel
theorem dX3_addEvent_54 : decode cX3_addEvent 54 = .ok (.iload_n 3, 1) := by decide +kernel
theorem dX3_addEvent_55 : decode cX3_addEvent 55 = .ok (.iastore, 1) := by decide +kernel
theorem dX3_addEvent_56 : decode cX3_addEvent 56 = .ok (.aload_n 0, 1) := by decide +kernel
theorem dX3_addEvent_57 : decode cX3_addEvent 57 = .ok (.getfield 21, 3) := by decide +kernel
theorem dX3_addEvent_60 : decode cX3_addEvent 60 = .ok (.iload 6, 2) := by decide +kernel
theorem dX3_addEvent_62 : decode cX3_addEvent 62 = .ok (.iconst 3, 1) := by decide +kernel
theorem dX3_addEvent_63 : decode cX3_addEvent 63 = .ok (.iadd, 1) := by decide +kernel
theorem dX3_addEvent_64 : decode cX3_addEvent 64 = .ok (.iload_n 2, 1) := by decide +kernel
theorem dX3_addEvent_65 : decode cX3_addEvent 65 = .ok (.invokestatic 50, 3) := by decide +kernel
theorem dX3_addEvent_68 : decode cX3_addEvent 68 = .ok (.ifCond .eq 8, 3) := by decide +kernel
theorem dX3_addEvent_71 : decode cX3_addEvent 71 = .ok (.iload 4, 2) := by decide +kernel
theorem dX3_addEvent_73 : decode cX3_addEvent 73 = .ok (.goto 5, 3) := by decide +kernel
theorem dX3_addEvent_76 : decode cX3_addEvent 76 = .ok (.bipush (-9), 2) := by decide +kernel
theorem dX3_addEvent_78 : decode cX3_addEvent 78 = .ok (.iastore, 1) := by decide +kernel
theorem dX3_addEvent_79 : decode cX3_addEvent 79 = .ok (.aload_n 0, 1) := by decide +kernel
theorem dX3_addEvent_80 : decode cX3_addEvent 80 = .ok (.getfield 21, 3) := by decide +kernel
theorem dX3_addEvent_83 : decode cX3_addEvent 83 = .ok (.iload 6, 2) := by decide +kernel
theorem dX3_addEvent_85 : decode cX3_addEvent 85 = .ok (.iconst 4, 1) := by decide +kernel
theorem dX3_addEvent_86 : decode cX3_addEvent 86 = .ok (.iadd, 1) := by decide +kernel
theorem dX3_addEvent_87 : decode cX3_addEvent 87 = .ok (.iload 5, 2) := by decide +kernel
theorem dX3_addEvent_89 : decode cX3_addEvent 89 = .ok (.iastore, 1) := by decide +kernel
theorem dX3_addEvent_90 : decode cX3_addEvent 90 = .ok (.aload_n 0, 1) := by decide +kernel
theorem dX3_addEvent_91 : decode cX3_addEvent 91 = .ok (.dup, 1) := by decide +kernel
theorem dX3_addEvent_92 : decode cX3_addEvent 92 = .ok (.getfield 44, 3) := by decide +kernel
theorem dX3_addEvent_95 : decode cX3_addEvent 95 = .ok (.iconst 1, 1) := by decide +kernel
theorem dX3_addEvent_96 : decode cX3_addEvent 96 = .ok (.iadd, 1) := by decide +kernel
theorem dX3_addEvent_97 : decode cX3_addEvent 97 = .ok (.putfield 44, 3) := by decide +kernel
theorem dX3_addEvent_100 : decode cX3_addEvent 100 = .ok (.aload_n 0, 1) := by decide +kernel
theorem dX3_addEvent_101 : decode cX3_addEvent 101 = .ok (.dup, 1) := by decide +kernel
theorem dX3_addEvent_102 : decode cX3_addEvent 102 = .ok (.getfield 47, 3) := by decide +kernel
theorem dX3_addEvent_105 : decode cX3_addEvent 105 = .ok (.dup_x1, 1) := by decide +kernel
theorem dX3_addEvent_106 : decode cX3_addEvent 106 = .ok (.iconst 1, 1) := by decide +kernel
theorem dX3_addEvent_107 : decode cX3_addEvent 107 = .ok (.iadd, 1) := by decide +kernel
theorem dX3_addEvent_108 : decode cX3_addEvent 108 = .ok (.putfield 47, 3) := by decide +kernel
theorem dX3_addEvent_111 : decode cX3_addEvent 111 = .ok (.ireturn, 1) := by decide +kernel
theorem dX3_dropEvent_0 : decode cX3_dropEvent 0 = .ok (.aload_n 0, 1) := by decide +kernel
theorem dX3_dropEvent_1 : decode cX3_dropEvent 1 = .ok (.dup, 1) := by decide +kernel
theorem dX3_dropEvent_2 : decode cX3_dropEvent 2 = .ok (.getfield 47, 3) := by decide +kernel
theorem dX3_dropEvent_5 : decode cX3_dropEvent 5 = .ok (.iconst 1, 1) := by decide +kernel
theorem dX3_dropEvent_6 : decode cX3_dropEvent 6 = .ok (.isub, 1) := by decide +kernel
theorem dX3_dropEvent_7 : decode cX3_dropEvent 7 = .ok (.putfield 47, 3) := by decide +kernel
theorem dX3_dropEvent_10 : decode cX3_dropEvent 10 = .ok (.aload_n 0, 1) := by decide +kernel
theorem dX3_dropEvent_11 : decode cX3_dropEvent 11 = .ok (.dup, 1) := by decide +kernel
theorem dX3_dropEvent_12 : decode cX3_dropEvent 12 = .ok (.getfield 44, 3) := by decide +kernel
theorem dX3_dropEvent_15 : decode cX3_dropEvent 15 = .ok (.iconst 1, 1) := by decide +kernel
theorem dX3_dropEvent_16 : decode cX3_dropEvent 16 = .ok (.iadd, 1) := by decide +kernel
theorem dX3_dropEvent_17 : decode cX3_dropEvent 17 = .ok (.putfield 44, 3) := by decide +kernel
theorem dX3_dropEvent_20 : decode cX3_dropEvent 20 = .ok (.aload_n 0, 1) := by decide +kernel
theorem dX3_dropEvent_21 : decode cX3_dropEvent 21 = .ok (.getfield 47, 3) := by decide +kernel
theorem dX3_dropEvent_24 : decode cX3_dropEvent 24 = .ok (.ireturn, 1) := by decide +kernel
theorem dX3_addFact_0 : decode cX3_addFact 0 = .ok (.aload_n 0, 1) := by decide +kernel
theorem dX3_addFact_1 : decode cX3_addFact 1 = .ok (.getfield 54, 3) := by decide +kernel
theorem dX3_addFact_4 : decode cX3_addFact 4 = .ok (.iconst 3, 1) := by decide +kernel
theorem dX3_addFact_5 : decode cX3_addFact 5 = .ok (.imul, 1) := by decide +kernel
theorem dX3_addFact_6 : decode cX3_addFact 6 = .ok (.istore 4, 2) := by decide +kernel
theorem dX3_addFact_8 : decode cX3_addFact 8 = .ok (.iload 4, 2) := by decide +kernel
theorem dX3_addFact_10 : decode cX3_addFact 10 = .ok (.ifCond .lt 15, 3) := by decide +kernel
theorem dX3_addFact_13 : decode cX3_addFact 13 = .ok (.iload 4, 2) := by decide +kernel
theorem dX3_addFact_15 : decode cX3_addFact 15 = .ok (.iconst 3, 1) := by decide +kernel
theorem dX3_addFact_16 : decode cX3_addFact 16 = .ok (.iadd, 1) := by decide +kernel
theorem dX3_addFact_17 : decode cX3_addFact 17 = .ok (.aload_n 0, 1) := by decide +kernel
theorem dX3_addFact_18 : decode cX3_addFact 18 = .ok (.getfield 24, 3) := by decide +kernel
theorem dX3_addFact_21 : decode cX3_addFact 21 = .ok (.arraylength, 1) := by decide +kernel
theorem dX3_addFact_22 : decode cX3_addFact 22 = .ok (.if_icmp .le 6, 3) := by decide +kernel
theorem dX3_addFact_25 : decode cX3_addFact 25 = .ok (.bipush (-6), 2) := by decide +kernel
theorem dX3_addFact_27 : decode cX3_addFact 27 = .ok (.ireturn, 1) := by decide +kernel
theorem dX3_addFact_28 : decode cX3_addFact 28 = .ok (.aload_n 0, 1) := by decide +kernel
theorem dX3_addFact_29 : decode cX3_addFact 29 = .ok (.getfield 24, 3) := by decide +kernel
theorem dX3_addFact_32 : decode cX3_addFact 32 = .ok (.iload 4, 2) := by decide +kernel
theorem dX3_addFact_34 : decode cX3_addFact 34 = .ok (.iload_n 1, 1) := by decide +kernel
theorem dX3_addFact_35 : decode cX3_addFact 35 = .ok (.iastore, 1) := by decide +kernel
theorem dX3_addFact_36 : decode cX3_addFact 36 = .ok (.aload_n 0, 1) := by decide +kernel
theorem dX3_addFact_37 : decode cX3_addFact 37 = .ok (.getfield 24, 3) := by decide +kernel
theorem dX3_addFact_40 : decode cX3_addFact 40 = .ok (.iload 4, 2) := by decide +kernel
theorem dX3_addFact_42 : decode cX3_addFact 42 = .ok (.iconst 1, 1) := by decide +kernel
theorem dX3_addFact_43 : decode cX3_addFact 43 = .ok (.iadd, 1) := by decide +kernel
theorem dX3_addFact_44 : decode cX3_addFact 44 = .ok (.iload_n 2, 1) := by decide +kernel
theorem dX3_addFact_45 : decode cX3_addFact 45 = .ok (.iastore, 1) := by decide +kernel
theorem dX3_addFact_46 : decode cX3_addFact 46 = .ok (.aload_n 0, 1) := by decide +kernel
theorem dX3_addFact_47 : decode cX3_addFact 47 = .ok (.getfield 24, 3) := by decide +kernel
theorem dX3_addFact_50 : decode cX3_addFact 50 = .ok (.iload 4, 2) := by decide +kernel
theorem dX3_addFact_52 : decode cX3_addFact 52 = .ok (.iconst 2, 1) := by decide +kernel
theorem dX3_addFact_53 : decode cX3_addFact 53 = .ok (.iadd, 1) := by decide +kernel
theorem dX3_addFact_54 : decode cX3_addFact 54 = .ok (.iload_n 3, 1) := by decide +kernel
theorem dX3_addFact_55 : decode cX3_addFact 55 = .ok (.ifCond .eq 7, 3) := by decide +kernel
theorem dX3_addFact_58 : decode cX3_addFact 58 = .ok (.iconst 1, 1) := by decide +kernel
theorem dX3_addFact_59 : decode cX3_addFact 59 = .ok (.goto 4, 3) := by decide +kernel
theorem dX3_addFact_62 : decode cX3_addFact 62 = .ok (.iconst 0, 1) := by decide +kernel
theorem dX3_addFact_63 : decode cX3_addFact 63 = .ok (.iastore, 1) := by decide +kernel
theorem dX3_addFact_64 : decode cX3_addFact 64 = .ok (.aload_n 0, 1) := by decide +kernel
theorem dX3_addFact_65 : decode cX3_addFact 65 = .ok (.dup, 1) := by decide +kernel
theorem dX3_addFact_66 : decode cX3_addFact 66 = .ok (.getfield 54, 3) := by decide +kernel
theorem dX3_addFact_69 : decode cX3_addFact 69 = .ok (.iconst 1, 1) := by decide +kernel
theorem dX3_addFact_70 : decode cX3_addFact 70 = .ok (.iadd, 1) := by decide +kernel
theorem dX3_addFact_71 : decode cX3_addFact 71 = .ok (.putfield 54, 3) := by decide +kernel
theorem dX3_addFact_74 : decode cX3_addFact 74 = .ok (.aload_n 0, 1) := by decide +kernel
theorem dX3_addFact_75 : decode cX3_addFact 75 = .ok (.getfield 54, 3) := by decide +kernel
theorem dX3_addFact_78 : decode cX3_addFact 78 = .ok (.ireturn, 1) := by decide +kernel
theorem dX3_addStep_0 : decode cX3_addStep 0 = .ok (.aload_n 0, 1) := by decide +kernel
theorem dX3_addStep_1 : decode cX3_addStep 1 = .ok (.getfield 57, 3) := by decide +kernel
theorem dX3_addStep_4 : decode cX3_addStep 4 = .ok (.iconst 3, 1) := by decide +kernel
theorem dX3_addStep_5 : decode cX3_addStep 5 = .ok (.imul, 1) := by decide +kernel
theorem dX3_addStep_6 : decode cX3_addStep 6 = .ok (.istore 4, 2) := by decide +kernel
theorem dX3_addStep_8 : decode cX3_addStep 8 = .ok (.iload 4, 2) := by decide +kernel
theorem dX3_addStep_10 : decode cX3_addStep 10 = .ok (.ifCond .lt 15, 3) := by decide +kernel
theorem dX3_addStep_13 : decode cX3_addStep 13 = .ok (.iload 4, 2) := by decide +kernel
theorem dX3_addStep_15 : decode cX3_addStep 15 = .ok (.iconst 3, 1) := by decide +kernel
theorem dX3_addStep_16 : decode cX3_addStep 16 = .ok (.iadd, 1) := by decide +kernel
theorem dX3_addStep_17 : decode cX3_addStep 17 = .ok (.aload_n 0, 1) := by decide +kernel
theorem dX3_addStep_18 : decode cX3_addStep 18 = .ok (.getfield 27, 3) := by decide +kernel
theorem dX3_addStep_21 : decode cX3_addStep 21 = .ok (.arraylength, 1) := by decide +kernel
theorem dX3_addStep_22 : decode cX3_addStep 22 = .ok (.if_icmp .le 6, 3) := by decide +kernel
theorem dX3_addStep_25 : decode cX3_addStep 25 = .ok (.bipush (-6), 2) := by decide +kernel
theorem dX3_addStep_27 : decode cX3_addStep 27 = .ok (.ireturn, 1) := by decide +kernel
theorem dX3_addStep_28 : decode cX3_addStep 28 = .ok (.aload_n 0, 1) := by decide +kernel
theorem dX3_addStep_29 : decode cX3_addStep 29 = .ok (.getfield 27, 3) := by decide +kernel
theorem dX3_addStep_32 : decode cX3_addStep 32 = .ok (.iload 4, 2) := by decide +kernel
theorem dX3_addStep_34 : decode cX3_addStep 34 = .ok (.iload_n 1, 1) := by decide +kernel
theorem dX3_addStep_35 : decode cX3_addStep 35 = .ok (.iastore, 1) := by decide +kernel
theorem dX3_addStep_36 : decode cX3_addStep 36 = .ok (.aload_n 0, 1) := by decide +kernel
theorem dX3_addStep_37 : decode cX3_addStep 37 = .ok (.getfield 27, 3) := by decide +kernel
theorem dX3_addStep_40 : decode cX3_addStep 40 = .ok (.iload 4, 2) := by decide +kernel
theorem dX3_addStep_42 : decode cX3_addStep 42 = .ok (.iconst 1, 1) := by decide +kernel
theorem dX3_addStep_43 : decode cX3_addStep 43 = .ok (.iadd, 1) := by decide +kernel
theorem dX3_addStep_44 : decode cX3_addStep 44 = .ok (.iload_n 2, 1) := by decide +kernel
theorem dX3_addStep_45 : decode cX3_addStep 45 = .ok (.iastore, 1) := by decide +kernel
theorem dX3_addStep_46 : decode cX3_addStep 46 = .ok (.aload_n 0, 1) := by decide +kernel
theorem dX3_addStep_47 : decode cX3_addStep 47 = .ok (.getfield 27, 3) := by decide +kernel
theorem dX3_addStep_50 : decode cX3_addStep 50 = .ok (.iload 4, 2) := by decide +kernel
theorem dX3_addStep_52 : decode cX3_addStep 52 = .ok (.iconst 2, 1) := by decide +kernel
theorem dX3_addStep_53 : decode cX3_addStep 53 = .ok (.iadd, 1) := by decide +kernel
theorem dX3_addStep_54 : decode cX3_addStep 54 = .ok (.iload_n 3, 1) := by decide +kernel
theorem dX3_addStep_55 : decode cX3_addStep 55 = .ok (.iastore, 1) := by decide +kernel
theorem dX3_addStep_56 : decode cX3_addStep 56 = .ok (.aload_n 0, 1) := by decide +kernel
theorem dX3_addStep_57 : decode cX3_addStep 57 = .ok (.dup, 1) := by decide +kernel
theorem dX3_addStep_58 : decode cX3_addStep 58 = .ok (.getfield 57, 3) := by decide +kernel
theorem dX3_addStep_61 : decode cX3_addStep 61 = .ok (.iconst 1, 1) := by decide +kernel
theorem dX3_addStep_62 : decode cX3_addStep 62 = .ok (.iadd, 1) := by decide +kernel
theorem dX3_addStep_63 : decode cX3_addStep 63 = .ok (.putfield 57, 3) := by decide +kernel
theorem dX3_addStep_66 : decode cX3_addStep 66 = .ok (.aload_n 0, 1) := by decide +kernel
theorem dX3_addStep_67 : decode cX3_addStep 67 = .ok (.getfield 57, 3) := by decide +kernel
theorem dX3_addStep_70 : decode cX3_addStep 70 = .ok (.ireturn, 1) := by decide +kernel
theorem dX3_namedUnknowns_0 : decode cX3_namedUnknowns 0 = .ok (.iconst 0, 1) := by decide +kernel
theorem dX3_namedUnknowns_1 : decode cX3_namedUnknowns 1 = .ok (.istore_n 1, 1) := by decide +kernel
theorem dX3_namedUnknowns_2 : decode cX3_namedUnknowns 2 = .ok (.iconst 0, 1) := by decide +kernel
theorem dX3_namedUnknowns_3 : decode cX3_namedUnknowns 3 = .ok (.istore_n 2, 1) := by decide +kernel
theorem dX3_namedUnknowns_4 : decode cX3_namedUnknowns 4 = .ok (.iload_n 2, 1) := by decide +kernel
theorem dX3_namedUnknowns_5 : decode cX3_namedUnknowns 5 = .ok (.aload_n 0, 1) := by decide +kernel
theorem dX3_namedUnknowns_6 : decode cX3_namedUnknowns 6 = .ok (.getfield 47, 3) := by decide +kernel
theorem dX3_namedUnknowns_9 : decode cX3_namedUnknowns 9 = .ok (.if_icmp .ge 39, 3) := by decide +kernel
theorem dX3_namedUnknowns_12 : decode cX3_namedUnknowns 12 = .ok (.aload_n 0, 1) := by decide +kernel
theorem dX3_namedUnknowns_13 : decode cX3_namedUnknowns 13 = .ok (.iload_n 2, 1) := by decide +kernel
theorem dX3_namedUnknowns_14 : decode cX3_namedUnknowns 14 = .ok (.iconst 4, 1) := by decide +kernel
theorem dX3_namedUnknowns_15 : decode cX3_namedUnknowns 15 = .ok (.invokevirtual 60, 3) := by decide +kernel
theorem dX3_namedUnknowns_18 : decode cX3_namedUnknowns 18 = .ok (.istore_n 3, 1) := by decide +kernel
theorem dX3_namedUnknowns_19 : decode cX3_namedUnknowns 19 = .ok (.iload_n 3, 1) := by decide +kernel
theorem dX3_namedUnknowns_20 : decode cX3_namedUnknowns 20 = .ok (.ifCond .lt 22, 3) := by decide +kernel
theorem dX3_namedUnknowns_23 : decode cX3_namedUnknowns 23 = .ok (.iload_n 1, 1) := by decide +kernel
theorem dX3_namedUnknowns_24 : decode cX3_namedUnknowns 24 = .ok (.iconst 1, 1) := by decide +kernel
theorem dX3_namedUnknowns_25 : decode cX3_namedUnknowns 25 = .ok (.iload_n 3, 1) := by decide +kernel
theorem dX3_namedUnknowns_26 : decode cX3_namedUnknowns 26 = .ok (.bipush 10, 2) := by decide +kernel
theorem dX3_namedUnknowns_28 : decode cX3_namedUnknowns 28 = .ok (.if_icmp .ge 7, 3) := by decide +kernel
theorem dX3_namedUnknowns_31 : decode cX3_namedUnknowns 31 = .ok (.iload_n 3, 1) := by decide +kernel
theorem dX3_namedUnknowns_32 : decode cX3_namedUnknowns 32 = .ok (.goto 7, 3) := by decide +kernel
theorem dX3_namedUnknowns_35 : decode cX3_namedUnknowns 35 = .ok (.iload_n 3, 1) := by decide +kernel
theorem dX3_namedUnknowns_36 : decode cX3_namedUnknowns 36 = .ok (.bipush 10, 2) := by decide +kernel
theorem dX3_namedUnknowns_38 : decode cX3_namedUnknowns 38 = .ok (.isub, 1) := by decide +kernel
theorem dX3_namedUnknowns_39 : decode cX3_namedUnknowns 39 = .ok (.ishl, 1) := by decide +kernel
theorem dX3_namedUnknowns_40 : decode cX3_namedUnknowns 40 = .ok (.ior, 1) := by decide +kernel
theorem dX3_namedUnknowns_41 : decode cX3_namedUnknowns 41 = .ok (.istore_n 1, 1) := by decide +kernel
theorem dX3_namedUnknowns_42 : decode cX3_namedUnknowns 42 = .ok (.iinc 2 1, 3) := by decide +kernel
theorem dX3_namedUnknowns_45 : decode cX3_namedUnknowns 45 = .ok (.goto (-41), 3) := by decide +kernel
theorem dX3_namedUnknowns_48 : decode cX3_namedUnknowns 48 = .ok (.iload_n 1, 1) := by decide +kernel
theorem dX3_namedUnknowns_49 : decode cX3_namedUnknowns 49 = .ok (.ireturn, 1) := by decide +kernel
theorem dX3_everyWay_0 : decode cX3_everyWay 0 = .ok (.aload_n 0, 1) := by decide +kernel
theorem dX3_everyWay_1 : decode cX3_everyWay 1 = .ok (.invokevirtual 64, 3) := by decide +kernel
theorem dX3_everyWay_4 : decode cX3_everyWay 4 = .ok (.istore_n 1, 1) := by decide +kernel
theorem dX3_everyWay_5 : decode cX3_everyWay 5 = .ok (.ldc2_w 68, 3) := by decide +kernel
theorem dX3_everyWay_8 : decode cX3_everyWay 8 = .ok (.lstore_n 2, 1) := by decide +kernel
theorem dX3_everyWay_9 : decode cX3_everyWay 9 = .ok (.iconst 0, 1) := by decide +kernel
theorem dX3_everyWay_10 : decode cX3_everyWay 10 = .ok (.istore 4, 2) := by decide +kernel
theorem dX3_everyWay_12 : decode cX3_everyWay 12 = .ok (.iload 4, 2) := by decide +kernel
theorem dX3_everyWay_14 : decode cX3_everyWay 14 = .ok (.bipush 6, 2) := by decide +kernel
theorem dX3_everyWay_16 : decode cX3_everyWay 16 = .ok (.if_icmp .ge 31, 3) := by decide +kernel
theorem dX3_everyWay_19 : decode cX3_everyWay 19 = .ok (.iload_n 1, 1) := by decide +kernel
theorem dX3_everyWay_20 : decode cX3_everyWay 20 = .ok (.iload 4, 2) := by decide +kernel
theorem dX3_everyWay_22 : decode cX3_everyWay 22 = .ok (.iushr, 1) := by decide +kernel
theorem dX3_everyWay_23 : decode cX3_everyWay 23 = .ok (.iconst 1, 1) := by decide +kernel
theorem dX3_everyWay_24 : decode cX3_everyWay 24 = .ok (.iand, 1) := by decide +kernel
theorem dX3_everyWay_25 : decode cX3_everyWay 25 = .ok (.ifCond .ne 16, 3) := by decide +kernel
theorem dX3_everyWay_28 : decode cX3_everyWay 28 = .ok (.lload_n 2, 1) := by decide +kernel
theorem dX3_everyWay_29 : decode cX3_everyWay 29 = .ok (.getstatic 70, 3) := by decide +kernel
theorem dX3_everyWay_32 : decode cX3_everyWay 32 = .ok (.iload 4, 2) := by decide +kernel
theorem dX3_everyWay_34 : decode cX3_everyWay 34 = .ok (.laload, 1) := by decide +kernel
theorem dX3_everyWay_35 : decode cX3_everyWay 35 = .ok (.ldc2_w 68, 3) := by decide +kernel
theorem dX3_everyWay_38 : decode cX3_everyWay 38 = .ok (.lxor, 1) := by decide +kernel
theorem dX3_everyWay_39 : decode cX3_everyWay 39 = .ok (.land, 1) := by decide +kernel
theorem dX3_everyWay_40 : decode cX3_everyWay 40 = .ok (.lstore_n 2, 1) := by decide +kernel
theorem dX3_everyWay_41 : decode cX3_everyWay 41 = .ok (.iinc 4 1, 3) := by decide +kernel
theorem dX3_everyWay_44 : decode cX3_everyWay 44 = .ok (.goto (-32), 3) := by decide +kernel
theorem dX3_everyWay_47 : decode cX3_everyWay 47 = .ok (.lload_n 2, 1) := by decide +kernel
theorem dX3_everyWay_48 : decode cX3_everyWay 48 = .ok (.lreturn, 1) := by decide +kernel
theorem dX3_copyFrom_0 : decode cX3_copyFrom 0 = .ok (.aload_n 1, 1) := by decide +kernel
theorem dX3_copyFrom_1 : decode cX3_copyFrom 1 = .ok (.getfield 9, 3) := by decide +kernel
theorem dX3_copyFrom_4 : decode cX3_copyFrom 4 = .ok (.aload_n 0, 1) := by decide +kernel
theorem dX3_copyFrom_5 : decode cX3_copyFrom 5 = .ok (.getfield 9, 3) := by decide +kernel
theorem dX3_copyFrom_8 : decode cX3_copyFrom 8 = .ok (.invokestatic 74, 3) := by decide +kernel
theorem dX3_copyFrom_11 : decode cX3_copyFrom 11 = .ok (.aload_n 1, 1) := by decide +kernel
theorem dX3_copyFrom_12 : decode cX3_copyFrom 12 = .ok (.getfield 15, 3) := by decide +kernel
theorem dX3_copyFrom_15 : decode cX3_copyFrom 15 = .ok (.aload_n 0, 1) := by decide +kernel
theorem dX3_copyFrom_16 : decode cX3_copyFrom 16 = .ok (.getfield 15, 3) := by decide +kernel
theorem dX3_copyFrom_19 : decode cX3_copyFrom 19 = .ok (.invokestatic 74, 3) := by decide +kernel
theorem dX3_copyFrom_22 : decode cX3_copyFrom 22 = .ok (.aload_n 1, 1) := by decide +kernel
theorem dX3_copyFrom_23 : decode cX3_copyFrom 23 = .ok (.getfield 18, 3) := by decide +kernel
theorem dX3_copyFrom_26 : decode cX3_copyFrom 26 = .ok (.aload_n 0, 1) := by decide +kernel
theorem dX3_copyFrom_27 : decode cX3_copyFrom 27 = .ok (.getfield 18, 3) := by decide +kernel
theorem dX3_copyFrom_30 : decode cX3_copyFrom 30 = .ok (.invokestatic 74, 3) := by decide +kernel
theorem dX3_copyFrom_33 : decode cX3_copyFrom 33 = .ok (.aload_n 1, 1) := by decide +kernel
theorem dX3_copyFrom_34 : decode cX3_copyFrom 34 = .ok (.getfield 21, 3) := by decide +kernel
theorem dX3_copyFrom_37 : decode cX3_copyFrom 37 = .ok (.aload_n 0, 1) := by decide +kernel
theorem dX3_copyFrom_38 : decode cX3_copyFrom 38 = .ok (.getfield 21, 3) := by decide +kernel
theorem dX3_copyFrom_41 : decode cX3_copyFrom 41 = .ok (.invokestatic 74, 3) := by decide +kernel
theorem dX3_copyFrom_44 : decode cX3_copyFrom 44 = .ok (.aload_n 1, 1) := by decide +kernel
theorem dX3_copyFrom_45 : decode cX3_copyFrom 45 = .ok (.getfield 24, 3) := by decide +kernel
theorem dX3_copyFrom_48 : decode cX3_copyFrom 48 = .ok (.aload_n 0, 1) := by decide +kernel
theorem dX3_copyFrom_49 : decode cX3_copyFrom 49 = .ok (.getfield 24, 3) := by decide +kernel
theorem dX3_copyFrom_52 : decode cX3_copyFrom 52 = .ok (.invokestatic 74, 3) := by decide +kernel
theorem dX3_copyFrom_55 : decode cX3_copyFrom 55 = .ok (.aload_n 1, 1) := by decide +kernel
theorem dX3_copyFrom_56 : decode cX3_copyFrom 56 = .ok (.getfield 27, 3) := by decide +kernel
theorem dX3_copyFrom_59 : decode cX3_copyFrom 59 = .ok (.aload_n 0, 1) := by decide +kernel
theorem dX3_copyFrom_60 : decode cX3_copyFrom 60 = .ok (.getfield 27, 3) := by decide +kernel
theorem dX3_copyFrom_63 : decode cX3_copyFrom 63 = .ok (.invokestatic 74, 3) := by decide +kernel
theorem dX3_copyFrom_66 : decode cX3_copyFrom 66 = .ok (.aload_n 0, 1) := by decide +kernel
theorem dX3_copyFrom_67 : decode cX3_copyFrom 67 = .ok (.aload_n 1, 1) := by decide +kernel
theorem dX3_copyFrom_68 : decode cX3_copyFrom 68 = .ok (.getfield 30, 3) := by decide +kernel
theorem dX3_copyFrom_71 : decode cX3_copyFrom 71 = .ok (.putfield 30, 3) := by decide +kernel
theorem dX3_copyFrom_74 : decode cX3_copyFrom 74 = .ok (.aload_n 0, 1) := by decide +kernel
theorem dX3_copyFrom_75 : decode cX3_copyFrom 75 = .ok (.aload_n 1, 1) := by decide +kernel
theorem dX3_copyFrom_76 : decode cX3_copyFrom 76 = .ok (.getfield 47, 3) := by decide +kernel
theorem dX3_copyFrom_79 : decode cX3_copyFrom 79 = .ok (.putfield 47, 3) := by decide +kernel
theorem dX3_copyFrom_82 : decode cX3_copyFrom 82 = .ok (.aload_n 0, 1) := by decide +kernel
theorem dX3_copyFrom_83 : decode cX3_copyFrom 83 = .ok (.aload_n 1, 1) := by decide +kernel
theorem dX3_copyFrom_84 : decode cX3_copyFrom 84 = .ok (.getfield 54, 3) := by decide +kernel
theorem dX3_copyFrom_87 : decode cX3_copyFrom 87 = .ok (.putfield 54, 3) := by decide +kernel
theorem dX3_copyFrom_90 : decode cX3_copyFrom 90 = .ok (.aload_n 0, 1) := by decide +kernel
theorem dX3_copyFrom_91 : decode cX3_copyFrom 91 = .ok (.aload_n 1, 1) := by decide +kernel
theorem dX3_copyFrom_92 : decode cX3_copyFrom 92 = .ok (.getfield 57, 3) := by decide +kernel
theorem dX3_copyFrom_95 : decode cX3_copyFrom 95 = .ok (.putfield 57, 3) := by decide +kernel
theorem dX3_copyFrom_98 : decode cX3_copyFrom 98 = .ok (.aload_n 0, 1) := by decide +kernel
theorem dX3_copyFrom_99 : decode cX3_copyFrom 99 = .ok (.aload_n 1, 1) := by decide +kernel
theorem dX3_copyFrom_100 : decode cX3_copyFrom 100 = .ok (.getfield 37, 3) := by decide +kernel
theorem dX3_copyFrom_103 : decode cX3_copyFrom 103 = .ok (.putfield 37, 3) := by decide +kernel
theorem dX3_copyFrom_106 : decode cX3_copyFrom 106 = .ok (.aload_n 0, 1) := by decide +kernel
theorem dX3_copyFrom_107 : decode cX3_copyFrom 107 = .ok (.aload_n 1, 1) := by decide +kernel
theorem dX3_copyFrom_108 : decode cX3_copyFrom 108 = .ok (.getfield 34, 3) := by decide +kernel
theorem dX3_copyFrom_111 : decode cX3_copyFrom 111 = .ok (.putfield 34, 3) := by decide +kernel
theorem dX3_copyFrom_114 : decode cX3_copyFrom 114 = .ok (.aload_n 0, 1) := by decide +kernel
theorem dX3_copyFrom_115 : decode cX3_copyFrom 115 = .ok (.dup, 1) := by decide +kernel
theorem dX3_copyFrom_116 : decode cX3_copyFrom 116 = .ok (.getfield 44, 3) := by decide +kernel
theorem dX3_copyFrom_119 : decode cX3_copyFrom 119 = .ok (.iconst 1, 1) := by decide +kernel
theorem dX3_copyFrom_120 : decode cX3_copyFrom 120 = .ok (.iadd, 1) := by decide +kernel
theorem dX3_copyFrom_121 : decode cX3_copyFrom 121 = .ok (.putfield 44, 3) := by decide +kernel
theorem dX3_copyFrom_124 : decode cX3_copyFrom 124 = .ok (.return_, 1) := by decide +kernel
theorem dX3_copyRow_0 : decode cX3_copyRow 0 = .ok (.aload_n 0, 1) := by decide +kernel
theorem dX3_copyRow_1 : decode cX3_copyRow 1 = .ok (.iconst 0, 1) := by decide +kernel
theorem dX3_copyRow_2 : decode cX3_copyRow 2 = .ok (.aload_n 1, 1) := by decide +kernel
theorem dX3_copyRow_3 : decode cX3_copyRow 3 = .ok (.iconst 0, 1) := by decide +kernel
theorem dX3_copyRow_4 : decode cX3_copyRow 4 = .ok (.aload_n 0, 1) := by decide +kernel
theorem dX3_copyRow_5 : decode cX3_copyRow 5 = .ok (.arraylength, 1) := by decide +kernel
theorem dX3_copyRow_6 : decode cX3_copyRow 6 = .ok (.aload_n 1, 1) := by decide +kernel
theorem dX3_copyRow_7 : decode cX3_copyRow 7 = .ok (.arraylength, 1) := by decide +kernel
theorem dX3_copyRow_8 : decode cX3_copyRow 8 = .ok (.invokestatic 78, 3) := by decide +kernel
theorem dX3_copyRow_11 : decode cX3_copyRow 11 = .ok (.invokestatic 83, 3) := by decide +kernel
theorem dX3_copyRow_14 : decode cX3_copyRow 14 = .ok (.return_, 1) := by decide +kernel
theorem dX4_init_0 : decode cX4_init 0 = .ok (.aload_n 0, 1) := by decide +kernel
theorem dX4_init_1 : decode cX4_init 1 = .ok (.invokespecial 3, 3) := by decide +kernel
theorem dX4_init_4 : decode cX4_init 4 = .ok (.aload_n 0, 1) := by decide +kernel
theorem dX4_init_5 : decode cX4_init 5 = .ok (.sipush 156, 3) := by decide +kernel
theorem dX4_init_8 : decode cX4_init 8 = .ok (.newarray .long, 2) := by decide +kernel
theorem dX4_init_10 : decode cX4_init 10 = .ok (.putfield 9, 3) := by decide +kernel
theorem dX4_init_13 : decode cX4_init 13 = .ok (.aload_n 0, 1) := by decide +kernel
theorem dX4_init_14 : decode cX4_init 14 = .ok (.sipush 576, 3) := by decide +kernel
theorem dX4_init_17 : decode cX4_init 17 = .ok (.newarray .long, 2) := by decide +kernel
theorem dX4_init_19 : decode cX4_init 19 = .ok (.putfield 15, 3) := by decide +kernel
theorem dX4_init_22 : decode cX4_init 22 = .ok (.aload_n 0, 1) := by decide +kernel
theorem dX4_init_23 : decode cX4_init 23 = .ok (.bipush 60, 2) := by decide +kernel
theorem dX4_init_25 : decode cX4_init 25 = .ok (.newarray .int, 2) := by decide +kernel
theorem dX4_init_27 : decode cX4_init 27 = .ok (.putfield 18, 3) := by decide +kernel
theorem dX4_init_30 : decode cX4_init 30 = .ok (.aload_n 0, 1) := by decide +kernel
theorem dX4_init_31 : decode cX4_init 31 = .ok (.bipush 49, 2) := by decide +kernel
theorem dX4_init_33 : decode cX4_init 33 = .ok (.newarray .int, 2) := by decide +kernel
theorem dX4_init_35 : decode cX4_init 35 = .ok (.putfield 22, 3) := by decide +kernel
theorem dX4_init_38 : decode cX4_init 38 = .ok (.aload_n 0, 1) := by decide +kernel
theorem dX4_init_39 : decode cX4_init 39 = .ok (.bipush 60, 2) := by decide +kernel
theorem dX4_init_41 : decode cX4_init 41 = .ok (.newarray .int, 2) := by decide +kernel
theorem dX4_init_43 : decode cX4_init 43 = .ok (.putfield 25, 3) := by decide +kernel
theorem dX4_init_46 : decode cX4_init 46 = .ok (.aload_n 0, 1) := by decide +kernel
theorem dX4_init_47 : decode cX4_init 47 = .ok (.bipush 9, 2) := by decide +kernel
theorem dX4_init_49 : decode cX4_init 49 = .ok (.newarray .long, 2) := by decide +kernel
theorem dX4_init_51 : decode cX4_init 51 = .ok (.putfield 28, 3) := by decide +kernel
theorem dX4_init_54 : decode cX4_init 54 = .ok (.aload_n 0, 1) := by decide +kernel
theorem dX4_init_55 : decode cX4_init 55 = .ok (.bipush 9, 2) := by decide +kernel
theorem dX4_init_57 : decode cX4_init 57 = .ok (.newarray .long, 2) := by decide +kernel
theorem dX4_init_59 : decode cX4_init 59 = .ok (.putfield 31, 3) := by decide +kernel
theorem dX4_init_62 : decode cX4_init 62 = .ok (.aload_n 0, 1) := by decide +kernel
theorem dX4_init_63 : decode cX4_init 63 = .ok (.iconst (-1), 1) := by decide +kernel
theorem dX4_init_64 : decode cX4_init 64 = .ok (.putfield 34, 3) := by decide +kernel
theorem dX4_init_67 : decode cX4_init 67 = .ok (.aload_n 0, 1) := by decide +kernel
theorem dX4_init_68 : decode cX4_init 68 = .ok (.aload_n 1, 1) := by decide +kernel
theorem dX4_init_69 : decode cX4_init 69 = .ok (.putfield 38, 3) := by decide +kernel
theorem dX4_init_72 : decode cX4_init 72 = .ok (.aload_n 0, 1) := by decide +kernel
theorem dX4_init_73 : decode cX4_init 73 = .ok (.iload_n 2, 1) := by decide +kernel
theorem dX4_init_74 : decode cX4_init 74 = .ok (.putfield 42, 3) := by decide +kernel
theorem dX4_init_77 : decode cX4_init 77 = .ok (.return_, 1) := by decide +kernel
theorem dX4_refresh_0 : decode cX4_refresh 0 = .ok (.aload_n 0, 1) := by decide +kernel
theorem dX4_refresh_1 : decode cX4_refresh 1 = .ok (.getfield 34, 3) := by decide +kernel
theorem dX4_refresh_4 : decode cX4_refresh 4 = .ok (.aload_n 0, 1) := by decide +kernel
theorem dX4_refresh_5 : decode cX4_refresh 5 = .ok (.getfield 38, 3) := by decide +kernel
theorem dX4_refresh_8 : decode cX4_refresh 8 = .ok (.getfield 45, 3) := by decide +kernel
theorem dX4_refresh_11 : decode cX4_refresh 11 = .ok (.if_icmp .ne 4, 3) := by decide +kernel
theorem dX4_refresh_14 : decode cX4_refresh 14 = .ok (.return_, 1) := by decide +kernel
theorem dX4_refresh_15 : decode cX4_refresh 15 = .ok (.aload_n 0, 1) := by decide +kernel
theorem dX4_refresh_16 : decode cX4_refresh 16 = .ok (.aload_n 0, 1) := by decide +kernel
theorem dX4_refresh_17 : decode cX4_refresh 17 = .ok (.getfield 38, 3) := by decide +kernel
theorem dX4_refresh_20 : decode cX4_refresh 20 = .ok (.getfield 45, 3) := by decide +kernel
theorem dX4_refresh_23 : decode cX4_refresh 23 = .ok (.putfield 34, 3) := by decide +kernel
theorem dX4_refresh_26 : decode cX4_refresh 26 = .ok (.aload_n 0, 1) := by decide +kernel
theorem dX4_refresh_27 : decode cX4_refresh 27 = .ok (.invokevirtual 50, 3) := by decide +kernel
theorem dX4_refresh_30 : decode cX4_refresh 30 = .ok (.aload_n 0, 1) := by decide +kernel
theorem dX4_refresh_31 : decode cX4_refresh 31 = .ok (.invokevirtual 53, 3) := by decide +kernel
theorem dX4_refresh_34 : decode cX4_refresh 34 = .ok (.aload_n 0, 1) := by decide +kernel
theorem dX4_refresh_35 : decode cX4_refresh 35 = .ok (.invokevirtual 56, 3) := by decide +kernel
theorem dX4_refresh_38 : decode cX4_refresh 38 = .ok (.iconst 0, 1) := by decide +kernel
theorem dX4_refresh_39 : decode cX4_refresh 39 = .ok (.istore_n 1, 1) := by decide +kernel
theorem dX4_refresh_40 : decode cX4_refresh 40 = .ok (.iload_n 1, 1) := by decide +kernel
theorem dX4_refresh_41 : decode cX4_refresh 41 = .ok (.bipush 48, 2) := by decide +kernel
theorem dX4_refresh_43 : decode cX4_refresh 43 = .ok (.if_icmp .ge 51, 3) := by decide +kernel
theorem dX4_refresh_46 : decode cX4_refresh 46 = .ok (.aload_n 0, 1) := by decide +kernel
theorem dX4_refresh_47 : decode cX4_refresh 47 = .ok (.iload_n 1, 1) := by decide +kernel
theorem dX4_refresh_48 : decode cX4_refresh 48 = .ok (.iload_n 1, 1) := by decide +kernel
theorem dX4_refresh_49 : decode cX4_refresh 49 = .ok (.invokevirtual 59, 3) := by decide +kernel
theorem dX4_refresh_52 : decode cX4_refresh 52 = .ok (.iconst 0, 1) := by decide +kernel
theorem dX4_refresh_53 : decode cX4_refresh 53 = .ok (.istore_n 2, 1) := by decide +kernel
theorem dX4_refresh_54 : decode cX4_refresh 54 = .ok (.iload_n 2, 1) := by decide +kernel
theorem dX4_refresh_55 : decode cX4_refresh 55 = .ok (.bipush 12, 2) := by decide +kernel
theorem dX4_refresh_57 : decode cX4_refresh 57 = .ok (.if_icmp .ge 31, 3) := by decide +kernel
theorem dX4_refresh_60 : decode cX4_refresh 60 = .ok (.aload_n 0, 1) := by decide +kernel
theorem dX4_refresh_61 : decode cX4_refresh 61 = .ok (.getfield 15, 3) := by decide +kernel
theorem dX4_refresh_64 : decode cX4_refresh 64 = .ok (.iload_n 1, 1) := by decide +kernel
theorem dX4_refresh_65 : decode cX4_refresh 65 = .ok (.bipush 12, 2) := by decide +kernel
theorem dX4_refresh_67 : decode cX4_refresh 67 = .ok (.imul, 1) := by decide +kernel
theorem dX4_refresh_68 : decode cX4_refresh 68 = .ok (.iload_n 2, 1) := by decide +kernel
theorem dX4_refresh_69 : decode cX4_refresh 69 = .ok (.iadd, 1) := by decide +kernel
theorem dX4_refresh_70 : decode cX4_refresh 70 = .ok (.aload_n 0, 1) := by decide +kernel
theorem dX4_refresh_71 : decode cX4_refresh 71 = .ok (.getfield 9, 3) := by decide +kernel
theorem dX4_refresh_74 : decode cX4_refresh 74 = .ok (.iload_n 2, 1) := by decide +kernel
theorem dX4_refresh_75 : decode cX4_refresh 75 = .ok (.bipush 13, 2) := by decide +kernel
theorem dX4_refresh_77 : decode cX4_refresh 77 = .ok (.imul, 1) := by decide +kernel
theorem dX4_refresh_78 : decode cX4_refresh 78 = .ok (.iconst 3, 1) := by decide +kernel
theorem dX4_refresh_79 : decode cX4_refresh 79 = .ok (.iadd, 1) := by decide +kernel
theorem dX4_refresh_80 : decode cX4_refresh 80 = .ok (.laload, 1) := by decide +kernel
theorem dX4_refresh_81 : decode cX4_refresh 81 = .ok (.lastore, 1) := by decide +kernel
theorem dX4_refresh_82 : decode cX4_refresh 82 = .ok (.iinc 2 1, 3) := by decide +kernel
theorem dX4_refresh_85 : decode cX4_refresh 85 = .ok (.goto (-31), 3) := by decide +kernel
theorem dX4_refresh_88 : decode cX4_refresh 88 = .ok (.iinc 1 1, 3) := by decide +kernel
theorem dX4_refresh_91 : decode cX4_refresh 91 = .ok (.goto (-51), 3) := by decide +kernel
theorem dX4_refresh_94 : decode cX4_refresh 94 = .ok (.return_, 1) := by decide +kernel
theorem dX4_playFromStart_0 : decode cX4_playFromStart 0 = .ok (.aload_n 0, 1) := by decide +kernel
theorem dX4_playFromStart_1 : decode cX4_playFromStart 1 = .ok (.invokevirtual 56, 3) := by decide +kernel
theorem dX4_playFromStart_4 : decode cX4_playFromStart 4 = .ok (.aload_n 0, 1) := by decide +kernel
theorem dX4_playFromStart_5 : decode cX4_playFromStart 5 = .ok (.iconst 0, 1) := by decide +kernel
theorem dX4_playFromStart_6 : decode cX4_playFromStart 6 = .ok (.iload_n 1, 1) := by decide +kernel
theorem dX4_playFromStart_7 : decode cX4_playFromStart 7 = .ok (.invokevirtual 59, 3) := by decide +kernel
theorem dX4_playFromStart_10 : decode cX4_playFromStart 10 = .ok (.return_, 1) := by decide +kernel
theorem dX4_uncleanAt_0 : decode cX4_uncleanAt 0 = .ok (.iload_n 1, 1) := by decide +kernel
theorem dX4_uncleanAt_1 : decode cX4_uncleanAt 1 = .ok (.ifCond .lt 19, 3) := by decide +kernel
theorem dX4_uncleanAt_4 : decode cX4_uncleanAt 4 = .ok (.iload_n 1, 1) := by decide +kernel
theorem dX4_uncleanAt_5 : decode cX4_uncleanAt 5 = .ok (.bipush 12, 2) := by decide +kernel
theorem dX4_uncleanAt_7 : decode cX4_uncleanAt 7 = .ok (.if_icmp .ge 13, 3) := by decide +kernel
theorem dX4_uncleanAt_10 : decode cX4_uncleanAt 10 = .ok (.iload_n 2, 1) := by decide +kernel
theorem dX4_uncleanAt_11 : decode cX4_uncleanAt 11 = .ok (.ifCond .lt 9, 3) := by decide +kernel
theorem dX4_uncleanAt_14 : decode cX4_uncleanAt 14 = .ok (.iload_n 2, 1) := by decide +kernel
theorem dX4_uncleanAt_15 : decode cX4_uncleanAt 15 = .ok (.bipush 48, 2) := by decide +kernel
theorem dX4_uncleanAt_17 : decode cX4_uncleanAt 17 = .ok (.if_icmp .lt 5, 3) := by decide +kernel
theorem dX4_uncleanAt_20 : decode cX4_uncleanAt 20 = .ok (.lconst 0, 1) := by decide +kernel
theorem dX4_uncleanAt_21 : decode cX4_uncleanAt 21 = .ok (.lreturn, 1) := by decide +kernel
theorem dX4_uncleanAt_22 : decode cX4_uncleanAt 22 = .ok (.aload_n 0, 1) := by decide +kernel
theorem dX4_uncleanAt_23 : decode cX4_uncleanAt 23 = .ok (.getfield 15, 3) := by decide +kernel
theorem dX4_uncleanAt_26 : decode cX4_uncleanAt 26 = .ok (.iload_n 2, 1) := by decide +kernel
theorem dX4_uncleanAt_27 : decode cX4_uncleanAt 27 = .ok (.bipush 12, 2) := by decide +kernel
theorem dX4_uncleanAt_29 : decode cX4_uncleanAt 29 = .ok (.imul, 1) := by decide +kernel
theorem dX4_uncleanAt_30 : decode cX4_uncleanAt 30 = .ok (.iload_n 1, 1) := by decide +kernel
theorem dX4_uncleanAt_31 : decode cX4_uncleanAt 31 = .ok (.iadd, 1) := by decide +kernel
theorem dX4_uncleanAt_32 : decode cX4_uncleanAt 32 = .ok (.laload, 1) := by decide +kernel
theorem dX4_uncleanAt_33 : decode cX4_uncleanAt 33 = .ok (.lreturn, 1) := by decide +kernel
theorem dX4_degree_0 : decode cX4_degree 0 = .ok (.iload_n 2, 1) := by decide +kernel
theorem dX4_degree_1 : decode cX4_degree 1 = .ok (.ifCond .lt 9, 3) := by decide +kernel
theorem dX4_degree_4 : decode cX4_degree 4 = .ok (.iload_n 2, 1) := by decide +kernel
theorem dX4_degree_5 : decode cX4_degree 5 = .ok (.bipush 12, 2) := by decide +kernel
theorem dX4_degree_7 : decode cX4_degree 7 = .ok (.if_icmp .lt 5, 3) := by decide +kernel
theorem dX4_degree_10 : decode cX4_degree 10 = .ok (.iconst 0, 1) := by decide +kernel
theorem dX4_degree_11 : decode cX4_degree 11 = .ok (.ireturn, 1) := by decide +kernel
theorem dX4_degree_12 : decode cX4_degree 12 = .ok (.iconst 0, 1) := by decide +kernel
theorem dX4_degree_13 : decode cX4_degree 13 = .ok (.istore_n 3, 1) := by decide +kernel
theorem dX4_degree_14 : decode cX4_degree 14 = .ok (.iload_n 3, 1) := by decide +kernel
theorem dX4_degree_15 : decode cX4_degree 15 = .ok (.iconst 4, 1) := by decide +kernel
theorem dX4_degree_16 : decode cX4_degree 16 = .ok (.if_icmp .ge 33, 3) := by decide +kernel
theorem dX4_degree_19 : decode cX4_degree 19 = .ok (.aload_n 0, 1) := by decide +kernel
theorem dX4_degree_20 : decode cX4_degree 20 = .ok (.getfield 9, 3) := by decide +kernel
theorem dX4_degree_23 : decode cX4_degree 23 = .ok (.iload_n 2, 1) := by decide +kernel
theorem dX4_degree_24 : decode cX4_degree 24 = .ok (.bipush 13, 2) := by decide +kernel
theorem dX4_degree_26 : decode cX4_degree 26 = .ok (.imul, 1) := by decide +kernel
theorem dX4_degree_27 : decode cX4_degree 27 = .ok (.iload_n 3, 1) := by decide +kernel
theorem dX4_degree_28 : decode cX4_degree 28 = .ok (.iadd, 1) := by decide +kernel
theorem dX4_degree_29 : decode cX4_degree 29 = .ok (.laload, 1) := by decide +kernel
theorem dX4_degree_30 : decode cX4_degree 30 = .ok (.iload_n 1, 1) := by decide +kernel
theorem dX4_degree_31 : decode cX4_degree 31 = .ok (.lushr, 1) := by decide +kernel
theorem dX4_degree_32 : decode cX4_degree 32 = .ok (.lconst 1, 1) := by decide +kernel
theorem dX4_degree_33 : decode cX4_degree 33 = .ok (.land, 1) := by decide +kernel
theorem dX4_degree_34 : decode cX4_degree 34 = .ok (.lconst 1, 1) := by decide +kernel
theorem dX4_degree_35 : decode cX4_degree 35 = .ok (.lcmp, 1) := by decide +kernel
theorem dX4_degree_36 : decode cX4_degree 36 = .ok (.ifCond .ne 7, 3) := by decide +kernel
theorem dX4_degree_39 : decode cX4_degree 39 = .ok (.iload_n 3, 1) := by decide +kernel
theorem dX4_degree_40 : decode cX4_degree 40 = .ok (.iconst 1, 1) := by decide +kernel
theorem dX4_degree_41 : decode cX4_degree 41 = .ok (.iadd, 1) := by decide +kernel
theorem dX4_degree_42 : decode cX4_degree 42 = .ok (.ireturn, 1) := by decide +kernel
theorem dX4_degree_43 : decode cX4_degree 43 = .ok (.iinc 3 1, 3) := by decide +kernel
theorem dX4_degree_46 : decode cX4_degree 46 = .ok (.goto (-32), 3) := by decide +kernel
theorem dX4_degree_49 : decode cX4_degree 49 = .ok (.iconst 0, 1) := by decide +kernel
theorem dX4_degree_50 : decode cX4_degree 50 = .ok (.ireturn, 1) := by decide +kernel
theorem dX4_areClean_0 : decode cX4_areClean 0 = .ok (.iconst 0, 1) := by decide +kernel
theorem dX4_areClean_1 : decode cX4_areClean 1 = .ok (.istore 4, 2) := by decide +kernel
theorem dX4_areClean_3 : decode cX4_areClean 3 = .ok (.iload 4, 2) := by decide +kernel
theorem dX4_areClean_5 : decode cX4_areClean 5 = .ok (.bipush 12, 2) := by decide +kernel
theorem dX4_areClean_7 : decode cX4_areClean 7 = .ok (.if_icmp .ge 40, 3) := by decide +kernel
theorem dX4_areClean_10 : decode cX4_areClean 10 = .ok (.iload_n 1, 1) := by decide +kernel
theorem dX4_areClean_11 : decode cX4_areClean 11 = .ok (.iload 4, 2) := by decide +kernel
theorem dX4_areClean_13 : decode cX4_areClean 13 = .ok (.iushr, 1) := by decide +kernel
theorem dX4_areClean_14 : decode cX4_areClean 14 = .ok (.iconst 1, 1) := by decide +kernel
theorem dX4_areClean_15 : decode cX4_areClean 15 = .ok (.iand, 1) := by decide +kernel
theorem dX4_areClean_16 : decode cX4_areClean 16 = .ok (.iconst 1, 1) := by decide +kernel
theorem dX4_areClean_17 : decode cX4_areClean 17 = .ok (.if_icmp .ne 24, 3) := by decide +kernel
theorem dX4_areClean_20 : decode cX4_areClean 20 = .ok (.aload_n 0, 1) := by decide +kernel
theorem dX4_areClean_21 : decode cX4_areClean 21 = .ok (.getfield 9, 3) := by decide +kernel
theorem dX4_areClean_24 : decode cX4_areClean 24 = .ok (.iload 4, 2) := by decide +kernel
theorem dX4_areClean_26 : decode cX4_areClean 26 = .ok (.bipush 13, 2) := by decide +kernel
theorem dX4_areClean_28 : decode cX4_areClean 28 = .ok (.imul, 1) := by decide +kernel
theorem dX4_areClean_29 : decode cX4_areClean 29 = .ok (.iconst 3, 1) := by decide +kernel
theorem dX4_areClean_30 : decode cX4_areClean 30 = .ok (.iadd, 1) := by decide +kernel
theorem dX4_areClean_31 : decode cX4_areClean 31 = .ok (.laload, 1) := by decide +kernel
theorem dX4_areClean_32 : decode cX4_areClean 32 = .ok (.lload_n 2, 1) := by decide +kernel
theorem dX4_areClean_33 : decode cX4_areClean 33 = .ok (.land, 1) := by decide +kernel
theorem dX4_areClean_34 : decode cX4_areClean 34 = .ok (.lconst 0, 1) := by decide +kernel
theorem dX4_areClean_35 : decode cX4_areClean 35 = .ok (.lcmp, 1) := by decide +kernel
theorem dX4_areClean_36 : decode cX4_areClean 36 = .ok (.ifCond .eq 5, 3) := by decide +kernel
theorem dX4_areClean_39 : decode cX4_areClean 39 = .ok (.iconst 0, 1) := by decide +kernel
theorem dX4_areClean_40 : decode cX4_areClean 40 = .ok (.ireturn, 1) := by decide +kernel
theorem dX4_areClean_41 : decode cX4_areClean 41 = .ok (.iinc 4 1, 3) := by decide +kernel
theorem dX4_areClean_44 : decode cX4_areClean 44 = .ok (.goto (-41), 3) := by decide +kernel
theorem dX4_areClean_47 : decode cX4_areClean 47 = .ok (.iconst 1, 1) := by decide +kernel
theorem dX4_areClean_48 : decode cX4_areClean 48 = .ok (.ireturn, 1) := by decide +kernel
theorem dX4_originBits_0 : decode cX4_originBits 0 = .ok (.iload_n 1, 1) := by decide +kernel
theorem dX4_originBits_1 : decode cX4_originBits 1 = .ok (.ifCond .lt 9, 3) := by decide +kernel
theorem dX4_originBits_4 : decode cX4_originBits 4 = .ok (.iload_n 1, 1) := by decide +kernel
theorem dX4_originBits_5 : decode cX4_originBits 5 = .ok (.bipush 12, 2) := by decide +kernel
theorem dX4_originBits_7 : decode cX4_originBits 7 = .ok (.if_icmp .lt 5, 3) := by decide +kernel
theorem dX4_originBits_10 : decode cX4_originBits 10 = .ok (.iconst 0, 1) := by decide +kernel
theorem dX4_originBits_11 : decode cX4_originBits 11 = .ok (.ireturn, 1) := by decide +kernel
theorem dX4_originBits_12 : decode cX4_originBits 12 = .ok (.iload_n 1, 1) := by decide +kernel
theorem dX4_originBits_13 : decode cX4_originBits 13 = .ok (.bipush 13, 2) := by decide +kernel
theorem dX4_originBits_15 : decode cX4_originBits 15 = .ok (.imul, 1) := by decide +kernel
theorem dX4_originBits_16 : decode cX4_originBits 16 = .ok (.istore 4, 2) := by decide +kernel
theorem dX4_originBits_18 : decode cX4_originBits 18 = .ok (.iconst 0, 1) := by decide +kernel
theorem dX4_originBits_19 : decode cX4_originBits 19 = .ok (.istore 5, 2) := by decide +kernel
theorem dX4_originBits_21 : decode cX4_originBits 21 = .ok (.iconst 1, 1) := by decide +kernel
theorem dX4_originBits_22 : decode cX4_originBits 22 = .ok (.istore 6, 2) := by decide +kernel
theorem dX4_originBits_24 : decode cX4_originBits 24 = .ok (.iload 6, 2) := by decide +kernel
theorem dX4_originBits_26 : decode cX4_originBits 26 = .ok (.bipush 20, 2) := by decide +kernel
theorem dX4_originBits_28 : decode cX4_originBits 28 = .ok (.if_icmp .gt 96, 3) := by decide +kernel
theorem dX4_originBits_31 : decode cX4_originBits 31 = .ok (.lload_n 2, 1) := by decide +kernel
theorem dX4_originBits_32 : decode cX4_originBits 32 = .ok (.aload_n 0, 1) := by decide +kernel
theorem dX4_originBits_33 : decode cX4_originBits 33 = .ok (.getfield 9, 3) := by decide +kernel
theorem dX4_originBits_36 : decode cX4_originBits 36 = .ok (.iload 4, 2) := by decide +kernel
theorem dX4_originBits_38 : decode cX4_originBits 38 = .ok (.iconst 3, 1) := by decide +kernel
theorem dX4_originBits_39 : decode cX4_originBits 39 = .ok (.iadd, 1) := by decide +kernel
theorem dX4_originBits_40 : decode cX4_originBits 40 = .ok (.laload, 1) := by decide +kernel
theorem dX4_originBits_41 : decode cX4_originBits 41 = .ok (.land, 1) := by decide +kernel
theorem dX4_originBits_42 : decode cX4_originBits 42 = .ok (.lstore 7, 2) := by decide +kernel
theorem dX4_originBits_44 : decode cX4_originBits 44 = .ok (.iconst 0, 1) := by decide +kernel
theorem dX4_originBits_45 : decode cX4_originBits 45 = .ok (.istore 9, 2) := by decide +kernel
theorem dX4_originBits_47 : decode cX4_originBits 47 = .ok (.iload 9, 2) := by decide +kernel
theorem dX4_originBits_49 : decode cX4_originBits 49 = .ok (.iconst 5, 1) := by decide +kernel
theorem dX4_originBits_50 : decode cX4_originBits 50 = .ok (.if_icmp .ge 50, 3) := by decide +kernel
theorem dX4_originBits_53 : decode cX4_originBits 53 = .ok (.aload_n 0, 1) := by decide +kernel
theorem dX4_originBits_54 : decode cX4_originBits 54 = .ok (.getfield 9, 3) := by decide +kernel
theorem dX4_originBits_57 : decode cX4_originBits 57 = .ok (.iload 4, 2) := by decide +kernel
theorem dX4_originBits_59 : decode cX4_originBits 59 = .ok (.iconst 4, 1) := by decide +kernel
theorem dX4_originBits_60 : decode cX4_originBits 60 = .ok (.iadd, 1) := by decide +kernel
theorem dX4_originBits_61 : decode cX4_originBits 61 = .ok (.iload 9, 2) := by decide +kernel
theorem dX4_originBits_63 : decode cX4_originBits 63 = .ok (.iadd, 1) := by decide +kernel
theorem dX4_originBits_64 : decode cX4_originBits 64 = .ok (.laload, 1) := by decide +kernel
theorem dX4_originBits_65 : decode cX4_originBits 65 = .ok (.lstore 10, 2) := by decide +kernel
theorem dX4_originBits_67 : decode cX4_originBits 67 = .ok (.lload 7, 2) := by decide +kernel
theorem dX4_originBits_69 : decode cX4_originBits 69 = .ok (.iload 6, 2) := by decide +kernel
theorem dX4_originBits_71 : decode cX4_originBits 71 = .ok (.iload 9, 2) := by decide +kernel
theorem dX4_originBits_73 : decode cX4_originBits 73 = .ok (.iushr, 1) := by decide +kernel
theorem dX4_originBits_74 : decode cX4_originBits 74 = .ok (.iconst 1, 1) := by decide +kernel
theorem dX4_originBits_75 : decode cX4_originBits 75 = .ok (.iand, 1) := by decide +kernel
theorem dX4_originBits_76 : decode cX4_originBits 76 = .ok (.iconst 1, 1) := by decide +kernel
theorem dX4_originBits_77 : decode cX4_originBits 77 = .ok (.if_icmp .ne 8, 3) := by decide +kernel
theorem dX4_originBits_80 : decode cX4_originBits 80 = .ok (.lload 10, 2) := by decide +kernel
theorem dX4_originBits_82 : decode cX4_originBits 82 = .ok (.goto 9, 3) := by decide +kernel
theorem dX4_originBits_85 : decode cX4_originBits 85 = .ok (.lload 10, 2) := by decide +kernel
theorem dX4_originBits_87 : decode cX4_originBits 87 = .ok (.ldc2_w 63, 3) := by decide +kernel
theorem dX4_originBits_90 : decode cX4_originBits 90 = .ok (.lxor, 1) := by decide +kernel
theorem dX4_originBits_91 : decode cX4_originBits 91 = .ok (.land, 1) := by decide +kernel
theorem dX4_originBits_92 : decode cX4_originBits 92 = .ok (.lstore 7, 2) := by decide +kernel
theorem dX4_originBits_94 : decode cX4_originBits 94 = .ok (.iinc 9 1, 3) := by decide +kernel
theorem dX4_originBits_97 : decode cX4_originBits 97 = .ok (.goto (-50), 3) := by decide +kernel
theorem dX4_originBits_100 : decode cX4_originBits 100 = .ok (.lload 7, 2) := by decide +kernel
theorem dX4_originBits_102 : decode cX4_originBits 102 = .ok (.lconst 0, 1) := by decide +kernel
theorem dX4_originBits_103 : decode cX4_originBits 103 = .ok (.lcmp, 1) := by decide +kernel
theorem dX4_originBits_104 : decode cX4_originBits 104 = .ok (.ifCond .eq 14, 3) := by decide +kernel
theorem dX4_originBits_107 : decode cX4_originBits 107 = .ok (.iload 5, 2) := by decide +kernel
theorem dX4_originBits_109 : decode cX4_originBits 109 = .ok (.iconst 1, 1) := by decide +kernel
theorem dX4_originBits_110 : decode cX4_originBits 110 = .ok (.iload 6, 2) := by decide +kernel
theorem dX4_originBits_112 : decode cX4_originBits 112 = .ok (.iconst 1, 1) := by decide +kernel
theorem dX4_originBits_113 : decode cX4_originBits 113 = .ok (.isub, 1) := by decide +kernel
theorem dX4_originBits_114 : decode cX4_originBits 114 = .ok (.ishl, 1) := by decide +kernel
theorem dX4_originBits_115 : decode cX4_originBits 115 = .ok (.ior, 1) := by decide +kernel
theorem dX4_originBits_116 : decode cX4_originBits 116 = .ok (.istore 5, 2) := by decide +kernel
theorem dX4_originBits_118 : decode cX4_originBits 118 = .ok (.iinc 6 1, 3) := by decide +kernel
theorem dX4_originBits_121 : decode cX4_originBits 121 = .ok (.goto (-97), 3) := by decide +kernel
theorem dX4_originBits_124 : decode cX4_originBits 124 = .ok (.iload 5, 2) := by decide +kernel
theorem dX4_originBits_126 : decode cX4_originBits 126 = .ok (.ireturn, 1) := by decide +kernel
theorem dX4_numberSources_0 : decode cX4_numberSources 0 = .ok (.iconst 0, 1) := by decide +kernel
theorem dX4_numberSources_1 : decode cX4_numberSources 1 = .ok (.istore_n 1, 1) := by decide +kernel
theorem dX4_numberSources_2 : decode cX4_numberSources 2 = .ok (.iconst 0, 1) := by decide +kernel
theorem dX4_numberSources_3 : decode cX4_numberSources 3 = .ok (.istore_n 2, 1) := by decide +kernel
theorem dX4_numberSources_4 : decode cX4_numberSources 4 = .ok (.iload_n 2, 1) := by decide +kernel
theorem dX4_numberSources_5 : decode cX4_numberSources 5 = .ok (.bipush 60, 2) := by decide +kernel
theorem dX4_numberSources_7 : decode cX4_numberSources 7 = .ok (.if_icmp .ge 61, 3) := by decide +kernel
theorem dX4_numberSources_10 : decode cX4_numberSources 10 = .ok (.aload_n 0, 1) := by decide +kernel
theorem dX4_numberSources_11 : decode cX4_numberSources 11 = .ok (.getfield 25, 3) := by decide +kernel
theorem dX4_numberSources_14 : decode cX4_numberSources 14 = .ok (.iload_n 2, 1) := by decide +kernel
theorem dX4_numberSources_15 : decode cX4_numberSources 15 = .ok (.iconst 0, 1) := by decide +kernel
theorem dX4_numberSources_16 : decode cX4_numberSources 16 = .ok (.iastore, 1) := by decide +kernel
theorem dX4_numberSources_17 : decode cX4_numberSources 17 = .ok (.iload_n 2, 1) := by decide +kernel
theorem dX4_numberSources_18 : decode cX4_numberSources 18 = .ok (.aload_n 0, 1) := by decide +kernel
theorem dX4_numberSources_19 : decode cX4_numberSources 19 = .ok (.getfield 38, 3) := by decide +kernel
theorem dX4_numberSources_22 : decode cX4_numberSources 22 = .ok (.getfield 65, 3) := by decide +kernel
theorem dX4_numberSources_25 : decode cX4_numberSources 25 = .ok (.if_icmp .ge 37, 3) := by decide +kernel
theorem dX4_numberSources_28 : decode cX4_numberSources 28 = .ok (.aload_n 0, 1) := by decide +kernel
theorem dX4_numberSources_29 : decode cX4_numberSources 29 = .ok (.getfield 38, 3) := by decide +kernel
theorem dX4_numberSources_32 : decode cX4_numberSources 32 = .ok (.iload_n 2, 1) := by decide +kernel
theorem dX4_numberSources_33 : decode cX4_numberSources 33 = .ok (.iconst 1, 1) := by decide +kernel
theorem dX4_numberSources_34 : decode cX4_numberSources 34 = .ok (.invokevirtual 68, 3) := by decide +kernel
theorem dX4_numberSources_37 : decode cX4_numberSources 37 = .ok (.bipush 9, 2) := by decide +kernel
theorem dX4_numberSources_39 : decode cX4_numberSources 39 = .ok (.if_icmp .ne 23, 3) := by decide +kernel
theorem dX4_numberSources_42 : decode cX4_numberSources 42 = .ok (.iinc 1 1, 3) := by decide +kernel
theorem dX4_numberSources_45 : decode cX4_numberSources 45 = .ok (.aload_n 0, 1) := by decide +kernel
theorem dX4_numberSources_46 : decode cX4_numberSources 46 = .ok (.getfield 25, 3) := by decide +kernel
theorem dX4_numberSources_49 : decode cX4_numberSources 49 = .ok (.iload_n 2, 1) := by decide +kernel
theorem dX4_numberSources_50 : decode cX4_numberSources 50 = .ok (.iload_n 1, 1) := by decide +kernel
theorem dX4_numberSources_51 : decode cX4_numberSources 51 = .ok (.bipush 20, 2) := by decide +kernel
theorem dX4_numberSources_53 : decode cX4_numberSources 53 = .ok (.if_icmp .gt 7, 3) := by decide +kernel
theorem dX4_numberSources_56 : decode cX4_numberSources 56 = .ok (.iload_n 1, 1) := by decide +kernel
theorem dX4_numberSources_57 : decode cX4_numberSources 57 = .ok (.goto 4, 3) := by decide +kernel
theorem dX4_numberSources_60 : decode cX4_numberSources 60 = .ok (.iconst 0, 1) := by decide +kernel
theorem dX4_numberSources_61 : decode cX4_numberSources 61 = .ok (.iastore, 1) := by decide +kernel
theorem dX4_numberSources_62 : decode cX4_numberSources 62 = .ok (.iinc 2 1, 3) := by decide +kernel
theorem dX4_numberSources_65 : decode cX4_numberSources 65 = .ok (.goto (-61), 3) := by decide +kernel
theorem dX4_numberSources_68 : decode cX4_numberSources 68 = .ok (.return_, 1) := by decide +kernel
theorem dX4_orderByHours_0 : decode cX4_orderByHours 0 = .ok (.aload_n 0, 1) := by decide +kernel
theorem dX4_orderByHours_1 : decode cX4_orderByHours 1 = .ok (.getfield 22, 3) := by decide +kernel
theorem dX4_orderByHours_4 : decode cX4_orderByHours 4 = .ok (.iconst 0, 1) := by decide +kernel
theorem dX4_orderByHours_5 : decode cX4_orderByHours 5 = .ok (.invokestatic 72, 3) := by decide +kernel
theorem dX4_orderByHours_8 : decode cX4_orderByHours 8 = .ok (.iconst 0, 1) := by decide +kernel
theorem dX4_orderByHours_9 : decode cX4_orderByHours 9 = .ok (.istore_n 1, 1) := by decide +kernel
theorem dX4_orderByHours_10 : decode cX4_orderByHours 10 = .ok (.iload_n 1, 1) := by decide +kernel
theorem dX4_orderByHours_11 : decode cX4_orderByHours 11 = .ok (.aload_n 0, 1) := by decide +kernel
theorem dX4_orderByHours_12 : decode cX4_orderByHours 12 = .ok (.getfield 38, 3) := by decide +kernel
theorem dX4_orderByHours_15 : decode cX4_orderByHours 15 = .ok (.getfield 65, 3) := by decide +kernel
theorem dX4_orderByHours_18 : decode cX4_orderByHours 18 = .ok (.if_icmp .ge 39, 3) := by decide +kernel
theorem dX4_orderByHours_21 : decode cX4_orderByHours 21 = .ok (.aload_n 0, 1) := by decide +kernel
theorem dX4_orderByHours_22 : decode cX4_orderByHours 22 = .ok (.getfield 38, 3) := by decide +kernel
theorem dX4_orderByHours_25 : decode cX4_orderByHours 25 = .ok (.iload_n 1, 1) := by decide +kernel
theorem dX4_orderByHours_26 : decode cX4_orderByHours 26 = .ok (.iconst 0, 1) := by decide +kernel
theorem dX4_orderByHours_27 : decode cX4_orderByHours 27 = .ok (.invokevirtual 68, 3) := by decide +kernel
theorem dX4_orderByHours_30 : decode cX4_orderByHours 30 = .ok (.istore_n 2, 1) := by decide +kernel
theorem dX4_orderByHours_31 : decode cX4_orderByHours 31 = .ok (.iload_n 2, 1) := by decide +kernel
theorem dX4_orderByHours_32 : decode cX4_orderByHours 32 = .ok (.ifCond .lt 19, 3) := by decide +kernel
theorem dX4_orderByHours_35 : decode cX4_orderByHours 35 = .ok (.iload_n 2, 1) := by decide +kernel
theorem dX4_orderByHours_36 : decode cX4_orderByHours 36 = .ok (.bipush 48, 2) := by decide +kernel
theorem dX4_orderByHours_38 : decode cX4_orderByHours 38 = .ok (.if_icmp .ge 13, 3) := by decide +kernel
theorem dX4_orderByHours_41 : decode cX4_orderByHours 41 = .ok (.aload_n 0, 1) := by decide +kernel
theorem dX4_orderByHours_42 : decode cX4_orderByHours 42 = .ok (.getfield 22, 3) := by decide +kernel
theorem dX4_orderByHours_45 : decode cX4_orderByHours 45 = .ok (.iload_n 2, 1) := by decide +kernel
theorem dX4_orderByHours_46 : decode cX4_orderByHours 46 = .ok (.dup2, 1) := by decide +kernel
theorem dX4_orderByHours_47 : decode cX4_orderByHours 47 = .ok (.iaload, 1) := by decide +kernel
theorem dX4_orderByHours_48 : decode cX4_orderByHours 48 = .ok (.iconst 1, 1) := by decide +kernel
theorem dX4_orderByHours_49 : decode cX4_orderByHours 49 = .ok (.iadd, 1) := by decide +kernel
theorem dX4_orderByHours_50 : decode cX4_orderByHours 50 = .ok (.iastore, 1) := by decide +kernel
theorem dX4_orderByHours_51 : decode cX4_orderByHours 51 = .ok (.iinc 1 1, 3) := by decide +kernel
theorem dX4_orderByHours_54 : decode cX4_orderByHours 54 = .ok (.goto (-44), 3) := by decide +kernel
theorem dX4_orderByHours_57 : decode cX4_orderByHours 57 = .ok (.iconst 1, 1) := by decide +kernel
theorem dX4_orderByHours_58 : decode cX4_orderByHours 58 = .ok (.istore_n 1, 1) := by decide +kernel
theorem dX4_orderByHours_59 : decode cX4_orderByHours 59 = .ok (.iload_n 1, 1) := by decide +kernel
theorem dX4_orderByHours_60 : decode cX4_orderByHours 60 = .ok (.bipush 48, 2) := by decide +kernel
theorem dX4_orderByHours_62 : decode cX4_orderByHours 62 = .ok (.if_icmp .gt 26, 3) := by decide +kernel
theorem dX4_orderByHours_65 : decode cX4_orderByHours 65 = .ok (.aload_n 0, 1) := by decide +kernel
theorem dX4_orderByHours_66 : decode cX4_orderByHours 66 = .ok (.getfield 22, 3) := by decide +kernel
theorem dX4_orderByHours_69 : decode cX4_orderByHours 69 = .ok (.iload_n 1, 1) := by decide +kernel
theorem dX4_orderByHours_70 : decode cX4_orderByHours 70 = .ok (.dup2, 1) := by decide +kernel
theorem dX4_orderByHours_71 : decode cX4_orderByHours 71 = .ok (.iaload, 1) := by decide +kernel
theorem dX4_orderByHours_72 : decode cX4_orderByHours 72 = .ok (.aload_n 0, 1) := by decide +kernel
theorem dX4_orderByHours_73 : decode cX4_orderByHours 73 = .ok (.getfield 22, 3) := by decide +kernel
theorem dX4_orderByHours_76 : decode cX4_orderByHours 76 = .ok (.iload_n 1, 1) := by decide +kernel
theorem dX4_orderByHours_77 : decode cX4_orderByHours 77 = .ok (.iconst 1, 1) := by decide +kernel
theorem dX4_orderByHours_78 : decode cX4_orderByHours 78 = .ok (.isub, 1) := by decide +kernel
theorem dX4_orderByHours_79 : decode cX4_orderByHours 79 = .ok (.iaload, 1) := by decide +kernel
theorem dX4_orderByHours_80 : decode cX4_orderByHours 80 = .ok (.iadd, 1) := by decide +kernel
theorem dX4_orderByHours_81 : decode cX4_orderByHours 81 = .ok (.iastore, 1) := by decide +kernel
theorem dX4_orderByHours_82 : decode cX4_orderByHours 82 = .ok (.iinc 1 1, 3) := by decide +kernel
theorem dX4_orderByHours_85 : decode cX4_orderByHours 85 = .ok (.goto (-26), 3) := by decide +kernel
theorem dX4_orderByHours_88 : decode cX4_orderByHours 88 = .ok (.aload_n 0, 1) := by decide +kernel
theorem dX4_orderByHours_89 : decode cX4_orderByHours 89 = .ok (.getfield 38, 3) := by decide +kernel
theorem dX4_orderByHours_92 : decode cX4_orderByHours 92 = .ok (.getfield 65, 3) := by decide +kernel
theorem dX4_orderByHours_95 : decode cX4_orderByHours 95 = .ok (.iconst 1, 1) := by decide +kernel
theorem dX4_orderByHours_96 : decode cX4_orderByHours 96 = .ok (.isub, 1) := by decide +kernel
theorem dX4_orderByHours_97 : decode cX4_orderByHours 97 = .ok (.istore_n 1, 1) := by decide +kernel
theorem dX4_orderByHours_98 : decode cX4_orderByHours 98 = .ok (.iload_n 1, 1) := by decide +kernel
theorem dX4_orderByHours_99 : decode cX4_orderByHours 99 = .ok (.ifCond .lt 71, 3) := by decide +kernel
theorem dX4_orderByHours_102 : decode cX4_orderByHours 102 = .ok (.aload_n 0, 1) := by decide +kernel
theorem dX4_orderByHours_103 : decode cX4_orderByHours 103 = .ok (.getfield 38, 3) := by decide +kernel
theorem dX4_orderByHours_106 : decode cX4_orderByHours 106 = .ok (.iload_n 1, 1) := by decide +kernel
theorem dX4_orderByHours_107 : decode cX4_orderByHours 107 = .ok (.iconst 0, 1) := by decide +kernel
theorem dX4_orderByHours_108 : decode cX4_orderByHours 108 = .ok (.invokevirtual 68, 3) := by decide +kernel
theorem dX4_orderByHours_111 : decode cX4_orderByHours 111 = .ok (.istore_n 2, 1) := by decide +kernel
theorem dX4_orderByHours_112 : decode cX4_orderByHours 112 = .ok (.iload_n 2, 1) := by decide +kernel
theorem dX4_orderByHours_113 : decode cX4_orderByHours 113 = .ok (.ifCond .lt 51, 3) := by decide +kernel
theorem dX4_orderByHours_116 : decode cX4_orderByHours 116 = .ok (.iload_n 2, 1) := by decide +kernel
theorem dX4_orderByHours_117 : decode cX4_orderByHours 117 = .ok (.bipush 48, 2) := by decide +kernel
theorem dX4_orderByHours_119 : decode cX4_orderByHours 119 = .ok (.if_icmp .ge 45, 3) := by decide +kernel
theorem dX4_orderByHours_122 : decode cX4_orderByHours 122 = .ok (.aload_n 0, 1) := by decide +kernel
theorem dX4_orderByHours_123 : decode cX4_orderByHours 123 = .ok (.getfield 22, 3) := by decide +kernel
theorem dX4_orderByHours_126 : decode cX4_orderByHours 126 = .ok (.iload_n 2, 1) := by decide +kernel
theorem dX4_orderByHours_127 : decode cX4_orderByHours 127 = .ok (.iaload, 1) := by decide +kernel
theorem dX4_orderByHours_128 : decode cX4_orderByHours 128 = .ok (.ifCond .le 36, 3) := by decide +kernel
theorem dX4_orderByHours_131 : decode cX4_orderByHours 131 = .ok (.aload_n 0, 1) := by decide +kernel
theorem dX4_orderByHours_132 : decode cX4_orderByHours 132 = .ok (.getfield 22, 3) := by decide +kernel
theorem dX4_orderByHours_135 : decode cX4_orderByHours 135 = .ok (.iload_n 2, 1) := by decide +kernel
theorem dX4_orderByHours_136 : decode cX4_orderByHours 136 = .ok (.iaload, 1) := by decide +kernel
theorem dX4_orderByHours_137 : decode cX4_orderByHours 137 = .ok (.bipush 60, 2) := by decide +kernel
theorem dX4_orderByHours_139 : decode cX4_orderByHours 139 = .ok (.if_icmp .gt 25, 3) := by decide +kernel
theorem dX4_orderByHours_142 : decode cX4_orderByHours 142 = .ok (.aload_n 0, 1) := by decide +kernel
theorem dX4_orderByHours_143 : decode cX4_orderByHours 143 = .ok (.getfield 22, 3) := by decide +kernel
theorem dX4_orderByHours_146 : decode cX4_orderByHours 146 = .ok (.iload_n 2, 1) := by decide +kernel
theorem dX4_orderByHours_147 : decode cX4_orderByHours 147 = .ok (.dup2, 1) := by decide +kernel
theorem dX4_orderByHours_148 : decode cX4_orderByHours 148 = .ok (.iaload, 1) := by decide +kernel
theorem dX4_orderByHours_149 : decode cX4_orderByHours 149 = .ok (.iconst 1, 1) := by decide +kernel
theorem dX4_orderByHours_150 : decode cX4_orderByHours 150 = .ok (.isub, 1) := by decide +kernel
theorem dX4_orderByHours_151 : decode cX4_orderByHours 151 = .ok (.iastore, 1) := by decide +kernel
theorem dX4_orderByHours_152 : decode cX4_orderByHours 152 = .ok (.aload_n 0, 1) := by decide +kernel
theorem dX4_orderByHours_153 : decode cX4_orderByHours 153 = .ok (.getfield 18, 3) := by decide +kernel
theorem dX4_orderByHours_156 : decode cX4_orderByHours 156 = .ok (.aload_n 0, 1) := by decide +kernel
theorem dX4_orderByHours_157 : decode cX4_orderByHours 157 = .ok (.getfield 22, 3) := by decide +kernel
theorem dX4_orderByHours_160 : decode cX4_orderByHours 160 = .ok (.iload_n 2, 1) := by decide +kernel
theorem dX4_orderByHours_161 : decode cX4_orderByHours 161 = .ok (.iaload, 1) := by decide +kernel
theorem dX4_orderByHours_162 : decode cX4_orderByHours 162 = .ok (.iload_n 1, 1) := by decide +kernel
theorem dX4_orderByHours_163 : decode cX4_orderByHours 163 = .ok (.iastore, 1) := by decide +kernel
theorem dX4_orderByHours_164 : decode cX4_orderByHours 164 = .ok (.iinc 1 (-1), 3) := by decide +kernel
theorem dX4_orderByHours_167 : decode cX4_orderByHours 167 = .ok (.goto (-69), 3) := by decide +kernel
theorem dX4_orderByHours_170 : decode cX4_orderByHours 170 = .ok (.return_, 1) := by decide +kernel
theorem dX4_begin_0 : decode cX4_begin 0 = .ok (.aload_n 0, 1) := by decide +kernel
theorem dX4_begin_1 : decode cX4_begin 1 = .ok (.getfield 9, 3) := by decide +kernel
theorem dX4_begin_4 : decode cX4_begin 4 = .ok (.lconst 0, 1) := by decide +kernel
theorem dX4_begin_5 : decode cX4_begin 5 = .ok (.invokestatic 78, 3) := by decide +kernel
theorem dX4_begin_8 : decode cX4_begin 8 = .ok (.iconst 0, 1) := by decide +kernel
theorem dX4_begin_9 : decode cX4_begin 9 = .ok (.istore_n 1, 1) := by decide +kernel
theorem dX4_begin_10 : decode cX4_begin 10 = .ok (.iload_n 1, 1) := by decide +kernel
theorem dX4_begin_11 : decode cX4_begin 11 = .ok (.bipush 12, 2) := by decide +kernel
theorem dX4_begin_13 : decode cX4_begin 13 = .ok (.if_icmp .ge 39, 3) := by decide +kernel
theorem dX4_begin_16 : decode cX4_begin 16 = .ok (.aload_n 0, 1) := by decide +kernel
theorem dX4_begin_17 : decode cX4_begin 17 = .ok (.getfield 9, 3) := by decide +kernel
theorem dX4_begin_20 : decode cX4_begin 20 = .ok (.iload_n 1, 1) := by decide +kernel
theorem dX4_begin_21 : decode cX4_begin 21 = .ok (.bipush 13, 2) := by decide +kernel
theorem dX4_begin_23 : decode cX4_begin 23 = .ok (.imul, 1) := by decide +kernel
theorem dX4_begin_24 : decode cX4_begin 24 = .ok (.bipush 9, 2) := by decide +kernel
theorem dX4_begin_26 : decode cX4_begin 26 = .ok (.iadd, 1) := by decide +kernel
theorem dX4_begin_27 : decode cX4_begin 27 = .ok (.aload_n 0, 1) := by decide +kernel
theorem dX4_begin_28 : decode cX4_begin 28 = .ok (.getfield 38, 3) := by decide +kernel
theorem dX4_begin_31 : decode cX4_begin 31 = .ok (.iload_n 1, 1) := by decide +kernel
theorem dX4_begin_32 : decode cX4_begin 32 = .ok (.invokevirtual 81, 3) := by decide +kernel
theorem dX4_begin_35 : decode cX4_begin 35 = .ok (.ifCond .eq 9, 3) := by decide +kernel
theorem dX4_begin_38 : decode cX4_begin 38 = .ok (.ldc2_w 63, 3) := by decide +kernel
theorem dX4_begin_41 : decode cX4_begin 41 = .ok (.goto 4, 3) := by decide +kernel
theorem dX4_begin_44 : decode cX4_begin 44 = .ok (.lconst 0, 1) := by decide +kernel
theorem dX4_begin_45 : decode cX4_begin 45 = .ok (.lastore, 1) := by decide +kernel
theorem dX4_begin_46 : decode cX4_begin 46 = .ok (.iinc 1 1, 3) := by decide +kernel
theorem dX4_begin_49 : decode cX4_begin 49 = .ok (.goto (-39), 3) := by decide +kernel
theorem dX4_begin_52 : decode cX4_begin 52 = .ok (.return_, 1) := by decide +kernel
theorem dX4_playHours_0 : decode cX4_playHours 0 = .ok (.iload_n 1, 1) := by decide +kernel
theorem dX4_playHours_1 : decode cX4_playHours 1 = .ok (.iconst 0, 1) := by decide +kernel
theorem dX4_playHours_2 : decode cX4_playHours 2 = .ok (.invokestatic 85, 3) := by decide +kernel
theorem dX4_playHours_5 : decode cX4_playHours 5 = .ok (.istore_n 3, 1) := by decide +kernel
theorem dX4_playHours_6 : decode cX4_playHours 6 = .ok (.iload_n 3, 1) := by decide +kernel
theorem dX4_playHours_7 : decode cX4_playHours 7 = .ok (.iload_n 2, 1) := by decide +kernel
theorem dX4_playHours_8 : decode cX4_playHours 8 = .ok (.if_icmp .gt 158, 3) := by decide +kernel
theorem dX4_playHours_11 : decode cX4_playHours 11 = .ok (.iload_n 3, 1) := by decide +kernel
theorem dX4_playHours_12 : decode cX4_playHours 12 = .ok (.bipush 48, 2) := by decide +kernel
theorem dX4_playHours_14 : decode cX4_playHours 14 = .ok (.if_icmp .ge 152, 3) := by decide +kernel
theorem dX4_playHours_17 : decode cX4_playHours 17 = .ok (.iload_n 3, 1) := by decide +kernel
theorem dX4_playHours_18 : decode cX4_playHours 18 = .ok (.bipush 24, 2) := by decide +kernel
theorem dX4_playHours_20 : decode cX4_playHours 20 = .ok (.if_icmp .ne 7, 3) := by decide +kernel
theorem dX4_playHours_23 : decode cX4_playHours 23 = .ok (.aload_n 0, 1) := by decide +kernel
theorem dX4_playHours_24 : decode cX4_playHours 24 = .ok (.invokevirtual 90, 3) := by decide +kernel
theorem dX4_playHours_27 : decode cX4_playHours 27 = .ok (.aload_n 0, 1) := by decide +kernel
theorem dX4_playHours_28 : decode cX4_playHours 28 = .ok (.getfield 22, 3) := by decide +kernel
theorem dX4_playHours_31 : decode cX4_playHours 31 = .ok (.iload_n 3, 1) := by decide +kernel
theorem dX4_playHours_32 : decode cX4_playHours 32 = .ok (.iaload, 1) := by decide +kernel
theorem dX4_playHours_33 : decode cX4_playHours 33 = .ok (.istore 4, 2) := by decide +kernel
theorem dX4_playHours_35 : decode cX4_playHours 35 = .ok (.iload 4, 2) := by decide +kernel
theorem dX4_playHours_37 : decode cX4_playHours 37 = .ok (.aload_n 0, 1) := by decide +kernel
theorem dX4_playHours_38 : decode cX4_playHours 38 = .ok (.getfield 22, 3) := by decide +kernel
theorem dX4_playHours_41 : decode cX4_playHours 41 = .ok (.iload_n 3, 1) := by decide +kernel
theorem dX4_playHours_42 : decode cX4_playHours 42 = .ok (.iconst 1, 1) := by decide +kernel
theorem dX4_playHours_43 : decode cX4_playHours 43 = .ok (.iadd, 1) := by decide +kernel
theorem dX4_playHours_44 : decode cX4_playHours 44 = .ok (.iaload, 1) := by decide +kernel
theorem dX4_playHours_45 : decode cX4_playHours 45 = .ok (.if_icmp .ge 115, 3) := by decide +kernel
theorem dX4_playHours_48 : decode cX4_playHours 48 = .ok (.iload 4, 2) := by decide +kernel
theorem dX4_playHours_50 : decode cX4_playHours 50 = .ok (.bipush 60, 2) := by decide +kernel
theorem dX4_playHours_52 : decode cX4_playHours 52 = .ok (.if_icmp .ge 108, 3) := by decide +kernel
theorem dX4_playHours_55 : decode cX4_playHours 55 = .ok (.aload_n 0, 1) := by decide +kernel
theorem dX4_playHours_56 : decode cX4_playHours 56 = .ok (.getfield 18, 3) := by decide +kernel
theorem dX4_playHours_59 : decode cX4_playHours 59 = .ok (.iload 4, 2) := by decide +kernel
theorem dX4_playHours_61 : decode cX4_playHours 61 = .ok (.iaload, 1) := by decide +kernel
theorem dX4_playHours_62 : decode cX4_playHours 62 = .ok (.istore 5, 2) := by decide +kernel
theorem dX4_playHours_64 : decode cX4_playHours 64 = .ok (.aload_n 0, 1) := by decide +kernel
theorem dX4_playHours_65 : decode cX4_playHours 65 = .ok (.getfield 38, 3) := by decide +kernel
theorem dX4_playHours_68 : decode cX4_playHours 68 = .ok (.iload 5, 2) := by decide +kernel
theorem dX4_playHours_70 : decode cX4_playHours 70 = .ok (.iconst 4, 1) := by decide +kernel
theorem dX4_playHours_71 : decode cX4_playHours 71 = .ok (.invokevirtual 68, 3) := by decide +kernel
theorem dX4_playHours_74 : decode cX4_playHours 74 = .ok (.invokestatic 93, 3) := by decide +kernel
theorem dX4_playHours_77 : decode cX4_playHours 77 = .ok (.lstore 6, 2) := by decide +kernel
theorem dX4_playHours_79 : decode cX4_playHours 79 = .ok (.aload_n 0, 1) := by decide +kernel
theorem dX4_playHours_80 : decode cX4_playHours 80 = .ok (.getfield 38, 3) := by decide +kernel
theorem dX4_playHours_83 : decode cX4_playHours 83 = .ok (.iload 5, 2) := by decide +kernel
theorem dX4_playHours_85 : decode cX4_playHours 85 = .ok (.iconst 1, 1) := by decide +kernel
theorem dX4_playHours_86 : decode cX4_playHours 86 = .ok (.invokevirtual 68, 3) := by decide +kernel
theorem dX4_playHours_89 : decode cX4_playHours 89 = .ok (.istore 8, 2) := by decide +kernel
theorem dX4_playHours_91 : decode cX4_playHours 91 = .ok (.aload_n 0, 1) := by decide +kernel
theorem dX4_playHours_92 : decode cX4_playHours 92 = .ok (.getfield 38, 3) := by decide +kernel
theorem dX4_playHours_95 : decode cX4_playHours 95 = .ok (.iload 5, 2) := by decide +kernel
theorem dX4_playHours_97 : decode cX4_playHours 97 = .ok (.iconst 2, 1) := by decide +kernel
theorem dX4_playHours_98 : decode cX4_playHours 98 = .ok (.invokevirtual 68, 3) := by decide +kernel
theorem dX4_playHours_101 : decode cX4_playHours 101 = .ok (.istore 9, 2) := by decide +kernel
theorem dX4_playHours_103 : decode cX4_playHours 103 = .ok (.aload_n 0, 1) := by decide +kernel
theorem dX4_playHours_104 : decode cX4_playHours 104 = .ok (.getfield 38, 3) := by decide +kernel
theorem dX4_playHours_107 : decode cX4_playHours 107 = .ok (.iload 5, 2) := by decide +kernel
theorem dX4_playHours_109 : decode cX4_playHours 109 = .ok (.iconst 3, 1) := by decide +kernel
theorem dX4_playHours_110 : decode cX4_playHours 110 = .ok (.invokevirtual 68, 3) := by decide +kernel
theorem dX4_playHours_113 : decode cX4_playHours 113 = .ok (.istore 10, 2) := by decide +kernel
theorem dX4_playHours_115 : decode cX4_playHours 115 = .ok (.iload 8, 2) := by decide +kernel
theorem dX4_playHours_117 : decode cX4_playHours 117 = .ok (.bipush 9, 2) := by decide +kernel
theorem dX4_playHours_119 : decode cX4_playHours 119 = .ok (.if_icmp .ne 23, 3) := by decide +kernel
theorem dX4_playHours_122 : decode cX4_playHours 122 = .ok (.aload_n 0, 1) := by decide +kernel
theorem dX4_playHours_123 : decode cX4_playHours 123 = .ok (.iload 9, 2) := by decide +kernel
theorem dX4_playHours_125 : decode cX4_playHours 125 = .ok (.iload 10, 2) := by decide +kernel
theorem dX4_playHours_127 : decode cX4_playHours 127 = .ok (.lload 6, 2) := by decide +kernel
theorem dX4_playHours_129 : decode cX4_playHours 129 = .ok (.aload_n 0, 1) := by decide +kernel
theorem dX4_playHours_130 : decode cX4_playHours 130 = .ok (.getfield 25, 3) := by decide +kernel
theorem dX4_playHours_133 : decode cX4_playHours 133 = .ok (.iload 5, 2) := by decide +kernel
theorem dX4_playHours_135 : decode cX4_playHours 135 = .ok (.iaload, 1) := by decide +kernel
theorem dX4_playHours_136 : decode cX4_playHours 136 = .ok (.invokevirtual 97, 3) := by decide +kernel
theorem dX4_playHours_139 : decode cX4_playHours 139 = .ok (.goto 15, 3) := by decide +kernel
theorem dX4_playHours_142 : decode cX4_playHours 142 = .ok (.aload_n 0, 1) := by decide +kernel
theorem dX4_playHours_143 : decode cX4_playHours 143 = .ok (.iload 8, 2) := by decide +kernel
theorem dX4_playHours_145 : decode cX4_playHours 145 = .ok (.iload 9, 2) := by decide +kernel
theorem dX4_playHours_147 : decode cX4_playHours 147 = .ok (.iload 10, 2) := by decide +kernel
theorem dX4_playHours_149 : decode cX4_playHours 149 = .ok (.lload 6, 2) := by decide +kernel
theorem dX4_playHours_151 : decode cX4_playHours 151 = .ok (.invokevirtual 101, 3) := by decide +kernel
theorem dX4_playHours_154 : decode cX4_playHours 154 = .ok (.iinc 4 1, 3) := by decide +kernel
theorem dX4_playHours_157 : decode cX4_playHours 157 = .ok (.goto (-122), 3) := by decide +kernel
theorem dX4_playHours_160 : decode cX4_playHours 160 = .ok (.iinc 3 1, 3) := by decide +kernel
theorem dX4_playHours_163 : decode cX4_playHours 163 = .ok (.goto (-157), 3) := by decide +kernel
theorem dX4_playHours_166 : decode cX4_playHours 166 = .ok (.return_, 1) := by decide +kernel
theorem dX4_cleanTheWashed_0 : decode cX4_cleanTheWashed 0 = .ok (.iconst 0, 1) := by decide +kernel
theorem dX4_cleanTheWashed_1 : decode cX4_cleanTheWashed 1 = .ok (.istore_n 1, 1) := by decide +kernel
theorem dX4_cleanTheWashed_2 : decode cX4_cleanTheWashed 2 = .ok (.iload_n 1, 1) := by decide +kernel
theorem dX4_cleanTheWashed_3 : decode cX4_cleanTheWashed 3 = .ok (.aload_n 0, 1) := by decide +kernel
theorem dX4_cleanTheWashed_4 : decode cX4_cleanTheWashed 4 = .ok (.getfield 38, 3) := by decide +kernel
theorem dX4_cleanTheWashed_7 : decode cX4_cleanTheWashed 7 = .ok (.getfield 105, 3) := by decide +kernel
theorem dX4_cleanTheWashed_10 : decode cX4_cleanTheWashed 10 = .ok (.if_icmp .ge 56, 3) := by decide +kernel
theorem dX4_cleanTheWashed_13 : decode cX4_cleanTheWashed 13 = .ok (.iload_n 1, 1) := by decide +kernel
theorem dX4_cleanTheWashed_14 : decode cX4_cleanTheWashed 14 = .ok (.bipush 12, 2) := by decide +kernel
theorem dX4_cleanTheWashed_16 : decode cX4_cleanTheWashed 16 = .ok (.if_icmp .ge 50, 3) := by decide +kernel
theorem dX4_cleanTheWashed_19 : decode cX4_cleanTheWashed 19 = .ok (.iload_n 1, 1) := by decide +kernel
theorem dX4_cleanTheWashed_20 : decode cX4_cleanTheWashed 20 = .ok (.bipush 13, 2) := by decide +kernel
theorem dX4_cleanTheWashed_22 : decode cX4_cleanTheWashed 22 = .ok (.imul, 1) := by decide +kernel
theorem dX4_cleanTheWashed_23 : decode cX4_cleanTheWashed 23 = .ok (.istore_n 2, 1) := by decide +kernel
theorem dX4_cleanTheWashed_24 : decode cX4_cleanTheWashed 24 = .ok (.aload_n 0, 1) := by decide +kernel
theorem dX4_cleanTheWashed_25 : decode cX4_cleanTheWashed 25 = .ok (.getfield 38, 3) := by decide +kernel
theorem dX4_cleanTheWashed_28 : decode cX4_cleanTheWashed 28 = .ok (.iload_n 1, 1) := by decide +kernel
theorem dX4_cleanTheWashed_29 : decode cX4_cleanTheWashed 29 = .ok (.invokevirtual 108, 3) := by decide +kernel
theorem dX4_cleanTheWashed_32 : decode cX4_cleanTheWashed 32 = .ok (.iconst 3, 1) := by decide +kernel
theorem dX4_cleanTheWashed_33 : decode cX4_cleanTheWashed 33 = .ok (.if_icmp .ne 27, 3) := by decide +kernel
theorem dX4_cleanTheWashed_36 : decode cX4_cleanTheWashed 36 = .ok (.aload_n 0, 1) := by decide +kernel
theorem dX4_cleanTheWashed_37 : decode cX4_cleanTheWashed 37 = .ok (.iload_n 2, 1) := by decide +kernel
theorem dX4_cleanTheWashed_38 : decode cX4_cleanTheWashed 38 = .ok (.aload_n 0, 1) := by decide +kernel
theorem dX4_cleanTheWashed_39 : decode cX4_cleanTheWashed 39 = .ok (.getfield 9, 3) := by decide +kernel
theorem dX4_cleanTheWashed_42 : decode cX4_cleanTheWashed 42 = .ok (.iload_n 2, 1) := by decide +kernel
theorem dX4_cleanTheWashed_43 : decode cX4_cleanTheWashed 43 = .ok (.bipush 12, 2) := by decide +kernel
theorem dX4_cleanTheWashed_45 : decode cX4_cleanTheWashed 45 = .ok (.iadd, 1) := by decide +kernel
theorem dX4_cleanTheWashed_46 : decode cX4_cleanTheWashed 46 = .ok (.laload, 1) := by decide +kernel
theorem dX4_cleanTheWashed_47 : decode cX4_cleanTheWashed 47 = .ok (.invokevirtual 112, 3) := by decide +kernel
theorem dX4_cleanTheWashed_50 : decode cX4_cleanTheWashed 50 = .ok (.aload_n 0, 1) := by decide +kernel
theorem dX4_cleanTheWashed_51 : decode cX4_cleanTheWashed 51 = .ok (.getfield 9, 3) := by decide +kernel
theorem dX4_cleanTheWashed_54 : decode cX4_cleanTheWashed 54 = .ok (.iload_n 2, 1) := by decide +kernel
theorem dX4_cleanTheWashed_55 : decode cX4_cleanTheWashed 55 = .ok (.bipush 12, 2) := by decide +kernel
theorem dX4_cleanTheWashed_57 : decode cX4_cleanTheWashed 57 = .ok (.iadd, 1) := by decide +kernel
theorem dX4_cleanTheWashed_58 : decode cX4_cleanTheWashed 58 = .ok (.lconst 0, 1) := by decide +kernel
theorem dX4_cleanTheWashed_59 : decode cX4_cleanTheWashed 59 = .ok (.lastore, 1) := by decide +kernel
theorem dX4_cleanTheWashed_60 : decode cX4_cleanTheWashed 60 = .ok (.iinc 1 1, 3) := by decide +kernel
theorem dX4_cleanTheWashed_63 : decode cX4_cleanTheWashed 63 = .ok (.goto (-61), 3) := by decide +kernel
theorem dX4_cleanTheWashed_66 : decode cX4_cleanTheWashed 66 = .ok (.return_, 1) := by decide +kernel
theorem dX4_happen_0 : decode cX4_happen 0 = .ok (.iload_n 2, 1) := by decide +kernel
theorem dX4_happen_1 : decode cX4_happen 1 = .ok (.ifCond .lt 9, 3) := by decide +kernel
theorem dX4_happen_4 : decode cX4_happen 4 = .ok (.iload_n 2, 1) := by decide +kernel
theorem dX4_happen_5 : decode cX4_happen 5 = .ok (.bipush 12, 2) := by decide +kernel
theorem dX4_happen_7 : decode cX4_happen 7 = .ok (.if_icmp .lt 4, 3) := by decide +kernel
theorem dX4_happen_10 : decode cX4_happen 10 = .ok (.return_, 1) := by decide +kernel
theorem dX4_happen_11 : decode cX4_happen 11 = .ok (.iload_n 1, 1) := by decide +kernel
theorem dX4_happen_12 : decode cX4_happen 12 = .ok (.iconst 4, 1) := by decide +kernel
theorem dX4_happen_13 : decode cX4_happen 13 = .ok (.if_icmp .le 14, 3) := by decide +kernel
theorem dX4_happen_16 : decode cX4_happen 16 = .ok (.aload_n 0, 1) := by decide +kernel
theorem dX4_happen_17 : decode cX4_happen 17 = .ok (.iload_n 1, 1) := by decide +kernel
theorem dX4_happen_18 : decode cX4_happen 18 = .ok (.iload_n 2, 1) := by decide +kernel
theorem dX4_happen_19 : decode cX4_happen 19 = .ok (.lload 4, 2) := by decide +kernel
theorem dX4_happen_21 : decode cX4_happen 21 = .ok (.invokevirtual 116, 3) := by decide +kernel
theorem dX4_happen_24 : decode cX4_happen 24 = .ok (.goto 117, 3) := by decide +kernel
theorem dX4_happen_27 : decode cX4_happen 27 = .ok (.iload_n 3, 1) := by decide +kernel
theorem dX4_happen_28 : decode cX4_happen 28 = .ok (.ifCond .lt 113, 3) := by decide +kernel
theorem dX4_happen_31 : decode cX4_happen 31 = .ok (.iload_n 3, 1) := by decide +kernel
theorem dX4_happen_32 : decode cX4_happen 32 = .ok (.bipush 12, 2) := by decide +kernel
theorem dX4_happen_34 : decode cX4_happen 34 = .ok (.if_icmp .ge 107, 3) := by decide +kernel
theorem dX4_happen_37 : decode cX4_happen 37 = .ok (.aload_n 0, 1) := by decide +kernel
theorem dX4_happen_38 : decode cX4_happen 38 = .ok (.getfield 9, 3) := by decide +kernel
theorem dX4_happen_41 : decode cX4_happen 41 = .ok (.iload_n 2, 1) := by decide +kernel
theorem dX4_happen_42 : decode cX4_happen 42 = .ok (.bipush 13, 2) := by decide +kernel
theorem dX4_happen_44 : decode cX4_happen 44 = .ok (.imul, 1) := by decide +kernel
theorem dX4_happen_45 : decode cX4_happen 45 = .ok (.aload_n 0, 1) := by decide +kernel
theorem dX4_happen_46 : decode cX4_happen 46 = .ok (.getfield 28, 3) := by decide +kernel
theorem dX4_happen_49 : decode cX4_happen 49 = .ok (.iconst 0, 1) := by decide +kernel
theorem dX4_happen_50 : decode cX4_happen 50 = .ok (.bipush 9, 2) := by decide +kernel
theorem dX4_happen_52 : decode cX4_happen 52 = .ok (.invokestatic 120, 3) := by decide +kernel
theorem dX4_happen_55 : decode cX4_happen 55 = .ok (.aload_n 0, 1) := by decide +kernel
theorem dX4_happen_56 : decode cX4_happen 56 = .ok (.getfield 9, 3) := by decide +kernel
theorem dX4_happen_59 : decode cX4_happen 59 = .ok (.iload_n 3, 1) := by decide +kernel
theorem dX4_happen_60 : decode cX4_happen 60 = .ok (.bipush 13, 2) := by decide +kernel
theorem dX4_happen_62 : decode cX4_happen 62 = .ok (.imul, 1) := by decide +kernel
theorem dX4_happen_63 : decode cX4_happen 63 = .ok (.aload_n 0, 1) := by decide +kernel
theorem dX4_happen_64 : decode cX4_happen 64 = .ok (.getfield 31, 3) := by decide +kernel
theorem dX4_happen_67 : decode cX4_happen 67 = .ok (.iconst 0, 1) := by decide +kernel
theorem dX4_happen_68 : decode cX4_happen 68 = .ok (.bipush 9, 2) := by decide +kernel
theorem dX4_happen_70 : decode cX4_happen 70 = .ok (.invokestatic 120, 3) := by decide +kernel
theorem dX4_happen_73 : decode cX4_happen 73 = .ok (.iload_n 1, 1) := by decide +kernel
theorem dX4_happen_74 : decode cX4_happen 74 = .ok (.iconst 2, 1) := by decide +kernel
theorem dX4_happen_75 : decode cX4_happen 75 = .ok (.if_icmp .ne 17, 3) := by decide +kernel
theorem dX4_happen_78 : decode cX4_happen 78 = .ok (.aload_n 0, 1) := by decide +kernel
theorem dX4_happen_79 : decode cX4_happen 79 = .ok (.getfield 28, 3) := by decide +kernel
theorem dX4_happen_82 : decode cX4_happen 82 = .ok (.invokestatic 126, 3) := by decide +kernel
theorem dX4_happen_85 : decode cX4_happen 85 = .ok (.aload_n 0, 1) := by decide +kernel
theorem dX4_happen_86 : decode cX4_happen 86 = .ok (.getfield 31, 3) := by decide +kernel
theorem dX4_happen_89 : decode cX4_happen 89 = .ok (.invokestatic 126, 3) := by decide +kernel
theorem dX4_happen_92 : decode cX4_happen 92 = .ok (.iload_n 1, 1) := by decide +kernel
theorem dX4_happen_93 : decode cX4_happen 93 = .ok (.iconst 4, 1) := by decide +kernel
theorem dX4_happen_94 : decode cX4_happen 94 = .ok (.if_icmp .ne 15, 3) := by decide +kernel
theorem dX4_happen_97 : decode cX4_happen 97 = .ok (.aload_n 0, 1) := by decide +kernel
theorem dX4_happen_98 : decode cX4_happen 98 = .ok (.getfield 38, 3) := by decide +kernel
theorem dX4_happen_101 : decode cX4_happen 101 = .ok (.iconst 0, 1) := by decide +kernel
theorem dX4_happen_102 : decode cX4_happen 102 = .ok (.invokevirtual 130, 3) := by decide +kernel
theorem dX4_happen_105 : decode cX4_happen 105 = .ok (.iconst 1, 1) := by decide +kernel
theorem dX4_happen_106 : decode cX4_happen 106 = .ok (.if_icmp .ne 14, 3) := by decide +kernel
theorem dX4_happen_109 : decode cX4_happen 109 = .ok (.aload_n 0, 1) := by decide +kernel
theorem dX4_happen_110 : decode cX4_happen 110 = .ok (.iload_n 2, 1) := by decide +kernel
theorem dX4_happen_111 : decode cX4_happen 111 = .ok (.aload_n 0, 1) := by decide +kernel
theorem dX4_happen_112 : decode cX4_happen 112 = .ok (.getfield 31, 3) := by decide +kernel
theorem dX4_happen_115 : decode cX4_happen 115 = .ok (.lload 4, 2) := by decide +kernel
theorem dX4_happen_117 : decode cX4_happen 117 = .ok (.invokevirtual 133, 3) := by decide +kernel
theorem dX4_happen_120 : decode cX4_happen 120 = .ok (.iload_n 1, 1) := by decide +kernel
theorem dX4_happen_121 : decode cX4_happen 121 = .ok (.iconst 1, 1) := by decide +kernel
theorem dX4_happen_122 : decode cX4_happen 122 = .ok (.if_icmp .eq 19, 3) := by decide +kernel
theorem dX4_happen_125 : decode cX4_happen 125 = .ok (.iload_n 1, 1) := by decide +kernel
theorem dX4_happen_126 : decode cX4_happen 126 = .ok (.iconst 3, 1) := by decide +kernel
theorem dX4_happen_127 : decode cX4_happen 127 = .ok (.if_icmp .eq 14, 3) := by decide +kernel
theorem dX4_happen_130 : decode cX4_happen 130 = .ok (.aload_n 0, 1) := by decide +kernel
theorem dX4_happen_131 : decode cX4_happen 131 = .ok (.iload_n 3, 1) := by decide +kernel
theorem dX4_happen_132 : decode cX4_happen 132 = .ok (.aload_n 0, 1) := by decide +kernel
theorem dX4_happen_133 : decode cX4_happen 133 = .ok (.getfield 28, 3) := by decide +kernel
theorem dX4_happen_136 : decode cX4_happen 136 = .ok (.lload 4, 2) := by decide +kernel
theorem dX4_happen_138 : decode cX4_happen 138 = .ok (.invokevirtual 133, 3) := by decide +kernel
theorem dX4_happen_141 : decode cX4_happen 141 = .ok (.aload_n 0, 1) := by decide +kernel
theorem dX4_happen_142 : decode cX4_happen 142 = .ok (.lload 4, 2) := by decide +kernel
theorem dX4_happen_144 : decode cX4_happen 144 = .ok (.invokevirtual 137, 3) := by decide +kernel
theorem dX4_happen_147 : decode cX4_happen 147 = .ok (.return_, 1) := by decide +kernel
theorem dX4_alterOne_0 : decode cX4_alterOne 0 = .ok (.iload_n 2, 1) := by decide +kernel
theorem dX4_alterOne_1 : decode cX4_alterOne 1 = .ok (.bipush 13, 2) := by decide +kernel
theorem dX4_alterOne_3 : decode cX4_alterOne 3 = .ok (.imul, 1) := by decide +kernel
theorem dX4_alterOne_4 : decode cX4_alterOne 4 = .ok (.istore 5, 2) := by decide +kernel
theorem dX4_alterOne_6 : decode cX4_alterOne 6 = .ok (.aload_n 0, 1) := by decide +kernel
theorem dX4_alterOne_7 : decode cX4_alterOne 7 = .ok (.getfield 38, 3) := by decide +kernel
theorem dX4_alterOne_10 : decode cX4_alterOne 10 = .ok (.iload_n 2, 1) := by decide +kernel
theorem dX4_alterOne_11 : decode cX4_alterOne 11 = .ok (.invokevirtual 108, 3) := by decide +kernel
theorem dX4_alterOne_14 : decode cX4_alterOne 14 = .ok (.invokestatic 141, 3) := by decide +kernel
theorem dX4_alterOne_17 : decode cX4_alterOne 17 = .ok (.istore 6, 2) := by decide +kernel
theorem dX4_alterOne_19 : decode cX4_alterOne 19 = .ok (.iload_n 1, 1) := by decide +kernel
theorem dX4_alterOne_20 : decode cX4_alterOne 20 = .ok (.tableswitch 191 5 8 #[32, 128, 157, 174], 32) := by decide +kernel
theorem dX4_alterOne_52 : decode cX4_alterOne 52 = .ok (.iload 6, 2) := by decide +kernel
theorem dX4_alterOne_54 : decode cX4_alterOne 54 = .ok (.ifCond .eq 13, 3) := by decide +kernel
theorem dX4_alterOne_57 : decode cX4_alterOne 57 = .ok (.aload_n 0, 1) := by decide +kernel
theorem dX4_alterOne_58 : decode cX4_alterOne 58 = .ok (.iload 5, 2) := by decide +kernel
theorem dX4_alterOne_60 : decode cX4_alterOne 60 = .ok (.lload_n 3, 1) := by decide +kernel
theorem dX4_alterOne_61 : decode cX4_alterOne 61 = .ok (.invokevirtual 112, 3) := by decide +kernel
theorem dX4_alterOne_64 : decode cX4_alterOne 64 = .ok (.goto 147, 3) := by decide +kernel
theorem dX4_alterOne_67 : decode cX4_alterOne 67 = .ok (.aload_n 0, 1) := by decide +kernel
theorem dX4_alterOne_68 : decode cX4_alterOne 68 = .ok (.getfield 38, 3) := by decide +kernel
theorem dX4_alterOne_71 : decode cX4_alterOne 71 = .ok (.iload_n 2, 1) := by decide +kernel
theorem dX4_alterOne_72 : decode cX4_alterOne 72 = .ok (.invokevirtual 108, 3) := by decide +kernel
theorem dX4_alterOne_75 : decode cX4_alterOne 75 = .ok (.iconst 3, 1) := by decide +kernel
theorem dX4_alterOne_76 : decode cX4_alterOne 76 = .ok (.if_icmp .ne 135, 3) := by decide +kernel
theorem dX4_alterOne_79 : decode cX4_alterOne 79 = .ok (.lload_n 3, 1) := by decide +kernel
theorem dX4_alterOne_80 : decode cX4_alterOne 80 = .ok (.aload_n 0, 1) := by decide +kernel
theorem dX4_alterOne_81 : decode cX4_alterOne 81 = .ok (.getfield 9, 3) := by decide +kernel
theorem dX4_alterOne_84 : decode cX4_alterOne 84 = .ok (.iload 5, 2) := by decide +kernel
theorem dX4_alterOne_86 : decode cX4_alterOne 86 = .ok (.iconst 3, 1) := by decide +kernel
theorem dX4_alterOne_87 : decode cX4_alterOne 87 = .ok (.iadd, 1) := by decide +kernel
theorem dX4_alterOne_88 : decode cX4_alterOne 88 = .ok (.laload, 1) := by decide +kernel
theorem dX4_alterOne_89 : decode cX4_alterOne 89 = .ok (.land, 1) := by decide +kernel
theorem dX4_alterOne_90 : decode cX4_alterOne 90 = .ok (.aload_n 0, 1) := by decide +kernel
theorem dX4_alterOne_91 : decode cX4_alterOne 91 = .ok (.getfield 9, 3) := by decide +kernel
theorem dX4_alterOne_94 : decode cX4_alterOne 94 = .ok (.iload 5, 2) := by decide +kernel
theorem dX4_alterOne_96 : decode cX4_alterOne 96 = .ok (.bipush 12, 2) := by decide +kernel
theorem dX4_alterOne_98 : decode cX4_alterOne 98 = .ok (.iadd, 1) := by decide +kernel
theorem dX4_alterOne_99 : decode cX4_alterOne 99 = .ok (.laload, 1) := by decide +kernel
theorem dX4_alterOne_100 : decode cX4_alterOne 100 = .ok (.ldc2_w 63, 3) := by decide +kernel
theorem dX4_alterOne_103 : decode cX4_alterOne 103 = .ok (.lxor, 1) := by decide +kernel
theorem dX4_alterOne_104 : decode cX4_alterOne 104 = .ok (.land, 1) := by decide +kernel
theorem dX4_alterOne_105 : decode cX4_alterOne 105 = .ok (.lstore 7, 2) := by decide +kernel
theorem dX4_alterOne_107 : decode cX4_alterOne 107 = .ok (.aload_n 0, 1) := by decide +kernel
theorem dX4_alterOne_108 : decode cX4_alterOne 108 = .ok (.aload_n 0, 1) := by decide +kernel
theorem dX4_alterOne_109 : decode cX4_alterOne 109 = .ok (.getfield 144, 3) := by decide +kernel
theorem dX4_alterOne_112 : decode cX4_alterOne 112 = .ok (.ifCond .ne 10, 3) := by decide +kernel
theorem dX4_alterOne_115 : decode cX4_alterOne 115 = .ok (.lload 7, 2) := by decide +kernel
theorem dX4_alterOne_117 : decode cX4_alterOne 117 = .ok (.lconst 0, 1) := by decide +kernel
theorem dX4_alterOne_118 : decode cX4_alterOne 118 = .ok (.lcmp, 1) := by decide +kernel
theorem dX4_alterOne_119 : decode cX4_alterOne 119 = .ok (.ifCond .eq 7, 3) := by decide +kernel
theorem dX4_alterOne_122 : decode cX4_alterOne 122 = .ok (.iconst 1, 1) := by decide +kernel
theorem dX4_alterOne_123 : decode cX4_alterOne 123 = .ok (.goto 4, 3) := by decide +kernel
theorem dX4_alterOne_126 : decode cX4_alterOne 126 = .ok (.iconst 0, 1) := by decide +kernel
theorem dX4_alterOne_127 : decode cX4_alterOne 127 = .ok (.putfield 144, 3) := by decide +kernel
theorem dX4_alterOne_130 : decode cX4_alterOne 130 = .ok (.aload_n 0, 1) := by decide +kernel
theorem dX4_alterOne_131 : decode cX4_alterOne 131 = .ok (.getfield 9, 3) := by decide +kernel
theorem dX4_alterOne_134 : decode cX4_alterOne 134 = .ok (.iload 5, 2) := by decide +kernel
theorem dX4_alterOne_136 : decode cX4_alterOne 136 = .ok (.bipush 12, 2) := by decide +kernel
theorem dX4_alterOne_138 : decode cX4_alterOne 138 = .ok (.iadd, 1) := by decide +kernel
theorem dX4_alterOne_139 : decode cX4_alterOne 139 = .ok (.dup2, 1) := by decide +kernel
theorem dX4_alterOne_140 : decode cX4_alterOne 140 = .ok (.laload, 1) := by decide +kernel
theorem dX4_alterOne_141 : decode cX4_alterOne 141 = .ok (.lload 7, 2) := by decide +kernel
theorem dX4_alterOne_143 : decode cX4_alterOne 143 = .ok (.lor, 1) := by decide +kernel
theorem dX4_alterOne_144 : decode cX4_alterOne 144 = .ok (.lastore, 1) := by decide +kernel
theorem dX4_alterOne_145 : decode cX4_alterOne 145 = .ok (.goto 66, 3) := by decide +kernel
theorem dX4_alterOne_148 : decode cX4_alterOne 148 = .ok (.iload 6, 2) := by decide +kernel
theorem dX4_alterOne_150 : decode cX4_alterOne 150 = .ok (.ifCond .eq 61, 3) := by decide +kernel
theorem dX4_alterOne_153 : decode cX4_alterOne 153 = .ok (.aload_n 0, 1) := by decide +kernel
theorem dX4_alterOne_154 : decode cX4_alterOne 154 = .ok (.iload 5, 2) := by decide +kernel
theorem dX4_alterOne_156 : decode cX4_alterOne 156 = .ok (.lload_n 3, 1) := by decide +kernel
theorem dX4_alterOne_157 : decode cX4_alterOne 157 = .ok (.invokevirtual 112, 3) := by decide +kernel
theorem dX4_alterOne_160 : decode cX4_alterOne 160 = .ok (.aload_n 0, 1) := by decide +kernel
theorem dX4_alterOne_161 : decode cX4_alterOne 161 = .ok (.getfield 9, 3) := by decide +kernel
theorem dX4_alterOne_164 : decode cX4_alterOne 164 = .ok (.iload 5, 2) := by decide +kernel
theorem dX4_alterOne_166 : decode cX4_alterOne 166 = .ok (.bipush 10, 2) := by decide +kernel
theorem dX4_alterOne_168 : decode cX4_alterOne 168 = .ok (.iadd, 1) := by decide +kernel
theorem dX4_alterOne_169 : decode cX4_alterOne 169 = .ok (.dup2, 1) := by decide +kernel
theorem dX4_alterOne_170 : decode cX4_alterOne 170 = .ok (.laload, 1) := by decide +kernel
theorem dX4_alterOne_171 : decode cX4_alterOne 171 = .ok (.lload_n 3, 1) := by decide +kernel
theorem dX4_alterOne_172 : decode cX4_alterOne 172 = .ok (.lor, 1) := by decide +kernel
theorem dX4_alterOne_173 : decode cX4_alterOne 173 = .ok (.lastore, 1) := by decide +kernel
theorem dX4_alterOne_174 : decode cX4_alterOne 174 = .ok (.goto 37, 3) := by decide +kernel
theorem dX4_alterOne_177 : decode cX4_alterOne 177 = .ok (.aload_n 0, 1) := by decide +kernel
theorem dX4_alterOne_178 : decode cX4_alterOne 178 = .ok (.getfield 9, 3) := by decide +kernel
theorem dX4_alterOne_181 : decode cX4_alterOne 181 = .ok (.iload 5, 2) := by decide +kernel
theorem dX4_alterOne_183 : decode cX4_alterOne 183 = .ok (.bipush 11, 2) := by decide +kernel
theorem dX4_alterOne_185 : decode cX4_alterOne 185 = .ok (.iadd, 1) := by decide +kernel
theorem dX4_alterOne_186 : decode cX4_alterOne 186 = .ok (.dup2, 1) := by decide +kernel
theorem dX4_alterOne_187 : decode cX4_alterOne 187 = .ok (.laload, 1) := by decide +kernel
theorem dX4_alterOne_188 : decode cX4_alterOne 188 = .ok (.lload_n 3, 1) := by decide +kernel
theorem dX4_alterOne_189 : decode cX4_alterOne 189 = .ok (.lor, 1) := by decide +kernel
theorem dX4_alterOne_190 : decode cX4_alterOne 190 = .ok (.lastore, 1) := by decide +kernel
theorem dX4_alterOne_191 : decode cX4_alterOne 191 = .ok (.goto 20, 3) := by decide +kernel
theorem dX4_alterOne_194 : decode cX4_alterOne 194 = .ok (.aload_n 0, 1) := by decide +kernel
theorem dX4_alterOne_195 : decode cX4_alterOne 195 = .ok (.getfield 9, 3) := by decide +kernel
theorem dX4_alterOne_198 : decode cX4_alterOne 198 = .ok (.iload 5, 2) := by decide +kernel
theorem dX4_alterOne_200 : decode cX4_alterOne 200 = .ok (.bipush 9, 2) := by decide +kernel
theorem dX4_alterOne_202 : decode cX4_alterOne 202 = .ok (.iadd, 1) := by decide +kernel
theorem dX4_alterOne_203 : decode cX4_alterOne 203 = .ok (.dup2, 1) := by decide +kernel
theorem dX4_alterOne_204 : decode cX4_alterOne 204 = .ok (.laload, 1) := by decide +kernel
theorem dX4_alterOne_205 : decode cX4_alterOne 205 = .ok (.lload_n 3, 1) := by decide +kernel
theorem dX4_alterOne_206 : decode cX4_alterOne 206 = .ok (.lor, 1) := by decide +kernel
theorem dX4_alterOne_207 : decode cX4_alterOne 207 = .ok (.lastore, 1) := by decide +kernel
theorem dX4_alterOne_208 : decode cX4_alterOne 208 = .ok (.goto 3, 3) := by decide +kernel
theorem dX4_alterOne_211 : decode cX4_alterOne 211 = .ok (.return_, 1) := by decide +kernel
theorem dX4_makeClean_0 : decode cX4_makeClean 0 = .ok (.aload_n 0, 1) := by decide +kernel
theorem dX4_makeClean_1 : decode cX4_makeClean 1 = .ok (.aload_n 0, 1) := by decide +kernel
theorem dX4_makeClean_2 : decode cX4_makeClean 2 = .ok (.getfield 144, 3) := by decide +kernel
theorem dX4_makeClean_5 : decode cX4_makeClean 5 = .ok (.ifCond .ne 18, 3) := by decide +kernel
theorem dX4_makeClean_8 : decode cX4_makeClean 8 = .ok (.aload_n 0, 1) := by decide +kernel
theorem dX4_makeClean_9 : decode cX4_makeClean 9 = .ok (.getfield 9, 3) := by decide +kernel
theorem dX4_makeClean_12 : decode cX4_makeClean 12 = .ok (.iload_n 1, 1) := by decide +kernel
theorem dX4_makeClean_13 : decode cX4_makeClean 13 = .ok (.iconst 3, 1) := by decide +kernel
theorem dX4_makeClean_14 : decode cX4_makeClean 14 = .ok (.iadd, 1) := by decide +kernel
theorem dX4_makeClean_15 : decode cX4_makeClean 15 = .ok (.laload, 1) := by decide +kernel
theorem dX4_makeClean_16 : decode cX4_makeClean 16 = .ok (.lload_n 2, 1) := by decide +kernel
theorem dX4_makeClean_17 : decode cX4_makeClean 17 = .ok (.land, 1) := by decide +kernel
theorem dX4_makeClean_18 : decode cX4_makeClean 18 = .ok (.lconst 0, 1) := by decide +kernel
theorem dX4_makeClean_19 : decode cX4_makeClean 19 = .ok (.lcmp, 1) := by decide +kernel
theorem dX4_makeClean_20 : decode cX4_makeClean 20 = .ok (.ifCond .eq 7, 3) := by decide +kernel
theorem dX4_makeClean_23 : decode cX4_makeClean 23 = .ok (.iconst 1, 1) := by decide +kernel
theorem dX4_makeClean_24 : decode cX4_makeClean 24 = .ok (.goto 4, 3) := by decide +kernel
theorem dX4_makeClean_27 : decode cX4_makeClean 27 = .ok (.iconst 0, 1) := by decide +kernel
theorem dX4_makeClean_28 : decode cX4_makeClean 28 = .ok (.putfield 144, 3) := by decide +kernel
theorem dX4_makeClean_31 : decode cX4_makeClean 31 = .ok (.iconst 0, 1) := by decide +kernel
theorem dX4_makeClean_32 : decode cX4_makeClean 32 = .ok (.istore 4, 2) := by decide +kernel
theorem dX4_makeClean_34 : decode cX4_makeClean 34 = .ok (.iload 4, 2) := by decide +kernel
theorem dX4_makeClean_36 : decode cX4_makeClean 36 = .ok (.iconst 4, 1) := by decide +kernel
theorem dX4_makeClean_37 : decode cX4_makeClean 37 = .ok (.if_icmp .ge 26, 3) := by decide +kernel
theorem dX4_makeClean_40 : decode cX4_makeClean 40 = .ok (.aload_n 0, 1) := by decide +kernel
theorem dX4_makeClean_41 : decode cX4_makeClean 41 = .ok (.getfield 9, 3) := by decide +kernel
theorem dX4_makeClean_44 : decode cX4_makeClean 44 = .ok (.iload_n 1, 1) := by decide +kernel
theorem dX4_makeClean_45 : decode cX4_makeClean 45 = .ok (.iload 4, 2) := by decide +kernel
theorem dX4_makeClean_47 : decode cX4_makeClean 47 = .ok (.iadd, 1) := by decide +kernel
theorem dX4_makeClean_48 : decode cX4_makeClean 48 = .ok (.dup2, 1) := by decide +kernel
theorem dX4_makeClean_49 : decode cX4_makeClean 49 = .ok (.laload, 1) := by decide +kernel
theorem dX4_makeClean_50 : decode cX4_makeClean 50 = .ok (.lload_n 2, 1) := by decide +kernel
theorem dX4_makeClean_51 : decode cX4_makeClean 51 = .ok (.ldc2_w 63, 3) := by decide +kernel
theorem dX4_makeClean_54 : decode cX4_makeClean 54 = .ok (.lxor, 1) := by decide +kernel
theorem dX4_makeClean_55 : decode cX4_makeClean 55 = .ok (.land, 1) := by decide +kernel
theorem dX4_makeClean_56 : decode cX4_makeClean 56 = .ok (.lastore, 1) := by decide +kernel
theorem dX4_makeClean_57 : decode cX4_makeClean 57 = .ok (.iinc 4 1, 3) := by decide +kernel
theorem dX4_makeClean_60 : decode cX4_makeClean 60 = .ok (.goto (-26), 3) := by decide +kernel
theorem dX4_makeClean_63 : decode cX4_makeClean 63 = .ok (.return_, 1) := by decide +kernel
theorem dX4_spring_0 : decode cX4_spring 0 = .ok (.iload_n 1, 1) := by decide +kernel
theorem dX4_spring_1 : decode cX4_spring 1 = .ok (.ifCond .lt 9, 3) := by decide +kernel
theorem dX4_spring_4 : decode cX4_spring 4 = .ok (.iload_n 1, 1) := by decide +kernel
theorem dX4_spring_5 : decode cX4_spring 5 = .ok (.bipush 12, 2) := by decide +kernel
theorem dX4_spring_7 : decode cX4_spring 7 = .ok (.if_icmp .lt 4, 3) := by decide +kernel
theorem dX4_spring_10 : decode cX4_spring 10 = .ok (.return_, 1) := by decide +kernel
theorem dX4_spring_11 : decode cX4_spring 11 = .ok (.iconst 0, 1) := by decide +kernel
theorem dX4_spring_12 : decode cX4_spring 12 = .ok (.istore 6, 2) := by decide +kernel
theorem dX4_spring_14 : decode cX4_spring 14 = .ok (.iload 6, 2) := by decide +kernel
theorem dX4_spring_16 : decode cX4_spring 16 = .ok (.iconst 4, 1) := by decide +kernel
theorem dX4_spring_17 : decode cX4_spring 17 = .ok (.if_icmp .ge 31, 3) := by decide +kernel
theorem dX4_spring_20 : decode cX4_spring 20 = .ok (.aload_n 0, 1) := by decide +kernel
theorem dX4_spring_21 : decode cX4_spring 21 = .ok (.getfield 31, 3) := by decide +kernel
theorem dX4_spring_24 : decode cX4_spring 24 = .ok (.iload 6, 2) := by decide +kernel
theorem dX4_spring_26 : decode cX4_spring 26 = .ok (.iload 6, 2) := by decide +kernel
theorem dX4_spring_28 : decode cX4_spring 28 = .ok (.iconst 1, 1) := by decide +kernel
theorem dX4_spring_29 : decode cX4_spring 29 = .ok (.iadd, 1) := by decide +kernel
theorem dX4_spring_30 : decode cX4_spring 30 = .ok (.iload_n 2, 1) := by decide +kernel
theorem dX4_spring_31 : decode cX4_spring 31 = .ok (.if_icmp .lt 9, 3) := by decide +kernel
theorem dX4_spring_34 : decode cX4_spring 34 = .ok (.ldc2_w 63, 3) := by decide +kernel
theorem dX4_spring_37 : decode cX4_spring 37 = .ok (.goto 4, 3) := by decide +kernel
theorem dX4_spring_40 : decode cX4_spring 40 = .ok (.lconst 0, 1) := by decide +kernel
theorem dX4_spring_41 : decode cX4_spring 41 = .ok (.lastore, 1) := by decide +kernel
theorem dX4_spring_42 : decode cX4_spring 42 = .ok (.iinc 6 1, 3) := by decide +kernel
theorem dX4_spring_45 : decode cX4_spring 45 = .ok (.goto (-31), 3) := by decide +kernel
theorem dX4_spring_48 : decode cX4_spring 48 = .ok (.iconst 0, 1) := by decide +kernel
theorem dX4_spring_49 : decode cX4_spring 49 = .ok (.istore 6, 2) := by decide +kernel
theorem dX4_spring_51 : decode cX4_spring 51 = .ok (.iload 6, 2) := by decide +kernel
theorem dX4_spring_53 : decode cX4_spring 53 = .ok (.iconst 5, 1) := by decide +kernel
theorem dX4_spring_54 : decode cX4_spring 54 = .ok (.if_icmp .ge 36, 3) := by decide +kernel
theorem dX4_spring_57 : decode cX4_spring 57 = .ok (.aload_n 0, 1) := by decide +kernel
theorem dX4_spring_58 : decode cX4_spring 58 = .ok (.getfield 31, 3) := by decide +kernel
theorem dX4_spring_61 : decode cX4_spring 61 = .ok (.iconst 4, 1) := by decide +kernel
theorem dX4_spring_62 : decode cX4_spring 62 = .ok (.iload 6, 2) := by decide +kernel
theorem dX4_spring_64 : decode cX4_spring 64 = .ok (.iadd, 1) := by decide +kernel
theorem dX4_spring_65 : decode cX4_spring 65 = .ok (.iload 5, 2) := by decide +kernel
theorem dX4_spring_67 : decode cX4_spring 67 = .ok (.iload 6, 2) := by decide +kernel
theorem dX4_spring_69 : decode cX4_spring 69 = .ok (.iushr, 1) := by decide +kernel
theorem dX4_spring_70 : decode cX4_spring 70 = .ok (.iconst 1, 1) := by decide +kernel
theorem dX4_spring_71 : decode cX4_spring 71 = .ok (.iand, 1) := by decide +kernel
theorem dX4_spring_72 : decode cX4_spring 72 = .ok (.iconst 1, 1) := by decide +kernel
theorem dX4_spring_73 : decode cX4_spring 73 = .ok (.if_icmp .ne 9, 3) := by decide +kernel
theorem dX4_spring_76 : decode cX4_spring 76 = .ok (.ldc2_w 63, 3) := by decide +kernel
theorem dX4_spring_79 : decode cX4_spring 79 = .ok (.goto 4, 3) := by decide +kernel
theorem dX4_spring_82 : decode cX4_spring 82 = .ok (.lconst 0, 1) := by decide +kernel
theorem dX4_spring_83 : decode cX4_spring 83 = .ok (.lastore, 1) := by decide +kernel
theorem dX4_spring_84 : decode cX4_spring 84 = .ok (.iinc 6 1, 3) := by decide +kernel
theorem dX4_spring_87 : decode cX4_spring 87 = .ok (.goto (-36), 3) := by decide +kernel
theorem dX4_spring_90 : decode cX4_spring 90 = .ok (.iload_n 1, 1) := by decide +kernel
theorem dX4_spring_91 : decode cX4_spring 91 = .ok (.bipush 13, 2) := by decide +kernel
theorem dX4_spring_93 : decode cX4_spring 93 = .ok (.imul, 1) := by decide +kernel
theorem dX4_spring_94 : decode cX4_spring 94 = .ok (.istore 6, 2) := by decide +kernel
theorem dX4_spring_96 : decode cX4_spring 96 = .ok (.aload_n 0, 1) := by decide +kernel
theorem dX4_spring_97 : decode cX4_spring 97 = .ok (.iload 6, 2) := by decide +kernel
theorem dX4_spring_99 : decode cX4_spring 99 = .ok (.aload_n 0, 1) := by decide +kernel
theorem dX4_spring_100 : decode cX4_spring 100 = .ok (.getfield 31, 3) := by decide +kernel
theorem dX4_spring_103 : decode cX4_spring 103 = .ok (.iconst 0, 1) := by decide +kernel
theorem dX4_spring_104 : decode cX4_spring 104 = .ok (.lload_n 3, 1) := by decide +kernel
theorem dX4_spring_105 : decode cX4_spring 105 = .ok (.invokevirtual 148, 3) := by decide +kernel
theorem dX4_spring_108 : decode cX4_spring 108 = .ok (.pop2, 1) := by decide +kernel
theorem dX4_spring_109 : decode cX4_spring 109 = .ok (.aload_n 0, 1) := by decide +kernel
theorem dX4_spring_110 : decode cX4_spring 110 = .ok (.getfield 9, 3) := by decide +kernel
theorem dX4_spring_113 : decode cX4_spring 113 = .ok (.iload 6, 2) := by decide +kernel
theorem dX4_spring_115 : decode cX4_spring 115 = .ok (.bipush 12, 2) := by decide +kernel
theorem dX4_spring_117 : decode cX4_spring 117 = .ok (.iadd, 1) := by decide +kernel
theorem dX4_spring_118 : decode cX4_spring 118 = .ok (.dup2, 1) := by decide +kernel
theorem dX4_spring_119 : decode cX4_spring 119 = .ok (.laload, 1) := by decide +kernel
theorem dX4_spring_120 : decode cX4_spring 120 = .ok (.lload_n 3, 1) := by decide +kernel
theorem dX4_spring_121 : decode cX4_spring 121 = .ok (.ldc2_w 63, 3) := by decide +kernel
theorem dX4_spring_124 : decode cX4_spring 124 = .ok (.lxor, 1) := by decide +kernel
theorem dX4_spring_125 : decode cX4_spring 125 = .ok (.land, 1) := by decide +kernel
theorem dX4_spring_126 : decode cX4_spring 126 = .ok (.lastore, 1) := by decide +kernel
theorem dX4_spring_127 : decode cX4_spring 127 = .ok (.aload_n 0, 1) := by decide +kernel
theorem dX4_spring_128 : decode cX4_spring 128 = .ok (.lload_n 3, 1) := by decide +kernel
theorem dX4_spring_129 : decode cX4_spring 129 = .ok (.invokevirtual 137, 3) := by decide +kernel
theorem dX4_spring_132 : decode cX4_spring 132 = .ok (.return_, 1) := by decide +kernel
theorem dX4_keepFirstDegree_0 : decode cX4_keepFirstDegree 0 = .ok (.iconst 1, 1) := by decide +kernel
theorem dX4_keepFirstDegree_1 : decode cX4_keepFirstDegree 1 = .ok (.istore_n 1, 1) := by decide +kernel
theorem dX4_keepFirstDegree_2 : decode cX4_keepFirstDegree 2 = .ok (.iload_n 1, 1) := by decide +kernel
theorem dX4_keepFirstDegree_3 : decode cX4_keepFirstDegree 3 = .ok (.iconst 4, 1) := by decide +kernel
theorem dX4_keepFirstDegree_4 : decode cX4_keepFirstDegree 4 = .ok (.if_icmp .ge 15, 3) := by decide +kernel
theorem dX4_keepFirstDegree_7 : decode cX4_keepFirstDegree 7 = .ok (.aload_n 0, 1) := by decide +kernel
theorem dX4_keepFirstDegree_8 : decode cX4_keepFirstDegree 8 = .ok (.iload_n 1, 1) := by decide +kernel
theorem dX4_keepFirstDegree_9 : decode cX4_keepFirstDegree 9 = .ok (.aload_n 0, 1) := by decide +kernel
theorem dX4_keepFirstDegree_10 : decode cX4_keepFirstDegree 10 = .ok (.iconst 0, 1) := by decide +kernel
theorem dX4_keepFirstDegree_11 : decode cX4_keepFirstDegree 11 = .ok (.laload, 1) := by decide +kernel
theorem dX4_keepFirstDegree_12 : decode cX4_keepFirstDegree 12 = .ok (.lastore, 1) := by decide +kernel
theorem dX4_keepFirstDegree_13 : decode cX4_keepFirstDegree 13 = .ok (.iinc 1 1, 3) := by decide +kernel
theorem dX4_keepFirstDegree_16 : decode cX4_keepFirstDegree 16 = .ok (.goto (-14), 3) := by decide +kernel
theorem dX4_keepFirstDegree_19 : decode cX4_keepFirstDegree 19 = .ok (.return_, 1) := by decide +kernel
theorem dX4_give_0 : decode cX4_give 0 = .ok (.iload_n 1, 1) := by decide +kernel
theorem dX4_give_1 : decode cX4_give 1 = .ok (.bipush 13, 2) := by decide +kernel
theorem dX4_give_3 : decode cX4_give 3 = .ok (.imul, 1) := by decide +kernel
theorem dX4_give_4 : decode cX4_give 4 = .ok (.istore 5, 2) := by decide +kernel
theorem dX4_give_6 : decode cX4_give 6 = .ok (.aload_n 0, 1) := by decide +kernel
theorem dX4_give_7 : decode cX4_give 7 = .ok (.getfield 38, 3) := by decide +kernel
theorem dX4_give_10 : decode cX4_give 10 = .ok (.iload_n 1, 1) := by decide +kernel
theorem dX4_give_11 : decode cX4_give 11 = .ok (.invokevirtual 108, 3) := by decide +kernel
theorem dX4_give_14 : decode cX4_give 14 = .ok (.istore 6, 2) := by decide +kernel
theorem dX4_give_16 : decode cX4_give 16 = .ok (.aload_n 0, 1) := by decide +kernel
theorem dX4_give_17 : decode cX4_give 17 = .ok (.getfield 38, 3) := by decide +kernel
theorem dX4_give_20 : decode cX4_give 20 = .ok (.aload_n 0, 1) := by decide +kernel
theorem dX4_give_21 : decode cX4_give 21 = .ok (.getfield 42, 3) := by decide +kernel
theorem dX4_give_24 : decode cX4_give 24 = .ok (.iload 6, 2) := by decide +kernel
theorem dX4_give_26 : decode cX4_give 26 = .ok (.iadd, 1) := by decide +kernel
theorem dX4_give_27 : decode cX4_give 27 = .ok (.invokevirtual 152, 3) := by decide +kernel
theorem dX4_give_30 : decode cX4_give 30 = .ok (.istore 7, 2) := by decide +kernel
theorem dX4_give_32 : decode cX4_give 32 = .ok (.iload 7, 2) := by decide +kernel
theorem dX4_give_34 : decode cX4_give 34 = .ok (.iconst 1, 1) := by decide +kernel
theorem dX4_give_35 : decode cX4_give 35 = .ok (.if_icmp .lt 9, 3) := by decide +kernel
theorem dX4_give_38 : decode cX4_give 38 = .ok (.iload 7, 2) := by decide +kernel
theorem dX4_give_40 : decode cX4_give 40 = .ok (.iconst 4, 1) := by decide +kernel
theorem dX4_give_41 : decode cX4_give 41 = .ok (.if_icmp .le 4, 3) := by decide +kernel
theorem dX4_give_44 : decode cX4_give 44 = .ok (.return_, 1) := by decide +kernel
theorem dX4_give_45 : decode cX4_give 45 = .ok (.aload_n 2, 1) := by decide +kernel
theorem dX4_give_46 : decode cX4_give 46 = .ok (.iload 7, 2) := by decide +kernel
theorem dX4_give_48 : decode cX4_give 48 = .ok (.iconst 1, 1) := by decide +kernel
theorem dX4_give_49 : decode cX4_give 49 = .ok (.isub, 1) := by decide +kernel
theorem dX4_give_50 : decode cX4_give 50 = .ok (.laload, 1) := by decide +kernel
theorem dX4_give_51 : decode cX4_give 51 = .ok (.lload_n 3, 1) := by decide +kernel
theorem dX4_give_52 : decode cX4_give 52 = .ok (.land, 1) := by decide +kernel
theorem dX4_give_53 : decode cX4_give 53 = .ok (.aload_n 0, 1) := by decide +kernel
theorem dX4_give_54 : decode cX4_give 54 = .ok (.getfield 9, 3) := by decide +kernel
theorem dX4_give_57 : decode cX4_give 57 = .ok (.iload 5, 2) := by decide +kernel
theorem dX4_give_59 : decode cX4_give 59 = .ok (.bipush 10, 2) := by decide +kernel
theorem dX4_give_61 : decode cX4_give 61 = .ok (.iadd, 1) := by decide +kernel
theorem dX4_give_62 : decode cX4_give 62 = .ok (.laload, 1) := by decide +kernel
theorem dX4_give_63 : decode cX4_give 63 = .ok (.ldc2_w 63, 3) := by decide +kernel
theorem dX4_give_66 : decode cX4_give 66 = .ok (.lxor, 1) := by decide +kernel
theorem dX4_give_67 : decode cX4_give 67 = .ok (.land, 1) := by decide +kernel
theorem dX4_give_68 : decode cX4_give 68 = .ok (.lstore 8, 2) := by decide +kernel
theorem dX4_give_70 : decode cX4_give 70 = .ok (.iload 6, 2) := by decide +kernel
theorem dX4_give_72 : decode cX4_give 72 = .ok (.invokestatic 155, 3) := by decide +kernel
theorem dX4_give_75 : decode cX4_give 75 = .ok (.ifCond .eq 18, 3) := by decide +kernel
theorem dX4_give_78 : decode cX4_give 78 = .ok (.lload 8, 2) := by decide +kernel
theorem dX4_give_80 : decode cX4_give 80 = .ok (.aload_n 0, 1) := by decide +kernel
theorem dX4_give_81 : decode cX4_give 81 = .ok (.getfield 9, 3) := by decide +kernel
theorem dX4_give_84 : decode cX4_give 84 = .ok (.iload 5, 2) := by decide +kernel
theorem dX4_give_86 : decode cX4_give 86 = .ok (.bipush 9, 2) := by decide +kernel
theorem dX4_give_88 : decode cX4_give 88 = .ok (.iadd, 1) := by decide +kernel
theorem dX4_give_89 : decode cX4_give 89 = .ok (.laload, 1) := by decide +kernel
theorem dX4_give_90 : decode cX4_give 90 = .ok (.land, 1) := by decide +kernel
theorem dX4_give_91 : decode cX4_give 91 = .ok (.lstore 8, 2) := by decide +kernel
theorem dX4_give_93 : decode cX4_give 93 = .ok (.lload 8, 2) := by decide +kernel
theorem dX4_give_95 : decode cX4_give 95 = .ok (.lconst 0, 1) := by decide +kernel
theorem dX4_give_96 : decode cX4_give 96 = .ok (.lcmp, 1) := by decide +kernel
theorem dX4_give_97 : decode cX4_give 97 = .ok (.ifCond .ne 4, 3) := by decide +kernel
theorem dX4_give_100 : decode cX4_give 100 = .ok (.return_, 1) := by decide +kernel
theorem dX4_give_101 : decode cX4_give 101 = .ok (.iload 6, 2) := by decide +kernel
theorem dX4_give_103 : decode cX4_give 103 = .ok (.iconst 2, 1) := by decide +kernel
theorem dX4_give_104 : decode cX4_give 104 = .ok (.if_icmp .ne 7, 3) := by decide +kernel
theorem dX4_give_107 : decode cX4_give 107 = .ok (.iconst 1, 1) := by decide +kernel
theorem dX4_give_108 : decode cX4_give 108 = .ok (.goto 4, 3) := by decide +kernel
theorem dX4_give_111 : decode cX4_give 111 = .ok (.iconst 0, 1) := by decide +kernel
theorem dX4_give_112 : decode cX4_give 112 = .ok (.istore 10, 2) := by decide +kernel
theorem dX4_give_114 : decode cX4_give 114 = .ok (.aload_n 2, 1) := by decide +kernel
theorem dX4_give_115 : decode cX4_give 115 = .ok (.iconst 3, 1) := by decide +kernel
theorem dX4_give_116 : decode cX4_give 116 = .ok (.ldc2_w 63, 3) := by decide +kernel
theorem dX4_give_119 : decode cX4_give 119 = .ok (.lastore, 1) := by decide +kernel
theorem dX4_give_120 : decode cX4_give 120 = .ok (.aload_n 2, 1) := by decide +kernel
theorem dX4_give_121 : decode cX4_give 121 = .ok (.iconst 2, 1) := by decide +kernel
theorem dX4_give_122 : decode cX4_give 122 = .ok (.iload 10, 2) := by decide +kernel
theorem dX4_give_124 : decode cX4_give 124 = .ok (.ifCond .eq 9, 3) := by decide +kernel
theorem dX4_give_127 : decode cX4_give 127 = .ok (.ldc2_w 63, 3) := by decide +kernel
theorem dX4_give_130 : decode cX4_give 130 = .ok (.goto 6, 3) := by decide +kernel
theorem dX4_give_133 : decode cX4_give 133 = .ok (.aload_n 2, 1) := by decide +kernel
theorem dX4_give_134 : decode cX4_give 134 = .ok (.iconst 1, 1) := by decide +kernel
theorem dX4_give_135 : decode cX4_give 135 = .ok (.laload, 1) := by decide +kernel
theorem dX4_give_136 : decode cX4_give 136 = .ok (.lastore, 1) := by decide +kernel
theorem dX4_give_137 : decode cX4_give 137 = .ok (.aload_n 2, 1) := by decide +kernel
theorem dX4_give_138 : decode cX4_give 138 = .ok (.iconst 1, 1) := by decide +kernel
theorem dX4_give_139 : decode cX4_give 139 = .ok (.iload 10, 2) := by decide +kernel
theorem dX4_give_141 : decode cX4_give 141 = .ok (.ifCond .eq 9, 3) := by decide +kernel
theorem dX4_give_144 : decode cX4_give 144 = .ok (.ldc2_w 63, 3) := by decide +kernel
theorem dX4_give_147 : decode cX4_give 147 = .ok (.goto 6, 3) := by decide +kernel
theorem dX4_give_150 : decode cX4_give 150 = .ok (.aload_n 2, 1) := by decide +kernel
theorem dX4_give_151 : decode cX4_give 151 = .ok (.iconst 0, 1) := by decide +kernel
theorem dX4_give_152 : decode cX4_give 152 = .ok (.laload, 1) := by decide +kernel
theorem dX4_give_153 : decode cX4_give 153 = .ok (.lastore, 1) := by decide +kernel
theorem dX4_give_154 : decode cX4_give 154 = .ok (.aload_n 2, 1) := by decide +kernel
theorem dX4_give_155 : decode cX4_give 155 = .ok (.iconst 0, 1) := by decide +kernel
theorem dX4_give_156 : decode cX4_give 156 = .ok (.iload 10, 2) := by decide +kernel
theorem dX4_give_158 : decode cX4_give 158 = .ok (.ifCond .eq 9, 3) := by decide +kernel
theorem dX4_give_161 : decode cX4_give 161 = .ok (.ldc2_w 63, 3) := by decide +kernel
theorem dX4_give_164 : decode cX4_give 164 = .ok (.goto 4, 3) := by decide +kernel
theorem dX4_give_167 : decode cX4_give 167 = .ok (.lconst 0, 1) := by decide +kernel
theorem dX4_give_168 : decode cX4_give 168 = .ok (.lastore, 1) := by decide +kernel
theorem dX4_give_169 : decode cX4_give 169 = .ok (.aload_n 0, 1) := by decide +kernel
theorem dX4_give_170 : decode cX4_give 170 = .ok (.iload 5, 2) := by decide +kernel
theorem dX4_give_172 : decode cX4_give 172 = .ok (.aload_n 2, 1) := by decide +kernel
theorem dX4_give_173 : decode cX4_give 173 = .ok (.iconst 0, 1) := by decide +kernel
theorem dX4_give_174 : decode cX4_give 174 = .ok (.lload 8, 2) := by decide +kernel
theorem dX4_give_176 : decode cX4_give 176 = .ok (.invokevirtual 148, 3) := by decide +kernel
theorem dX4_give_179 : decode cX4_give 179 = .ok (.pop2, 1) := by decide +kernel
theorem dX4_give_180 : decode cX4_give 180 = .ok (.aload_n 0, 1) := by decide +kernel
theorem dX4_give_181 : decode cX4_give 181 = .ok (.getfield 9, 3) := by decide +kernel
theorem dX4_give_184 : decode cX4_give 184 = .ok (.iload 5, 2) := by decide +kernel
theorem dX4_give_186 : decode cX4_give 186 = .ok (.bipush 12, 2) := by decide +kernel
theorem dX4_give_188 : decode cX4_give 188 = .ok (.iadd, 1) := by decide +kernel
theorem dX4_give_189 : decode cX4_give 189 = .ok (.dup2, 1) := by decide +kernel
theorem dX4_give_190 : decode cX4_give 190 = .ok (.laload, 1) := by decide +kernel
theorem dX4_give_191 : decode cX4_give 191 = .ok (.lload 8, 2) := by decide +kernel
theorem dX4_give_193 : decode cX4_give 193 = .ok (.ldc2_w 63, 3) := by decide +kernel
theorem dX4_give_196 : decode cX4_give 196 = .ok (.lxor, 1) := by decide +kernel
theorem dX4_give_197 : decode cX4_give 197 = .ok (.land, 1) := by decide +kernel
theorem dX4_give_198 : decode cX4_give 198 = .ok (.lastore, 1) := by decide +kernel
theorem dX4_give_199 : decode cX4_give 199 = .ok (.return_, 1) := by decide +kernel
theorem dX4_shareAmongJoined_0 : decode cX4_shareAmongJoined 0 = .ok (.iconst 1, 1) := by decide +kernel
theorem dX4_shareAmongJoined_1 : decode cX4_shareAmongJoined 1 = .ok (.istore_n 3, 1) := by decide +kernel
theorem dX4_shareAmongJoined_2 : decode cX4_shareAmongJoined 2 = .ok (.iload_n 3, 1) := by decide +kernel
theorem dX4_shareAmongJoined_3 : decode cX4_shareAmongJoined 3 = .ok (.aload_n 0, 1) := by decide +kernel
theorem dX4_shareAmongJoined_4 : decode cX4_shareAmongJoined 4 = .ok (.getfield 38, 3) := by decide +kernel
theorem dX4_shareAmongJoined_7 : decode cX4_shareAmongJoined 7 = .ok (.getfield 105, 3) := by decide +kernel
theorem dX4_shareAmongJoined_10 : decode cX4_shareAmongJoined 10 = .ok (.if_icmp .ge 165, 3) := by decide +kernel
theorem dX4_shareAmongJoined_13 : decode cX4_shareAmongJoined 13 = .ok (.iload_n 3, 1) := by decide +kernel
theorem dX4_shareAmongJoined_14 : decode cX4_shareAmongJoined 14 = .ok (.bipush 12, 2) := by decide +kernel
theorem dX4_shareAmongJoined_16 : decode cX4_shareAmongJoined 16 = .ok (.if_icmp .ge 159, 3) := by decide +kernel
theorem dX4_shareAmongJoined_19 : decode cX4_shareAmongJoined 19 = .ok (.aload_n 0, 1) := by decide +kernel
theorem dX4_shareAmongJoined_20 : decode cX4_shareAmongJoined 20 = .ok (.getfield 38, 3) := by decide +kernel
theorem dX4_shareAmongJoined_23 : decode cX4_shareAmongJoined 23 = .ok (.iload_n 3, 1) := by decide +kernel
theorem dX4_shareAmongJoined_24 : decode cX4_shareAmongJoined 24 = .ok (.invokevirtual 108, 3) := by decide +kernel
theorem dX4_shareAmongJoined_27 : decode cX4_shareAmongJoined 27 = .ok (.iconst 5, 1) := by decide +kernel
theorem dX4_shareAmongJoined_28 : decode cX4_shareAmongJoined 28 = .ok (.if_icmp .ne 141, 3) := by decide +kernel
theorem dX4_shareAmongJoined_31 : decode cX4_shareAmongJoined 31 = .ok (.iload_n 3, 1) := by decide +kernel
theorem dX4_shareAmongJoined_32 : decode cX4_shareAmongJoined 32 = .ok (.bipush 13, 2) := by decide +kernel
theorem dX4_shareAmongJoined_34 : decode cX4_shareAmongJoined 34 = .ok (.imul, 1) := by decide +kernel
theorem dX4_shareAmongJoined_35 : decode cX4_shareAmongJoined 35 = .ok (.istore 4, 2) := by decide +kernel
theorem dX4_shareAmongJoined_37 : decode cX4_shareAmongJoined 37 = .ok (.iload 4, 2) := by decide +kernel
theorem dX4_shareAmongJoined_39 : decode cX4_shareAmongJoined 39 = .ok (.bipush 13, 2) := by decide +kernel
theorem dX4_shareAmongJoined_41 : decode cX4_shareAmongJoined 41 = .ok (.isub, 1) := by decide +kernel
theorem dX4_shareAmongJoined_42 : decode cX4_shareAmongJoined 42 = .ok (.istore 5, 2) := by decide +kernel
theorem dX4_shareAmongJoined_44 : decode cX4_shareAmongJoined 44 = .ok (.lload_n 1, 1) := by decide +kernel
theorem dX4_shareAmongJoined_45 : decode cX4_shareAmongJoined 45 = .ok (.aload_n 0, 1) := by decide +kernel
theorem dX4_shareAmongJoined_46 : decode cX4_shareAmongJoined 46 = .ok (.getfield 9, 3) := by decide +kernel
theorem dX4_shareAmongJoined_49 : decode cX4_shareAmongJoined 49 = .ok (.iload 4, 2) := by decide +kernel
theorem dX4_shareAmongJoined_51 : decode cX4_shareAmongJoined 51 = .ok (.bipush 11, 2) := by decide +kernel
theorem dX4_shareAmongJoined_53 : decode cX4_shareAmongJoined 53 = .ok (.iadd, 1) := by decide +kernel
theorem dX4_shareAmongJoined_54 : decode cX4_shareAmongJoined 54 = .ok (.laload, 1) := by decide +kernel
theorem dX4_shareAmongJoined_55 : decode cX4_shareAmongJoined 55 = .ok (.ldc2_w 63, 3) := by decide +kernel
theorem dX4_shareAmongJoined_58 : decode cX4_shareAmongJoined 58 = .ok (.lxor, 1) := by decide +kernel
theorem dX4_shareAmongJoined_59 : decode cX4_shareAmongJoined 59 = .ok (.land, 1) := by decide +kernel
theorem dX4_shareAmongJoined_60 : decode cX4_shareAmongJoined 60 = .ok (.aload_n 0, 1) := by decide +kernel
theorem dX4_shareAmongJoined_61 : decode cX4_shareAmongJoined 61 = .ok (.getfield 9, 3) := by decide +kernel
theorem dX4_shareAmongJoined_64 : decode cX4_shareAmongJoined 64 = .ok (.iload 4, 2) := by decide +kernel
theorem dX4_shareAmongJoined_66 : decode cX4_shareAmongJoined 66 = .ok (.bipush 10, 2) := by decide +kernel
theorem dX4_shareAmongJoined_68 : decode cX4_shareAmongJoined 68 = .ok (.iadd, 1) := by decide +kernel
theorem dX4_shareAmongJoined_69 : decode cX4_shareAmongJoined 69 = .ok (.laload, 1) := by decide +kernel
theorem dX4_shareAmongJoined_70 : decode cX4_shareAmongJoined 70 = .ok (.ldc2_w 63, 3) := by decide +kernel
theorem dX4_shareAmongJoined_73 : decode cX4_shareAmongJoined 73 = .ok (.lxor, 1) := by decide +kernel
theorem dX4_shareAmongJoined_74 : decode cX4_shareAmongJoined 74 = .ok (.land, 1) := by decide +kernel
theorem dX4_shareAmongJoined_75 : decode cX4_shareAmongJoined 75 = .ok (.aload_n 0, 1) := by decide +kernel
theorem dX4_shareAmongJoined_76 : decode cX4_shareAmongJoined 76 = .ok (.getfield 9, 3) := by decide +kernel
theorem dX4_shareAmongJoined_79 : decode cX4_shareAmongJoined 79 = .ok (.iload 5, 2) := by decide +kernel
theorem dX4_shareAmongJoined_81 : decode cX4_shareAmongJoined 81 = .ok (.bipush 10, 2) := by decide +kernel
theorem dX4_shareAmongJoined_83 : decode cX4_shareAmongJoined 83 = .ok (.iadd, 1) := by decide +kernel
theorem dX4_shareAmongJoined_84 : decode cX4_shareAmongJoined 84 = .ok (.laload, 1) := by decide +kernel
theorem dX4_shareAmongJoined_85 : decode cX4_shareAmongJoined 85 = .ok (.ldc2_w 63, 3) := by decide +kernel
theorem dX4_shareAmongJoined_88 : decode cX4_shareAmongJoined 88 = .ok (.lxor, 1) := by decide +kernel
theorem dX4_shareAmongJoined_89 : decode cX4_shareAmongJoined 89 = .ok (.land, 1) := by decide +kernel
theorem dX4_shareAmongJoined_90 : decode cX4_shareAmongJoined 90 = .ok (.lstore 6, 2) := by decide +kernel
theorem dX4_shareAmongJoined_92 : decode cX4_shareAmongJoined 92 = .ok (.lload 6, 2) := by decide +kernel
theorem dX4_shareAmongJoined_94 : decode cX4_shareAmongJoined 94 = .ok (.aload_n 0, 1) := by decide +kernel
theorem dX4_shareAmongJoined_95 : decode cX4_shareAmongJoined 95 = .ok (.getfield 9, 3) := by decide +kernel
theorem dX4_shareAmongJoined_98 : decode cX4_shareAmongJoined 98 = .ok (.iload 4, 2) := by decide +kernel
theorem dX4_shareAmongJoined_100 : decode cX4_shareAmongJoined 100 = .ok (.iconst 3, 1) := by decide +kernel
theorem dX4_shareAmongJoined_101 : decode cX4_shareAmongJoined 101 = .ok (.iadd, 1) := by decide +kernel
theorem dX4_shareAmongJoined_102 : decode cX4_shareAmongJoined 102 = .ok (.laload, 1) := by decide +kernel
theorem dX4_shareAmongJoined_103 : decode cX4_shareAmongJoined 103 = .ok (.aload_n 0, 1) := by decide +kernel
theorem dX4_shareAmongJoined_104 : decode cX4_shareAmongJoined 104 = .ok (.getfield 9, 3) := by decide +kernel
theorem dX4_shareAmongJoined_107 : decode cX4_shareAmongJoined 107 = .ok (.iload 5, 2) := by decide +kernel
theorem dX4_shareAmongJoined_109 : decode cX4_shareAmongJoined 109 = .ok (.iconst 3, 1) := by decide +kernel
theorem dX4_shareAmongJoined_110 : decode cX4_shareAmongJoined 110 = .ok (.iadd, 1) := by decide +kernel
theorem dX4_shareAmongJoined_111 : decode cX4_shareAmongJoined 111 = .ok (.laload, 1) := by decide +kernel
theorem dX4_shareAmongJoined_112 : decode cX4_shareAmongJoined 112 = .ok (.lor, 1) := by decide +kernel
theorem dX4_shareAmongJoined_113 : decode cX4_shareAmongJoined 113 = .ok (.land, 1) := by decide +kernel
theorem dX4_shareAmongJoined_114 : decode cX4_shareAmongJoined 114 = .ok (.lstore 6, 2) := by decide +kernel
theorem dX4_shareAmongJoined_116 : decode cX4_shareAmongJoined 116 = .ok (.lload 6, 2) := by decide +kernel
theorem dX4_shareAmongJoined_118 : decode cX4_shareAmongJoined 118 = .ok (.lconst 0, 1) := by decide +kernel
theorem dX4_shareAmongJoined_119 : decode cX4_shareAmongJoined 119 = .ok (.lcmp, 1) := by decide +kernel
theorem dX4_shareAmongJoined_120 : decode cX4_shareAmongJoined 120 = .ok (.ifCond .eq 49, 3) := by decide +kernel
theorem dX4_shareAmongJoined_123 : decode cX4_shareAmongJoined 123 = .ok (.aload_n 0, 1) := by decide +kernel
theorem dX4_shareAmongJoined_124 : decode cX4_shareAmongJoined 124 = .ok (.iload 4, 2) := by decide +kernel
theorem dX4_shareAmongJoined_126 : decode cX4_shareAmongJoined 126 = .ok (.aload_n 0, 1) := by decide +kernel
theorem dX4_shareAmongJoined_127 : decode cX4_shareAmongJoined 127 = .ok (.getfield 9, 3) := by decide +kernel
theorem dX4_shareAmongJoined_130 : decode cX4_shareAmongJoined 130 = .ok (.iload 5, 2) := by decide +kernel
theorem dX4_shareAmongJoined_132 : decode cX4_shareAmongJoined 132 = .ok (.lload 6, 2) := by decide +kernel
theorem dX4_shareAmongJoined_134 : decode cX4_shareAmongJoined 134 = .ok (.invokevirtual 148, 3) := by decide +kernel
theorem dX4_shareAmongJoined_137 : decode cX4_shareAmongJoined 137 = .ok (.pop2, 1) := by decide +kernel
theorem dX4_shareAmongJoined_138 : decode cX4_shareAmongJoined 138 = .ok (.aload_n 0, 1) := by decide +kernel
theorem dX4_shareAmongJoined_139 : decode cX4_shareAmongJoined 139 = .ok (.getfield 9, 3) := by decide +kernel
theorem dX4_shareAmongJoined_142 : decode cX4_shareAmongJoined 142 = .ok (.iload 5, 2) := by decide +kernel
theorem dX4_shareAmongJoined_144 : decode cX4_shareAmongJoined 144 = .ok (.bipush 12, 2) := by decide +kernel
theorem dX4_shareAmongJoined_146 : decode cX4_shareAmongJoined 146 = .ok (.iadd, 1) := by decide +kernel
theorem dX4_shareAmongJoined_147 : decode cX4_shareAmongJoined 147 = .ok (.dup2, 1) := by decide +kernel
theorem dX4_shareAmongJoined_148 : decode cX4_shareAmongJoined 148 = .ok (.laload, 1) := by decide +kernel
theorem dX4_shareAmongJoined_149 : decode cX4_shareAmongJoined 149 = .ok (.aload_n 0, 1) := by decide +kernel
theorem dX4_shareAmongJoined_150 : decode cX4_shareAmongJoined 150 = .ok (.iload 5, 2) := by decide +kernel
theorem dX4_shareAmongJoined_152 : decode cX4_shareAmongJoined 152 = .ok (.aload_n 0, 1) := by decide +kernel
theorem dX4_shareAmongJoined_153 : decode cX4_shareAmongJoined 153 = .ok (.getfield 9, 3) := by decide +kernel
theorem dX4_shareAmongJoined_156 : decode cX4_shareAmongJoined 156 = .ok (.iload 4, 2) := by decide +kernel
theorem dX4_shareAmongJoined_158 : decode cX4_shareAmongJoined 158 = .ok (.lload 6, 2) := by decide +kernel
theorem dX4_shareAmongJoined_160 : decode cX4_shareAmongJoined 160 = .ok (.invokevirtual 148, 3) := by decide +kernel
theorem dX4_shareAmongJoined_163 : decode cX4_shareAmongJoined 163 = .ok (.ldc2_w 63, 3) := by decide +kernel
theorem dX4_shareAmongJoined_166 : decode cX4_shareAmongJoined 166 = .ok (.lxor, 1) := by decide +kernel
theorem dX4_shareAmongJoined_167 : decode cX4_shareAmongJoined 167 = .ok (.land, 1) := by decide +kernel
theorem dX4_shareAmongJoined_168 : decode cX4_shareAmongJoined 168 = .ok (.lastore, 1) := by decide +kernel
theorem dX4_shareAmongJoined_169 : decode cX4_shareAmongJoined 169 = .ok (.iinc 3 1, 3) := by decide +kernel
theorem dX4_shareAmongJoined_172 : decode cX4_shareAmongJoined 172 = .ok (.goto (-170), 3) := by decide +kernel
theorem dX4_shareAmongJoined_175 : decode cX4_shareAmongJoined 175 = .ok (.return_, 1) := by decide +kernel
theorem dX4_lessen_0 : decode cX4_lessen 0 = .ok (.lconst 0, 1) := by decide +kernel
theorem dX4_lessen_1 : decode cX4_lessen 1 = .ok (.lstore 6, 2) := by decide +kernel
theorem dX4_lessen_3 : decode cX4_lessen 3 = .ok (.iconst 0, 1) := by decide +kernel
theorem dX4_lessen_4 : decode cX4_lessen 4 = .ok (.istore 8, 2) := by decide +kernel
theorem dX4_lessen_6 : decode cX4_lessen 6 = .ok (.iload 8, 2) := by decide +kernel
theorem dX4_lessen_8 : decode cX4_lessen 8 = .ok (.iconst 4, 1) := by decide +kernel
theorem dX4_lessen_9 : decode cX4_lessen 9 = .ok (.if_icmp .ge 55, 3) := by decide +kernel
theorem dX4_lessen_12 : decode cX4_lessen 12 = .ok (.aload_n 2, 1) := by decide +kernel
theorem dX4_lessen_13 : decode cX4_lessen 13 = .ok (.iload_n 3, 1) := by decide +kernel
theorem dX4_lessen_14 : decode cX4_lessen 14 = .ok (.iload 8, 2) := by decide +kernel
theorem dX4_lessen_16 : decode cX4_lessen 16 = .ok (.iadd, 1) := by decide +kernel
theorem dX4_lessen_17 : decode cX4_lessen 17 = .ok (.laload, 1) := by decide +kernel
theorem dX4_lessen_18 : decode cX4_lessen 18 = .ok (.lload 4, 2) := by decide +kernel
theorem dX4_lessen_20 : decode cX4_lessen 20 = .ok (.land, 1) := by decide +kernel
theorem dX4_lessen_21 : decode cX4_lessen 21 = .ok (.aload_n 0, 1) := by decide +kernel
theorem dX4_lessen_22 : decode cX4_lessen 22 = .ok (.getfield 9, 3) := by decide +kernel
theorem dX4_lessen_25 : decode cX4_lessen 25 = .ok (.iload_n 1, 1) := by decide +kernel
theorem dX4_lessen_26 : decode cX4_lessen 26 = .ok (.iload 8, 2) := by decide +kernel
theorem dX4_lessen_28 : decode cX4_lessen 28 = .ok (.iadd, 1) := by decide +kernel
theorem dX4_lessen_29 : decode cX4_lessen 29 = .ok (.laload, 1) := by decide +kernel
theorem dX4_lessen_30 : decode cX4_lessen 30 = .ok (.ldc2_w 63, 3) := by decide +kernel
theorem dX4_lessen_33 : decode cX4_lessen 33 = .ok (.lxor, 1) := by decide +kernel
theorem dX4_lessen_34 : decode cX4_lessen 34 = .ok (.land, 1) := by decide +kernel
theorem dX4_lessen_35 : decode cX4_lessen 35 = .ok (.lstore 9, 2) := by decide +kernel
theorem dX4_lessen_37 : decode cX4_lessen 37 = .ok (.aload_n 0, 1) := by decide +kernel
theorem dX4_lessen_38 : decode cX4_lessen 38 = .ok (.getfield 9, 3) := by decide +kernel
theorem dX4_lessen_41 : decode cX4_lessen 41 = .ok (.iload_n 1, 1) := by decide +kernel
theorem dX4_lessen_42 : decode cX4_lessen 42 = .ok (.iload 8, 2) := by decide +kernel
theorem dX4_lessen_44 : decode cX4_lessen 44 = .ok (.iadd, 1) := by decide +kernel
theorem dX4_lessen_45 : decode cX4_lessen 45 = .ok (.dup2, 1) := by decide +kernel
theorem dX4_lessen_46 : decode cX4_lessen 46 = .ok (.laload, 1) := by decide +kernel
theorem dX4_lessen_47 : decode cX4_lessen 47 = .ok (.lload 9, 2) := by decide +kernel
theorem dX4_lessen_49 : decode cX4_lessen 49 = .ok (.lor, 1) := by decide +kernel
theorem dX4_lessen_50 : decode cX4_lessen 50 = .ok (.lastore, 1) := by decide +kernel
theorem dX4_lessen_51 : decode cX4_lessen 51 = .ok (.lload 6, 2) := by decide +kernel
theorem dX4_lessen_53 : decode cX4_lessen 53 = .ok (.lload 9, 2) := by decide +kernel
theorem dX4_lessen_55 : decode cX4_lessen 55 = .ok (.lor, 1) := by decide +kernel
theorem dX4_lessen_56 : decode cX4_lessen 56 = .ok (.lstore 6, 2) := by decide +kernel
theorem dX4_lessen_58 : decode cX4_lessen 58 = .ok (.iinc 8 1, 3) := by decide +kernel
theorem dX4_lessen_61 : decode cX4_lessen 61 = .ok (.goto (-55), 3) := by decide +kernel
theorem dX4_lessen_64 : decode cX4_lessen 64 = .ok (.lload 6, 2) := by decide +kernel
theorem dX4_lessen_66 : decode cX4_lessen 66 = .ok (.lconst 0, 1) := by decide +kernel
theorem dX4_lessen_67 : decode cX4_lessen 67 = .ok (.lcmp, 1) := by decide +kernel
theorem dX4_lessen_68 : decode cX4_lessen 68 = .ok (.ifCond .eq 59, 3) := by decide +kernel
theorem dX4_lessen_71 : decode cX4_lessen 71 = .ok (.aload_n 0, 1) := by decide +kernel
theorem dX4_lessen_72 : decode cX4_lessen 72 = .ok (.iconst 1, 1) := by decide +kernel
theorem dX4_lessen_73 : decode cX4_lessen 73 = .ok (.putfield 144, 3) := by decide +kernel
theorem dX4_lessen_76 : decode cX4_lessen 76 = .ok (.iconst 4, 1) := by decide +kernel
theorem dX4_lessen_77 : decode cX4_lessen 77 = .ok (.istore 8, 2) := by decide +kernel
theorem dX4_lessen_79 : decode cX4_lessen 79 = .ok (.iload 8, 2) := by decide +kernel
theorem dX4_lessen_81 : decode cX4_lessen 81 = .ok (.bipush 9, 2) := by decide +kernel
theorem dX4_lessen_83 : decode cX4_lessen 83 = .ok (.if_icmp .ge 44, 3) := by decide +kernel
theorem dX4_lessen_86 : decode cX4_lessen 86 = .ok (.aload_n 0, 1) := by decide +kernel
theorem dX4_lessen_87 : decode cX4_lessen 87 = .ok (.getfield 9, 3) := by decide +kernel
theorem dX4_lessen_90 : decode cX4_lessen 90 = .ok (.iload_n 1, 1) := by decide +kernel
theorem dX4_lessen_91 : decode cX4_lessen 91 = .ok (.iload 8, 2) := by decide +kernel
theorem dX4_lessen_93 : decode cX4_lessen 93 = .ok (.iadd, 1) := by decide +kernel
theorem dX4_lessen_94 : decode cX4_lessen 94 = .ok (.aload_n 0, 1) := by decide +kernel
theorem dX4_lessen_95 : decode cX4_lessen 95 = .ok (.getfield 9, 3) := by decide +kernel
theorem dX4_lessen_98 : decode cX4_lessen 98 = .ok (.iload_n 1, 1) := by decide +kernel
theorem dX4_lessen_99 : decode cX4_lessen 99 = .ok (.iload 8, 2) := by decide +kernel
theorem dX4_lessen_101 : decode cX4_lessen 101 = .ok (.iadd, 1) := by decide +kernel
theorem dX4_lessen_102 : decode cX4_lessen 102 = .ok (.laload, 1) := by decide +kernel
theorem dX4_lessen_103 : decode cX4_lessen 103 = .ok (.lload 6, 2) := by decide +kernel
theorem dX4_lessen_105 : decode cX4_lessen 105 = .ok (.ldc2_w 63, 3) := by decide +kernel
theorem dX4_lessen_108 : decode cX4_lessen 108 = .ok (.lxor, 1) := by decide +kernel
theorem dX4_lessen_109 : decode cX4_lessen 109 = .ok (.land, 1) := by decide +kernel
theorem dX4_lessen_110 : decode cX4_lessen 110 = .ok (.aload_n 2, 1) := by decide +kernel
theorem dX4_lessen_111 : decode cX4_lessen 111 = .ok (.iload_n 3, 1) := by decide +kernel
theorem dX4_lessen_112 : decode cX4_lessen 112 = .ok (.iload 8, 2) := by decide +kernel
theorem dX4_lessen_114 : decode cX4_lessen 114 = .ok (.iadd, 1) := by decide +kernel
theorem dX4_lessen_115 : decode cX4_lessen 115 = .ok (.laload, 1) := by decide +kernel
theorem dX4_lessen_116 : decode cX4_lessen 116 = .ok (.lload 6, 2) := by decide +kernel
theorem dX4_lessen_118 : decode cX4_lessen 118 = .ok (.land, 1) := by decide +kernel
theorem dX4_lessen_119 : decode cX4_lessen 119 = .ok (.lor, 1) := by decide +kernel
theorem dX4_lessen_120 : decode cX4_lessen 120 = .ok (.lastore, 1) := by decide +kernel
theorem dX4_lessen_121 : decode cX4_lessen 121 = .ok (.iinc 8 1, 3) := by decide +kernel
theorem dX4_lessen_124 : decode cX4_lessen 124 = .ok (.goto (-45), 3) := by decide +kernel
theorem dX4_lessen_127 : decode cX4_lessen 127 = .ok (.lload 6, 2) := by decide +kernel
theorem dX4_lessen_129 : decode cX4_lessen 129 = .ok (.lreturn, 1) := by decide +kernel
theorem dX5_init_0 : decode cX5_init 0 = .ok (.aload_n 0, 1) := by decide +kernel
theorem dX5_init_1 : decode cX5_init 1 = .ok (.invokespecial 3, 3) := by decide +kernel
theorem dX5_init_4 : decode cX5_init 4 = .ok (.aload_n 0, 1) := by decide +kernel
theorem dX5_init_5 : decode cX5_init 5 = .ok (.new 9, 3) := by decide +kernel
theorem dX5_init_8 : decode cX5_init 8 = .ok (.dup, 1) := by decide +kernel
theorem dX5_init_9 : decode cX5_init 9 = .ok (.invokespecial 11, 3) := by decide +kernel
theorem dX5_init_12 : decode cX5_init 12 = .ok (.putfield 12, 3) := by decide +kernel
theorem dX5_init_15 : decode cX5_init 15 = .ok (.aload_n 0, 1) := by decide +kernel
theorem dX5_init_16 : decode cX5_init 16 = .ok (.new 9, 3) := by decide +kernel
theorem dX5_init_19 : decode cX5_init 19 = .ok (.dup, 1) := by decide +kernel
theorem dX5_init_20 : decode cX5_init 20 = .ok (.invokespecial 11, 3) := by decide +kernel
theorem dX5_init_23 : decode cX5_init 23 = .ok (.putfield 16, 3) := by decide +kernel
theorem dX5_init_26 : decode cX5_init 26 = .ok (.aload_n 0, 1) := by decide +kernel
theorem dX5_init_27 : decode cX5_init 27 = .ok (.new 19, 3) := by decide +kernel
theorem dX5_init_30 : decode cX5_init 30 = .ok (.dup, 1) := by decide +kernel
theorem dX5_init_31 : decode cX5_init 31 = .ok (.aload_n 0, 1) := by decide +kernel
theorem dX5_init_32 : decode cX5_init 32 = .ok (.getfield 12, 3) := by decide +kernel
theorem dX5_init_35 : decode cX5_init 35 = .ok (.iconst 0, 1) := by decide +kernel
theorem dX5_init_36 : decode cX5_init 36 = .ok (.invokespecial 21, 3) := by decide +kernel
theorem dX5_init_39 : decode cX5_init 39 = .ok (.putfield 24, 3) := by decide +kernel
theorem dX5_init_42 : decode cX5_init 42 = .ok (.aload_n 0, 1) := by decide +kernel
theorem dX5_init_43 : decode cX5_init 43 = .ok (.new 19, 3) := by decide +kernel
theorem dX5_init_46 : decode cX5_init 46 = .ok (.dup, 1) := by decide +kernel
theorem dX5_init_47 : decode cX5_init 47 = .ok (.aload_n 0, 1) := by decide +kernel
theorem dX5_init_48 : decode cX5_init 48 = .ok (.getfield 12, 3) := by decide +kernel
theorem dX5_init_51 : decode cX5_init 51 = .ok (.bipush 6, 2) := by decide +kernel
theorem dX5_init_53 : decode cX5_init 53 = .ok (.invokespecial 21, 3) := by decide +kernel
theorem dX5_init_56 : decode cX5_init 56 = .ok (.putfield 28, 3) := by decide +kernel
theorem dX5_init_59 : decode cX5_init 59 = .ok (.aload_n 0, 1) := by decide +kernel
theorem dX5_init_60 : decode cX5_init 60 = .ok (.new 31, 3) := by decide +kernel
theorem dX5_init_63 : decode cX5_init 63 = .ok (.dup, 1) := by decide +kernel
theorem dX5_init_64 : decode cX5_init 64 = .ok (.aload_n 0, 1) := by decide +kernel
theorem dX5_init_65 : decode cX5_init 65 = .ok (.getfield 12, 3) := by decide +kernel
theorem dX5_init_68 : decode cX5_init 68 = .ok (.aload_n 0, 1) := by decide +kernel
theorem dX5_init_69 : decode cX5_init 69 = .ok (.getfield 24, 3) := by decide +kernel
theorem dX5_init_72 : decode cX5_init 72 = .ok (.invokespecial 33, 3) := by decide +kernel
theorem dX5_init_75 : decode cX5_init 75 = .ok (.putfield 36, 3) := by decide +kernel
theorem dX5_init_78 : decode cX5_init 78 = .ok (.aload_n 0, 1) := by decide +kernel
theorem dX5_init_79 : decode cX5_init 79 = .ok (.new 31, 3) := by decide +kernel
theorem dX5_init_82 : decode cX5_init 82 = .ok (.dup, 1) := by decide +kernel
theorem dX5_init_83 : decode cX5_init 83 = .ok (.aload_n 0, 1) := by decide +kernel
theorem dX5_init_84 : decode cX5_init 84 = .ok (.getfield 12, 3) := by decide +kernel
theorem dX5_init_87 : decode cX5_init 87 = .ok (.aload_n 0, 1) := by decide +kernel
theorem dX5_init_88 : decode cX5_init 88 = .ok (.getfield 28, 3) := by decide +kernel
theorem dX5_init_91 : decode cX5_init 91 = .ok (.invokespecial 33, 3) := by decide +kernel
theorem dX5_init_94 : decode cX5_init 94 = .ok (.putfield 40, 3) := by decide +kernel
theorem dX5_init_97 : decode cX5_init 97 = .ok (.aload_n 0, 1) := by decide +kernel
theorem dX5_init_98 : decode cX5_init 98 = .ok (.new 43, 3) := by decide +kernel
theorem dX5_init_101 : decode cX5_init 101 = .ok (.dup, 1) := by decide +kernel
theorem dX5_init_102 : decode cX5_init 102 = .ok (.aload_n 0, 1) := by decide +kernel
theorem dX5_init_103 : decode cX5_init 103 = .ok (.getfield 12, 3) := by decide +kernel
theorem dX5_init_106 : decode cX5_init 106 = .ok (.aload_n 0, 1) := by decide +kernel
theorem dX5_init_107 : decode cX5_init 107 = .ok (.getfield 24, 3) := by decide +kernel
theorem dX5_init_110 : decode cX5_init 110 = .ok (.invokespecial 45, 3) := by decide +kernel
theorem dX5_init_113 : decode cX5_init 113 = .ok (.putfield 46, 3) := by decide +kernel
theorem dX5_init_116 : decode cX5_init 116 = .ok (.aload_n 0, 1) := by decide +kernel
theorem dX5_init_117 : decode cX5_init 117 = .ok (.new 50, 3) := by decide +kernel
theorem dX5_init_120 : decode cX5_init 120 = .ok (.dup, 1) := by decide +kernel
theorem dX5_init_121 : decode cX5_init 121 = .ok (.aload_n 0, 1) := by decide +kernel
theorem dX5_init_122 : decode cX5_init 122 = .ok (.getfield 12, 3) := by decide +kernel
theorem dX5_init_125 : decode cX5_init 125 = .ok (.invokespecial 52, 3) := by decide +kernel
theorem dX5_init_128 : decode cX5_init 128 = .ok (.putfield 55, 3) := by decide +kernel
theorem dX5_init_131 : decode cX5_init 131 = .ok (.aload_n 0, 1) := by decide +kernel
theorem dX5_init_132 : decode cX5_init 132 = .ok (.bipush 7, 2) := by decide +kernel
theorem dX5_init_134 : decode cX5_init 134 = .ok (.newarray .int, 2) := by decide +kernel
theorem dX5_init_136 : decode cX5_init 136 = .ok (.putfield 59, 3) := by decide +kernel
theorem dX5_init_139 : decode cX5_init 139 = .ok (.aload_n 0, 1) := by decide +kernel
theorem dX5_init_140 : decode cX5_init 140 = .ok (.iconst 0, 1) := by decide +kernel
theorem dX5_init_141 : decode cX5_init 141 = .ok (.putfield 63, 3) := by decide +kernel
theorem dX5_init_144 : decode cX5_init 144 = .ok (.return_, 1) := by decide +kernel
theorem dX5_thing_0 : decode cX5_thing 0 = .ok (.iload_n 1, 1) := by decide +kernel
theorem dX5_thing_1 : decode cX5_thing 1 = .ok (.ifCond .lt 9, 3) := by decide +kernel
theorem dX5_thing_4 : decode cX5_thing 4 = .ok (.iload_n 1, 1) := by decide +kernel
theorem dX5_thing_5 : decode cX5_thing 5 = .ok (.bipush 6, 2) := by decide +kernel
theorem dX5_thing_7 : decode cX5_thing 7 = .ok (.if_icmp .lt 10, 3) := by decide +kernel
theorem dX5_thing_10 : decode cX5_thing 10 = .ok (.aload_n 0, 1) := by decide +kernel
theorem dX5_thing_11 : decode cX5_thing 11 = .ok (.bipush (-2), 2) := by decide +kernel
theorem dX5_thing_13 : decode cX5_thing 13 = .ok (.invokevirtual 67, 3) := by decide +kernel
theorem dX5_thing_16 : decode cX5_thing 16 = .ok (.ireturn, 1) := by decide +kernel
theorem dX5_thing_17 : decode cX5_thing 17 = .ok (.iload_n 1, 1) := by decide +kernel
theorem dX5_thing_18 : decode cX5_thing 18 = .ok (.iconst 5, 1) := by decide +kernel
theorem dX5_thing_19 : decode cX5_thing 19 = .ok (.if_icmp .ne 20, 3) := by decide +kernel
theorem dX5_thing_22 : decode cX5_thing 22 = .ok (.aload_n 0, 1) := by decide +kernel
theorem dX5_thing_23 : decode cX5_thing 23 = .ok (.getfield 12, 3) := by decide +kernel
theorem dX5_thing_26 : decode cX5_thing 26 = .ok (.invokevirtual 71, 3) := by decide +kernel
theorem dX5_thing_29 : decode cX5_thing 29 = .ok (.ifCond .ne 10, 3) := by decide +kernel
theorem dX5_thing_32 : decode cX5_thing 32 = .ok (.aload_n 0, 1) := by decide +kernel
theorem dX5_thing_33 : decode cX5_thing 33 = .ok (.bipush (-3), 2) := by decide +kernel
theorem dX5_thing_35 : decode cX5_thing 35 = .ok (.invokevirtual 67, 3) := by decide +kernel
theorem dX5_thing_38 : decode cX5_thing 38 = .ok (.ireturn, 1) := by decide +kernel
theorem dX5_thing_39 : decode cX5_thing 39 = .ok (.aload_n 0, 1) := by decide +kernel
theorem dX5_thing_40 : decode cX5_thing 40 = .ok (.getfield 12, 3) := by decide +kernel
theorem dX5_thing_43 : decode cX5_thing 43 = .ok (.getfield 75, 3) := by decide +kernel
theorem dX5_thing_46 : decode cX5_thing 46 = .ok (.bipush 12, 2) := by decide +kernel
theorem dX5_thing_48 : decode cX5_thing 48 = .ok (.if_icmp .lt 10, 3) := by decide +kernel
theorem dX5_thing_51 : decode cX5_thing 51 = .ok (.aload_n 0, 1) := by decide +kernel
theorem dX5_thing_52 : decode cX5_thing 52 = .ok (.bipush (-6), 2) := by decide +kernel
theorem dX5_thing_54 : decode cX5_thing 54 = .ok (.invokevirtual 67, 3) := by decide +kernel
theorem dX5_thing_57 : decode cX5_thing 57 = .ok (.ireturn, 1) := by decide +kernel
theorem dX5_thing_58 : decode cX5_thing 58 = .ok (.aload_n 0, 1) := by decide +kernel
theorem dX5_thing_59 : decode cX5_thing 59 = .ok (.getfield 12, 3) := by decide +kernel
theorem dX5_thing_62 : decode cX5_thing 62 = .ok (.iload_n 1, 1) := by decide +kernel
theorem dX5_thing_63 : decode cX5_thing 63 = .ok (.iload_n 2, 1) := by decide +kernel
theorem dX5_thing_64 : decode cX5_thing 64 = .ok (.iload_n 3, 1) := by decide +kernel
theorem dX5_thing_65 : decode cX5_thing 65 = .ok (.invokevirtual 79, 3) := by decide +kernel
theorem dX5_thing_68 : decode cX5_thing 68 = .ok (.ireturn, 1) := by decide +kernel
theorem dX5_takes_0 : decode cX5_takes 0 = .ok (.iload_n 1, 1) := by decide +kernel
theorem dX5_takes_1 : decode cX5_takes 1 = .ok (.ifCond .lt 9, 3) := by decide +kernel
theorem dX5_takes_4 : decode cX5_takes 4 = .ok (.iload_n 1, 1) := by decide +kernel
theorem dX5_takes_5 : decode cX5_takes 5 = .ok (.bipush 6, 2) := by decide +kernel
theorem dX5_takes_7 : decode cX5_takes 7 = .ok (.if_icmp .lt 10, 3) := by decide +kernel
theorem dX5_takes_10 : decode cX5_takes 10 = .ok (.aload_n 0, 1) := by decide +kernel
theorem dX5_takes_11 : decode cX5_takes 11 = .ok (.bipush (-2), 2) := by decide +kernel
theorem dX5_takes_13 : decode cX5_takes 13 = .ok (.invokevirtual 67, 3) := by decide +kernel
theorem dX5_takes_16 : decode cX5_takes 16 = .ok (.ireturn, 1) := by decide +kernel
theorem dX5_takes_17 : decode cX5_takes 17 = .ok (.iload_n 2, 1) := by decide +kernel
theorem dX5_takes_18 : decode cX5_takes 18 = .ok (.ifCond .ge 10, 3) := by decide +kernel
theorem dX5_takes_21 : decode cX5_takes 21 = .ok (.aload_n 0, 1) := by decide +kernel
theorem dX5_takes_22 : decode cX5_takes 22 = .ok (.bipush (-4), 2) := by decide +kernel
theorem dX5_takes_24 : decode cX5_takes 24 = .ok (.invokevirtual 67, 3) := by decide +kernel
theorem dX5_takes_27 : decode cX5_takes 27 = .ok (.ireturn, 1) := by decide +kernel
theorem dX5_takes_28 : decode cX5_takes 28 = .ok (.iload_n 2, 1) := by decide +kernel
theorem dX5_takes_29 : decode cX5_takes 29 = .ok (.iconst 4, 1) := by decide +kernel
theorem dX5_takes_30 : decode cX5_takes 30 = .ok (.if_icmp .le 10, 3) := by decide +kernel
theorem dX5_takes_33 : decode cX5_takes 33 = .ok (.aload_n 0, 1) := by decide +kernel
theorem dX5_takes_34 : decode cX5_takes 34 = .ok (.bipush (-6), 2) := by decide +kernel
theorem dX5_takes_36 : decode cX5_takes 36 = .ok (.invokevirtual 67, 3) := by decide +kernel
theorem dX5_takes_39 : decode cX5_takes 39 = .ok (.ireturn, 1) := by decide +kernel
theorem dX5_takes_40 : decode cX5_takes 40 = .ok (.aload_n 0, 1) := by decide +kernel
theorem dX5_takes_41 : decode cX5_takes 41 = .ok (.getfield 12, 3) := by decide +kernel
theorem dX5_takes_44 : decode cX5_takes 44 = .ok (.iload_n 3, 1) := by decide +kernel
theorem dX5_takes_45 : decode cX5_takes 45 = .ok (.ifCond .eq 10, 3) := by decide +kernel
theorem dX5_takes_48 : decode cX5_takes 48 = .ok (.bipush 6, 2) := by decide +kernel
theorem dX5_takes_50 : decode cX5_takes 50 = .ok (.iload_n 1, 1) := by decide +kernel
theorem dX5_takes_51 : decode cX5_takes 51 = .ok (.iadd, 1) := by decide +kernel
theorem dX5_takes_52 : decode cX5_takes 52 = .ok (.goto 4, 3) := by decide +kernel
theorem dX5_takes_55 : decode cX5_takes 55 = .ok (.iload_n 1, 1) := by decide +kernel
theorem dX5_takes_56 : decode cX5_takes 56 = .ok (.iload_n 2, 1) := by decide +kernel
theorem dX5_takes_57 : decode cX5_takes 57 = .ok (.invokevirtual 83, 3) := by decide +kernel
theorem dX5_takes_60 : decode cX5_takes 60 = .ok (.ireturn, 1) := by decide +kernel
theorem dX5_law_0 : decode cX5_law 0 = .ok (.iload_n 1, 1) := by decide +kernel
theorem dX5_law_1 : decode cX5_law 1 = .ok (.ifCond .lt 8, 3) := by decide +kernel
theorem dX5_law_4 : decode cX5_law 4 = .ok (.iload_n 1, 1) := by decide +kernel
theorem dX5_law_5 : decode cX5_law 5 = .ok (.iconst 3, 1) := by decide +kernel
theorem dX5_law_6 : decode cX5_law 6 = .ok (.if_icmp .lt 10, 3) := by decide +kernel
theorem dX5_law_9 : decode cX5_law 9 = .ok (.aload_n 0, 1) := by decide +kernel
theorem dX5_law_10 : decode cX5_law 10 = .ok (.bipush (-2), 2) := by decide +kernel
theorem dX5_law_12 : decode cX5_law 12 = .ok (.invokevirtual 67, 3) := by decide +kernel
theorem dX5_law_15 : decode cX5_law 15 = .ok (.ireturn, 1) := by decide +kernel
theorem dX5_law_16 : decode cX5_law 16 = .ok (.iload_n 2, 1) := by decide +kernel
theorem dX5_law_17 : decode cX5_law 17 = .ok (.ifCond .ge 10, 3) := by decide +kernel
theorem dX5_law_20 : decode cX5_law 20 = .ok (.aload_n 0, 1) := by decide +kernel
theorem dX5_law_21 : decode cX5_law 21 = .ok (.bipush (-4), 2) := by decide +kernel
theorem dX5_law_23 : decode cX5_law 23 = .ok (.invokevirtual 67, 3) := by decide +kernel
theorem dX5_law_26 : decode cX5_law 26 = .ok (.ireturn, 1) := by decide +kernel
theorem dX5_law_27 : decode cX5_law 27 = .ok (.iload_n 2, 1) := by decide +kernel
theorem dX5_law_28 : decode cX5_law 28 = .ok (.iload_n 1, 1) := by decide +kernel
theorem dX5_law_29 : decode cX5_law 29 = .ok (.ifCond .ne 7, 3) := by decide +kernel
theorem dX5_law_32 : decode cX5_law 32 = .ok (.iconst 1, 1) := by decide +kernel
theorem dX5_law_33 : decode cX5_law 33 = .ok (.goto 4, 3) := by decide +kernel
theorem dX5_law_36 : decode cX5_law 36 = .ok (.iconst 3, 1) := by decide +kernel
theorem dX5_law_37 : decode cX5_law 37 = .ok (.if_icmp .le 10, 3) := by decide +kernel
theorem dX5_law_40 : decode cX5_law 40 = .ok (.aload_n 0, 1) := by decide +kernel
theorem dX5_law_41 : decode cX5_law 41 = .ok (.bipush (-6), 2) := by decide +kernel
theorem dX5_law_43 : decode cX5_law 43 = .ok (.invokevirtual 67, 3) := by decide +kernel
theorem dX5_law_46 : decode cX5_law 46 = .ok (.ireturn, 1) := by decide +kernel
theorem dX5_law_47 : decode cX5_law 47 = .ok (.aload_n 0, 1) := by decide +kernel
theorem dX5_law_48 : decode cX5_law 48 = .ok (.getfield 12, 3) := by decide +kernel
theorem dX5_law_51 : decode cX5_law 51 = .ok (.iload_n 1, 1) := by decide +kernel
theorem dX5_law_52 : decode cX5_law 52 = .ok (.iload_n 2, 1) := by decide +kernel
theorem dX5_law_53 : decode cX5_law 53 = .ok (.invokevirtual 87, 3) := by decide +kernel
theorem dX5_law_56 : decode cX5_law 56 = .ok (.ireturn, 1) := by decide +kernel
theorem dX5_event_0 : decode cX5_event 0 = .ok (.iload_n 2, 1) := by decide +kernel
theorem dX5_event_1 : decode cX5_event 1 = .ok (.ifCond .lt 9, 3) := by decide +kernel
theorem dX5_event_4 : decode cX5_event 4 = .ok (.iload_n 2, 1) := by decide +kernel
theorem dX5_event_5 : decode cX5_event 5 = .ok (.bipush 10, 2) := by decide +kernel
theorem dX5_event_7 : decode cX5_event 7 = .ok (.if_icmp .lt 10, 3) := by decide +kernel
theorem dX5_event_10 : decode cX5_event 10 = .ok (.aload_n 0, 1) := by decide +kernel
theorem dX5_event_11 : decode cX5_event 11 = .ok (.bipush (-2), 2) := by decide +kernel
theorem dX5_event_13 : decode cX5_event 13 = .ok (.invokevirtual 67, 3) := by decide +kernel
theorem dX5_event_16 : decode cX5_event 16 = .ok (.ireturn, 1) := by decide +kernel
theorem dX5_event_17 : decode cX5_event 17 = .ok (.aload_n 0, 1) := by decide +kernel
theorem dX5_event_18 : decode cX5_event 18 = .ok (.getfield 12, 3) := by decide +kernel
theorem dX5_event_21 : decode cX5_event 21 = .ok (.iload_n 3, 1) := by decide +kernel
theorem dX5_event_22 : decode cX5_event 22 = .ok (.invokevirtual 90, 3) := by decide +kernel
theorem dX5_event_25 : decode cX5_event 25 = .ok (.ifCond .ne 9, 3) := by decide +kernel
theorem dX5_event_28 : decode cX5_event 28 = .ok (.aload_n 0, 1) := by decide +kernel
theorem dX5_event_29 : decode cX5_event 29 = .ok (.iconst (-1), 1) := by decide +kernel
theorem dX5_event_30 : decode cX5_event 30 = .ok (.invokevirtual 67, 3) := by decide +kernel
theorem dX5_event_33 : decode cX5_event 33 = .ok (.ireturn, 1) := by decide +kernel
theorem dX5_event_34 : decode cX5_event 34 = .ok (.iload_n 2, 1) := by decide +kernel
theorem dX5_event_35 : decode cX5_event 35 = .ok (.iconst 4, 1) := by decide +kernel
theorem dX5_event_36 : decode cX5_event 36 = .ok (.if_icmp .gt 27, 3) := by decide +kernel
theorem dX5_event_39 : decode cX5_event 39 = .ok (.aload_n 0, 1) := by decide +kernel
theorem dX5_event_40 : decode cX5_event 40 = .ok (.getfield 12, 3) := by decide +kernel
theorem dX5_event_43 : decode cX5_event 43 = .ok (.iload 4, 2) := by decide +kernel
theorem dX5_event_45 : decode cX5_event 45 = .ok (.invokevirtual 90, 3) := by decide +kernel
theorem dX5_event_48 : decode cX5_event 48 = .ok (.ifCond .eq 9, 3) := by decide +kernel
theorem dX5_event_51 : decode cX5_event 51 = .ok (.iload_n 3, 1) := by decide +kernel
theorem dX5_event_52 : decode cX5_event 52 = .ok (.iload 4, 2) := by decide +kernel
theorem dX5_event_54 : decode cX5_event 54 = .ok (.if_icmp .ne 9, 3) := by decide +kernel
theorem dX5_event_57 : decode cX5_event 57 = .ok (.aload_n 0, 1) := by decide +kernel
theorem dX5_event_58 : decode cX5_event 58 = .ok (.iconst (-1), 1) := by decide +kernel
theorem dX5_event_59 : decode cX5_event 59 = .ok (.invokevirtual 67, 3) := by decide +kernel
theorem dX5_event_62 : decode cX5_event 62 = .ok (.ireturn, 1) := by decide +kernel
theorem dX5_event_63 : decode cX5_event 63 = .ok (.iload_n 1, 1) := by decide +kernel
theorem dX5_event_64 : decode cX5_event 64 = .ok (.ifCond .lt 21, 3) := by decide +kernel
theorem dX5_event_67 : decode cX5_event 67 = .ok (.iload 5, 2) := by decide +kernel
theorem dX5_event_69 : decode cX5_event 69 = .ok (.iconst (-1), 1) := by decide +kernel
theorem dX5_event_70 : decode cX5_event 70 = .ok (.if_icmp .lt 15, 3) := by decide +kernel
theorem dX5_event_73 : decode cX5_event 73 = .ok (.iload_n 2, 1) := by decide +kernel
theorem dX5_event_74 : decode cX5_event 74 = .ok (.bipush 9, 2) := by decide +kernel
theorem dX5_event_76 : decode cX5_event 76 = .ok (.if_icmp .ne 16, 3) := by decide +kernel
theorem dX5_event_79 : decode cX5_event 79 = .ok (.iload 4, 2) := by decide +kernel
theorem dX5_event_81 : decode cX5_event 81 = .ok (.iconst 1, 1) := by decide +kernel
theorem dX5_event_82 : decode cX5_event 82 = .ok (.if_icmp .ge 10, 3) := by decide +kernel
theorem dX5_event_85 : decode cX5_event 85 = .ok (.aload_n 0, 1) := by decide +kernel
theorem dX5_event_86 : decode cX5_event 86 = .ok (.bipush (-4), 2) := by decide +kernel
theorem dX5_event_88 : decode cX5_event 88 = .ok (.invokevirtual 67, 3) := by decide +kernel
theorem dX5_event_91 : decode cX5_event 91 = .ok (.ireturn, 1) := by decide +kernel
theorem dX5_event_92 : decode cX5_event 92 = .ok (.iload_n 1, 1) := by decide +kernel
theorem dX5_event_93 : decode cX5_event 93 = .ok (.bipush 48, 2) := by decide +kernel
theorem dX5_event_95 : decode cX5_event 95 = .ok (.if_icmp .ge 23, 3) := by decide +kernel
theorem dX5_event_98 : decode cX5_event 98 = .ok (.iload_n 2, 1) := by decide +kernel
theorem dX5_event_99 : decode cX5_event 99 = .ok (.bipush 9, 2) := by decide +kernel
theorem dX5_event_101 : decode cX5_event 101 = .ok (.if_icmp .ne 9, 3) := by decide +kernel
theorem dX5_event_104 : decode cX5_event 104 = .ok (.iload 4, 2) := by decide +kernel
theorem dX5_event_106 : decode cX5_event 106 = .ok (.iconst 4, 1) := by decide +kernel
theorem dX5_event_107 : decode cX5_event 107 = .ok (.if_icmp .gt 11, 3) := by decide +kernel
theorem dX5_event_110 : decode cX5_event 110 = .ok (.iload 5, 2) := by decide +kernel
theorem dX5_event_112 : decode cX5_event 112 = .ok (.invokestatic 94, 3) := by decide +kernel
theorem dX5_event_115 : decode cX5_event 115 = .ok (.ifCond .eq 10, 3) := by decide +kernel
theorem dX5_event_118 : decode cX5_event 118 = .ok (.aload_n 0, 1) := by decide +kernel
theorem dX5_event_119 : decode cX5_event 119 = .ok (.bipush (-6), 2) := by decide +kernel
theorem dX5_event_121 : decode cX5_event 121 = .ok (.invokevirtual 67, 3) := by decide +kernel
theorem dX5_event_124 : decode cX5_event 124 = .ok (.ireturn, 1) := by decide +kernel
theorem dX5_event_125 : decode cX5_event 125 = .ok (.aload_n 0, 1) := by decide +kernel
theorem dX5_event_126 : decode cX5_event 126 = .ok (.getfield 12, 3) := by decide +kernel
theorem dX5_event_129 : decode cX5_event 129 = .ok (.getfield 97, 3) := by decide +kernel
theorem dX5_event_132 : decode cX5_event 132 = .ok (.bipush 60, 2) := by decide +kernel
theorem dX5_event_134 : decode cX5_event 134 = .ok (.if_icmp .lt 10, 3) := by decide +kernel
theorem dX5_event_137 : decode cX5_event 137 = .ok (.aload_n 0, 1) := by decide +kernel
theorem dX5_event_138 : decode cX5_event 138 = .ok (.bipush (-6), 2) := by decide +kernel
theorem dX5_event_140 : decode cX5_event 140 = .ok (.invokevirtual 67, 3) := by decide +kernel
theorem dX5_event_143 : decode cX5_event 143 = .ok (.ireturn, 1) := by decide +kernel
theorem dX5_event_144 : decode cX5_event 144 = .ok (.aload_n 0, 1) := by decide +kernel
theorem dX5_event_145 : decode cX5_event 145 = .ok (.getfield 12, 3) := by decide +kernel
theorem dX5_event_148 : decode cX5_event 148 = .ok (.iload_n 1, 1) := by decide +kernel
theorem dX5_event_149 : decode cX5_event 149 = .ok (.iload_n 2, 1) := by decide +kernel
theorem dX5_event_150 : decode cX5_event 150 = .ok (.iload_n 3, 1) := by decide +kernel
theorem dX5_event_151 : decode cX5_event 151 = .ok (.iload 4, 2) := by decide +kernel
theorem dX5_event_153 : decode cX5_event 153 = .ok (.iload 5, 2) := by decide +kernel
theorem dX5_event_155 : decode cX5_event 155 = .ok (.invokevirtual 100, 3) := by decide +kernel
theorem dX5_event_158 : decode cX5_event 158 = .ok (.ireturn, 1) := by decide +kernel
theorem dX5_of_0 : decode cX5_of 0 = .ok (.iload_n 1, 1) := by decide +kernel
theorem dX5_of_1 : decode cX5_of 1 = .ok (.ifCond .lt 14, 3) := by decide +kernel
theorem dX5_of_4 : decode cX5_of 4 = .ok (.iload_n 1, 1) := by decide +kernel
theorem dX5_of_5 : decode cX5_of 5 = .ok (.aload_n 0, 1) := by decide +kernel
theorem dX5_of_6 : decode cX5_of 6 = .ok (.getfield 12, 3) := by decide +kernel
theorem dX5_of_9 : decode cX5_of 9 = .ok (.getfield 97, 3) := by decide +kernel
theorem dX5_of_12 : decode cX5_of 12 = .ok (.if_icmp .lt 9, 3) := by decide +kernel
theorem dX5_of_15 : decode cX5_of 15 = .ok (.aload_n 0, 1) := by decide +kernel
theorem dX5_of_16 : decode cX5_of 16 = .ok (.iconst (-1), 1) := by decide +kernel
theorem dX5_of_17 : decode cX5_of 17 = .ok (.invokevirtual 67, 3) := by decide +kernel
theorem dX5_of_20 : decode cX5_of 20 = .ok (.ireturn, 1) := by decide +kernel
theorem dX5_of_21 : decode cX5_of 21 = .ok (.iload_n 2, 1) := by decide +kernel
theorem dX5_of_22 : decode cX5_of 22 = .ok (.ifCond .lt 8, 3) := by decide +kernel
theorem dX5_of_25 : decode cX5_of 25 = .ok (.iload_n 2, 1) := by decide +kernel
theorem dX5_of_26 : decode cX5_of 26 = .ok (.iconst 5, 1) := by decide +kernel
theorem dX5_of_27 : decode cX5_of 27 = .ok (.if_icmp .lt 10, 3) := by decide +kernel
theorem dX5_of_30 : decode cX5_of 30 = .ok (.aload_n 0, 1) := by decide +kernel
theorem dX5_of_31 : decode cX5_of 31 = .ok (.bipush (-2), 2) := by decide +kernel
theorem dX5_of_33 : decode cX5_of 33 = .ok (.invokevirtual 67, 3) := by decide +kernel
theorem dX5_of_36 : decode cX5_of 36 = .ok (.ireturn, 1) := by decide +kernel
theorem dX5_of_37 : decode cX5_of 37 = .ok (.aload_n 0, 1) := by decide +kernel
theorem dX5_of_38 : decode cX5_of 38 = .ok (.getfield 12, 3) := by decide +kernel
theorem dX5_of_41 : decode cX5_of 41 = .ok (.iload_n 1, 1) := by decide +kernel
theorem dX5_of_42 : decode cX5_of 42 = .ok (.iload_n 2, 1) := by decide +kernel
theorem dX5_of_43 : decode cX5_of 43 = .ok (.invokevirtual 104, 3) := by decide +kernel
theorem dX5_of_46 : decode cX5_of 46 = .ok (.ireturn, 1) := by decide +kernel
theorem dX5_takeBack_0 : decode cX5_takeBack 0 = .ok (.aload_n 0, 1) := by decide +kernel
theorem dX5_takeBack_1 : decode cX5_takeBack 1 = .ok (.getfield 12, 3) := by decide +kernel
theorem dX5_takeBack_4 : decode cX5_takeBack 4 = .ok (.getfield 97, 3) := by decide +kernel
theorem dX5_takeBack_7 : decode cX5_takeBack 7 = .ok (.iconst 1, 1) := by decide +kernel
theorem dX5_takeBack_8 : decode cX5_takeBack 8 = .ok (.if_icmp .ge 10, 3) := by decide +kernel
theorem dX5_takeBack_11 : decode cX5_takeBack 11 = .ok (.aload_n 0, 1) := by decide +kernel
theorem dX5_takeBack_12 : decode cX5_takeBack 12 = .ok (.bipush (-3), 2) := by decide +kernel
theorem dX5_takeBack_14 : decode cX5_takeBack 14 = .ok (.invokevirtual 67, 3) := by decide +kernel
theorem dX5_takeBack_17 : decode cX5_takeBack 17 = .ok (.ireturn, 1) := by decide +kernel
theorem dX5_takeBack_18 : decode cX5_takeBack 18 = .ok (.aload_n 0, 1) := by decide +kernel
theorem dX5_takeBack_19 : decode cX5_takeBack 19 = .ok (.getfield 12, 3) := by decide +kernel
theorem dX5_takeBack_22 : decode cX5_takeBack 22 = .ok (.invokevirtual 107, 3) := by decide +kernel
theorem dX5_takeBack_25 : decode cX5_takeBack 25 = .ok (.ireturn, 1) := by decide +kernel
theorem dX5_feed_0 : decode cX5_feed 0 = .ok (.iload_n 1, 1) := by decide +kernel
theorem dX5_feed_1 : decode cX5_feed 1 = .ok (.iconst 1, 1) := by decide +kernel
theorem dX5_feed_2 : decode cX5_feed 2 = .ok (.if_icmp .ge 10, 3) := by decide +kernel
theorem dX5_feed_5 : decode cX5_feed 5 = .ok (.aload_n 0, 1) := by decide +kernel
theorem dX5_feed_6 : decode cX5_feed 6 = .ok (.bipush (-4), 2) := by decide +kernel
theorem dX5_feed_8 : decode cX5_feed 8 = .ok (.invokevirtual 67, 3) := by decide +kernel
theorem dX5_feed_11 : decode cX5_feed 11 = .ok (.ireturn, 1) := by decide +kernel
theorem dX5_feed_12 : decode cX5_feed 12 = .ok (.iload_n 1, 1) := by decide +kernel
theorem dX5_feed_13 : decode cX5_feed 13 = .ok (.bipush 8, 2) := by decide +kernel
theorem dX5_feed_15 : decode cX5_feed 15 = .ok (.if_icmp .gt 17, 3) := by decide +kernel
theorem dX5_feed_18 : decode cX5_feed 18 = .ok (.aload_n 0, 1) := by decide +kernel
theorem dX5_feed_19 : decode cX5_feed 19 = .ok (.getfield 55, 3) := by decide +kernel
theorem dX5_feed_22 : decode cX5_feed 22 = .ok (.getfield 111, 3) := by decide +kernel
theorem dX5_feed_25 : decode cX5_feed 25 = .ok (.iload_n 1, 1) := by decide +kernel
theorem dX5_feed_26 : decode cX5_feed 26 = .ok (.iadd, 1) := by decide +kernel
theorem dX5_feed_27 : decode cX5_feed 27 = .ok (.bipush 80, 2) := by decide +kernel
theorem dX5_feed_29 : decode cX5_feed 29 = .ok (.if_icmp .le 10, 3) := by decide +kernel
theorem dX5_feed_32 : decode cX5_feed 32 = .ok (.aload_n 0, 1) := by decide +kernel
theorem dX5_feed_33 : decode cX5_feed 33 = .ok (.bipush (-6), 2) := by decide +kernel
theorem dX5_feed_35 : decode cX5_feed 35 = .ok (.invokevirtual 67, 3) := by decide +kernel
theorem dX5_feed_38 : decode cX5_feed 38 = .ok (.ireturn, 1) := by decide +kernel
theorem dX5_feed_39 : decode cX5_feed 39 = .ok (.aload_n 0, 1) := by decide +kernel
theorem dX5_feed_40 : decode cX5_feed 40 = .ok (.getfield 55, 3) := by decide +kernel
theorem dX5_feed_43 : decode cX5_feed 43 = .ok (.iload_n 1, 1) := by decide +kernel
theorem dX5_feed_44 : decode cX5_feed 44 = .ok (.lload_n 2, 1) := by decide +kernel
theorem dX5_feed_45 : decode cX5_feed 45 = .ok (.invokevirtual 114, 3) := by decide +kernel
theorem dX5_feed_48 : decode cX5_feed 48 = .ok (.ireturn, 1) := by decide +kernel
theorem dX5_house_0 : decode cX5_house 0 = .ok (.aload_n 0, 1) := by decide +kernel
theorem dX5_house_1 : decode cX5_house 1 = .ok (.getfield 55, 3) := by decide +kernel
theorem dX5_house_4 : decode cX5_house 4 = .ok (.invokevirtual 118, 3) := by decide +kernel
theorem dX5_house_7 : decode cX5_house 7 = .ok (.ireturn, 1) := by decide +kernel
theorem dX5_state_0 : decode cX5_state 0 = .ok (.aload_n 0, 1) := by decide +kernel
theorem dX5_state_1 : decode cX5_state 1 = .ok (.getfield 12, 3) := by decide +kernel
theorem dX5_state_4 : decode cX5_state 4 = .ok (.iload_n 2, 1) := by decide +kernel
theorem dX5_state_5 : decode cX5_state 5 = .ok (.invokevirtual 90, 3) := by decide +kernel
theorem dX5_state_8 : decode cX5_state 8 = .ok (.ifCond .ne 9, 3) := by decide +kernel
theorem dX5_state_11 : decode cX5_state 11 = .ok (.aload_n 0, 1) := by decide +kernel
theorem dX5_state_12 : decode cX5_state 12 = .ok (.iconst (-1), 1) := by decide +kernel
theorem dX5_state_13 : decode cX5_state 13 = .ok (.invokevirtual 67, 3) := by decide +kernel
theorem dX5_state_16 : decode cX5_state 16 = .ok (.ireturn, 1) := by decide +kernel
theorem dX5_state_17 : decode cX5_state 17 = .ok (.iload_n 1, 1) := by decide +kernel
theorem dX5_state_18 : decode cX5_state 18 = .ok (.ifCond .lt 7, 3) := by decide +kernel
theorem dX5_state_21 : decode cX5_state 21 = .ok (.iload_n 3, 1) := by decide +kernel
theorem dX5_state_22 : decode cX5_state 22 = .ok (.ifCond .ge 10, 3) := by decide +kernel
theorem dX5_state_25 : decode cX5_state 25 = .ok (.aload_n 0, 1) := by decide +kernel
theorem dX5_state_26 : decode cX5_state 26 = .ok (.bipush (-4), 2) := by decide +kernel
theorem dX5_state_28 : decode cX5_state 28 = .ok (.invokevirtual 67, 3) := by decide +kernel
theorem dX5_state_31 : decode cX5_state 31 = .ok (.ireturn, 1) := by decide +kernel
theorem dX5_state_32 : decode cX5_state 32 = .ok (.iload_n 1, 1) := by decide +kernel
theorem dX5_state_33 : decode cX5_state 33 = .ok (.bipush 64, 2) := by decide +kernel
theorem dX5_state_35 : decode cX5_state 35 = .ok (.if_icmp .ge 9, 3) := by decide +kernel
theorem dX5_state_38 : decode cX5_state 38 = .ok (.iload_n 3, 1) := by decide +kernel
theorem dX5_state_39 : decode cX5_state 39 = .ok (.bipush 48, 2) := by decide +kernel
theorem dX5_state_41 : decode cX5_state 41 = .ok (.if_icmp .lt 10, 3) := by decide +kernel
theorem dX5_state_44 : decode cX5_state 44 = .ok (.aload_n 0, 1) := by decide +kernel
theorem dX5_state_45 : decode cX5_state 45 = .ok (.bipush (-6), 2) := by decide +kernel
theorem dX5_state_47 : decode cX5_state 47 = .ok (.invokevirtual 67, 3) := by decide +kernel
theorem dX5_state_50 : decode cX5_state 50 = .ok (.ireturn, 1) := by decide +kernel
theorem dX5_state_51 : decode cX5_state 51 = .ok (.aload_n 0, 1) := by decide +kernel
theorem dX5_state_52 : decode cX5_state 52 = .ok (.getfield 24, 3) := by decide +kernel
theorem dX5_state_55 : decode cX5_state 55 = .ok (.invokevirtual 121, 3) := by decide +kernel
theorem dX5_state_58 : decode cX5_state 58 = .ok (.aload_n 0, 1) := by decide +kernel
theorem dX5_state_59 : decode cX5_state 59 = .ok (.getfield 24, 3) := by decide +kernel
theorem dX5_state_62 : decode cX5_state 62 = .ok (.iload_n 3, 1) := by decide +kernel
theorem dX5_state_63 : decode cX5_state 63 = .ok (.invokevirtual 124, 3) := by decide +kernel
theorem dX5_state_66 : decode cX5_state 66 = .ok (.aload_n 0, 1) := by decide +kernel
theorem dX5_state_67 : decode cX5_state 67 = .ok (.getfield 24, 3) := by decide +kernel
theorem dX5_state_70 : decode cX5_state 70 = .ok (.iload_n 1, 1) := by decide +kernel
theorem dX5_state_71 : decode cX5_state 71 = .ok (.iload_n 2, 1) := by decide +kernel
theorem dX5_state_72 : decode cX5_state 72 = .ok (.invokevirtual 128, 3) := by decide +kernel
theorem dX5_state_75 : decode cX5_state 75 = .ok (.ireturn, 1) := by decide +kernel
theorem dX5_when_0 : decode cX5_when 0 = .ok (.aload_n 0, 1) := by decide +kernel
theorem dX5_when_1 : decode cX5_when 1 = .ok (.getfield 12, 3) := by decide +kernel
theorem dX5_when_4 : decode cX5_when 4 = .ok (.iload_n 2, 1) := by decide +kernel
theorem dX5_when_5 : decode cX5_when 5 = .ok (.invokevirtual 90, 3) := by decide +kernel
theorem dX5_when_8 : decode cX5_when 8 = .ok (.ifCond .ne 9, 3) := by decide +kernel
theorem dX5_when_11 : decode cX5_when 11 = .ok (.aload_n 0, 1) := by decide +kernel
theorem dX5_when_12 : decode cX5_when 12 = .ok (.iconst (-1), 1) := by decide +kernel
theorem dX5_when_13 : decode cX5_when 13 = .ok (.invokevirtual 67, 3) := by decide +kernel
theorem dX5_when_16 : decode cX5_when 16 = .ok (.ireturn, 1) := by decide +kernel
theorem dX5_when_17 : decode cX5_when 17 = .ok (.iload_n 1, 1) := by decide +kernel
theorem dX5_when_18 : decode cX5_when 18 = .ok (.ifCond .ge 10, 3) := by decide +kernel
theorem dX5_when_21 : decode cX5_when 21 = .ok (.aload_n 0, 1) := by decide +kernel
theorem dX5_when_22 : decode cX5_when 22 = .ok (.bipush (-4), 2) := by decide +kernel
theorem dX5_when_24 : decode cX5_when 24 = .ok (.invokevirtual 67, 3) := by decide +kernel
theorem dX5_when_27 : decode cX5_when 27 = .ok (.ireturn, 1) := by decide +kernel
theorem dX5_when_28 : decode cX5_when 28 = .ok (.iload_n 1, 1) := by decide +kernel
theorem dX5_when_29 : decode cX5_when 29 = .ok (.bipush 64, 2) := by decide +kernel
theorem dX5_when_31 : decode cX5_when 31 = .ok (.if_icmp .lt 10, 3) := by decide +kernel
theorem dX5_when_34 : decode cX5_when 34 = .ok (.aload_n 0, 1) := by decide +kernel
theorem dX5_when_35 : decode cX5_when 35 = .ok (.bipush (-6), 2) := by decide +kernel
theorem dX5_when_37 : decode cX5_when 37 = .ok (.invokevirtual 67, 3) := by decide +kernel
theorem dX5_when_40 : decode cX5_when 40 = .ok (.ireturn, 1) := by decide +kernel
theorem dX5_when_41 : decode cX5_when 41 = .ok (.aload_n 0, 1) := by decide +kernel
theorem dX5_when_42 : decode cX5_when 42 = .ok (.getfield 24, 3) := by decide +kernel
theorem dX5_when_45 : decode cX5_when 45 = .ok (.invokevirtual 121, 3) := by decide +kernel
theorem dX5_when_48 : decode cX5_when 48 = .ok (.iconst 0, 1) := by decide +kernel
theorem dX5_when_49 : decode cX5_when 49 = .ok (.istore_n 3, 1) := by decide +kernel
theorem dX5_when_50 : decode cX5_when 50 = .ok (.iload_n 3, 1) := by decide +kernel
theorem dX5_when_51 : decode cX5_when 51 = .ok (.bipush 48, 2) := by decide +kernel
theorem dX5_when_53 : decode cX5_when 53 = .ok (.if_icmp .ge 29, 3) := by decide +kernel
theorem dX5_when_56 : decode cX5_when 56 = .ok (.aload_n 0, 1) := by decide +kernel
theorem dX5_when_57 : decode cX5_when 57 = .ok (.getfield 24, 3) := by decide +kernel
theorem dX5_when_60 : decode cX5_when 60 = .ok (.iload_n 2, 1) := by decide +kernel
theorem dX5_when_61 : decode cX5_when 61 = .ok (.iload_n 3, 1) := by decide +kernel
theorem dX5_when_62 : decode cX5_when 62 = .ok (.invokevirtual 131, 3) := by decide +kernel
theorem dX5_when_65 : decode cX5_when 65 = .ok (.iload_n 1, 1) := by decide +kernel
theorem dX5_when_66 : decode cX5_when 66 = .ok (.lushr, 1) := by decide +kernel
theorem dX5_when_67 : decode cX5_when 67 = .ok (.lconst 1, 1) := by decide +kernel
theorem dX5_when_68 : decode cX5_when 68 = .ok (.land, 1) := by decide +kernel
theorem dX5_when_69 : decode cX5_when 69 = .ok (.lconst 1, 1) := by decide +kernel
theorem dX5_when_70 : decode cX5_when 70 = .ok (.lcmp, 1) := by decide +kernel
theorem dX5_when_71 : decode cX5_when 71 = .ok (.ifCond .ne 5, 3) := by decide +kernel
theorem dX5_when_74 : decode cX5_when 74 = .ok (.iload_n 3, 1) := by decide +kernel
theorem dX5_when_75 : decode cX5_when 75 = .ok (.ireturn, 1) := by decide +kernel
theorem dX5_when_76 : decode cX5_when 76 = .ok (.iinc 3 1, 3) := by decide +kernel
theorem dX5_when_79 : decode cX5_when 79 = .ok (.goto (-29), 3) := by decide +kernel
theorem dX5_when_82 : decode cX5_when 82 = .ok (.bipush (-9), 2) := by decide +kernel
theorem dX5_when_84 : decode cX5_when 84 = .ok (.ireturn, 1) := by decide +kernel
theorem dX5_ways_0 : decode cX5_ways 0 = .ok (.iload_n 1, 1) := by decide +kernel
theorem dX5_ways_1 : decode cX5_ways 1 = .ok (.ifCond .lt 8, 3) := by decide +kernel
theorem dX5_ways_4 : decode cX5_ways 4 = .ok (.iload_n 1, 1) := by decide +kernel
theorem dX5_ways_5 : decode cX5_ways 5 = .ok (.iconst 1, 1) := by decide +kernel
theorem dX5_ways_6 : decode cX5_ways 6 = .ok (.if_icmp .le 10, 3) := by decide +kernel
theorem dX5_ways_9 : decode cX5_ways 9 = .ok (.aload_n 0, 1) := by decide +kernel
theorem dX5_ways_10 : decode cX5_ways 10 = .ok (.bipush (-2), 2) := by decide +kernel
theorem dX5_ways_12 : decode cX5_ways 12 = .ok (.invokevirtual 67, 3) := by decide +kernel
theorem dX5_ways_15 : decode cX5_ways 15 = .ok (.ireturn, 1) := by decide +kernel
theorem dX5_ways_16 : decode cX5_ways 16 = .ok (.iload_n 1, 1) := by decide +kernel
theorem dX5_ways_17 : decode cX5_ways 17 = .ok (.ifCond .ne 13, 3) := by decide +kernel
theorem dX5_ways_20 : decode cX5_ways 20 = .ok (.aload_n 0, 1) := by decide +kernel
theorem dX5_ways_21 : decode cX5_ways 21 = .ok (.getfield 12, 3) := by decide +kernel
theorem dX5_ways_24 : decode cX5_ways 24 = .ok (.invokevirtual 135, 3) := by decide +kernel
theorem dX5_ways_27 : decode cX5_ways 27 = .ok (.goto 10, 3) := by decide +kernel
theorem dX5_ways_30 : decode cX5_ways 30 = .ok (.aload_n 0, 1) := by decide +kernel
theorem dX5_ways_31 : decode cX5_ways 31 = .ok (.getfield 36, 3) := by decide +kernel
theorem dX5_ways_34 : decode cX5_ways 34 = .ok (.invokevirtual 139, 3) := by decide +kernel
theorem dX5_ways_37 : decode cX5_ways 37 = .ok (.invokestatic 142, 3) := by decide +kernel
theorem dX5_ways_40 : decode cX5_ways 40 = .ok (.ireturn, 1) := by decide +kernel
theorem dX5_fact_0 : decode cX5_fact 0 = .ok (.aload_n 0, 1) := by decide +kernel
theorem dX5_fact_1 : decode cX5_fact 1 = .ok (.getfield 12, 3) := by decide +kernel
theorem dX5_fact_4 : decode cX5_fact 4 = .ok (.iload_n 1, 1) := by decide +kernel
theorem dX5_fact_5 : decode cX5_fact 5 = .ok (.invokevirtual 90, 3) := by decide +kernel
theorem dX5_fact_8 : decode cX5_fact 8 = .ok (.ifCond .ne 9, 3) := by decide +kernel
theorem dX5_fact_11 : decode cX5_fact 11 = .ok (.aload_n 0, 1) := by decide +kernel
theorem dX5_fact_12 : decode cX5_fact 12 = .ok (.iconst (-1), 1) := by decide +kernel
theorem dX5_fact_13 : decode cX5_fact 13 = .ok (.invokevirtual 67, 3) := by decide +kernel
theorem dX5_fact_16 : decode cX5_fact 16 = .ok (.ireturn, 1) := by decide +kernel
theorem dX5_fact_17 : decode cX5_fact 17 = .ok (.iload_n 2, 1) := by decide +kernel
theorem dX5_fact_18 : decode cX5_fact 18 = .ok (.ifCond .ge 10, 3) := by decide +kernel
theorem dX5_fact_21 : decode cX5_fact 21 = .ok (.aload_n 0, 1) := by decide +kernel
theorem dX5_fact_22 : decode cX5_fact 22 = .ok (.bipush (-4), 2) := by decide +kernel
theorem dX5_fact_24 : decode cX5_fact 24 = .ok (.invokevirtual 67, 3) := by decide +kernel
theorem dX5_fact_27 : decode cX5_fact 27 = .ok (.ireturn, 1) := by decide +kernel
theorem dX5_fact_28 : decode cX5_fact 28 = .ok (.iload_n 2, 1) := by decide +kernel
theorem dX5_fact_29 : decode cX5_fact 29 = .ok (.bipush 48, 2) := by decide +kernel
theorem dX5_fact_31 : decode cX5_fact 31 = .ok (.if_icmp .ge 15, 3) := by decide +kernel
theorem dX5_fact_34 : decode cX5_fact 34 = .ok (.aload_n 0, 1) := by decide +kernel
theorem dX5_fact_35 : decode cX5_fact 35 = .ok (.getfield 12, 3) := by decide +kernel
theorem dX5_fact_38 : decode cX5_fact 38 = .ok (.getfield 148, 3) := by decide +kernel
theorem dX5_fact_41 : decode cX5_fact 41 = .ok (.bipush 12, 2) := by decide +kernel
theorem dX5_fact_43 : decode cX5_fact 43 = .ok (.if_icmp .lt 10, 3) := by decide +kernel
theorem dX5_fact_46 : decode cX5_fact 46 = .ok (.aload_n 0, 1) := by decide +kernel
theorem dX5_fact_47 : decode cX5_fact 47 = .ok (.bipush (-6), 2) := by decide +kernel
theorem dX5_fact_49 : decode cX5_fact 49 = .ok (.invokevirtual 67, 3) := by decide +kernel
theorem dX5_fact_52 : decode cX5_fact 52 = .ok (.ireturn, 1) := by decide +kernel
theorem dX5_fact_53 : decode cX5_fact 53 = .ok (.aload_n 0, 1) := by decide +kernel
theorem dX5_fact_54 : decode cX5_fact 54 = .ok (.getfield 12, 3) := by decide +kernel
theorem dX5_fact_57 : decode cX5_fact 57 = .ok (.iload_n 1, 1) := by decide +kernel
theorem dX5_fact_58 : decode cX5_fact 58 = .ok (.iload_n 2, 1) := by decide +kernel
theorem dX5_fact_59 : decode cX5_fact 59 = .ok (.iload_n 3, 1) := by decide +kernel
theorem dX5_fact_60 : decode cX5_fact 60 = .ok (.invokevirtual 151, 3) := by decide +kernel
theorem dX5_fact_63 : decode cX5_fact 63 = .ok (.ireturn, 1) := by decide +kernel
theorem dX5_forget_0 : decode cX5_forget 0 = .ok (.aload_n 0, 1) := by decide +kernel
theorem dX5_forget_1 : decode cX5_forget 1 = .ok (.getfield 12, 3) := by decide +kernel
theorem dX5_forget_4 : decode cX5_forget 4 = .ok (.getfield 148, 3) := by decide +kernel
theorem dX5_forget_7 : decode cX5_forget 7 = .ok (.istore_n 1, 1) := by decide +kernel
theorem dX5_forget_8 : decode cX5_forget 8 = .ok (.aload_n 0, 1) := by decide +kernel
theorem dX5_forget_9 : decode cX5_forget 9 = .ok (.getfield 12, 3) := by decide +kernel
theorem dX5_forget_12 : decode cX5_forget 12 = .ok (.iconst 0, 1) := by decide +kernel
theorem dX5_forget_13 : decode cX5_forget 13 = .ok (.putfield 148, 3) := by decide +kernel
theorem dX5_forget_16 : decode cX5_forget 16 = .ok (.iload_n 1, 1) := by decide +kernel
theorem dX5_forget_17 : decode cX5_forget 17 = .ok (.ireturn, 1) := by decide +kernel
theorem dX5_sure_0 : decode cX5_sure 0 = .ok (.aload_n 0, 1) := by decide +kernel
theorem dX5_sure_1 : decode cX5_sure 1 = .ok (.iload_n 1, 1) := by decide +kernel
theorem dX5_sure_2 : decode cX5_sure 2 = .ok (.iload_n 2, 1) := by decide +kernel
theorem dX5_sure_3 : decode cX5_sure 3 = .ok (.invokevirtual 155, 3) := by decide +kernel
theorem dX5_sure_6 : decode cX5_sure 6 = .ok (.istore_n 3, 1) := by decide +kernel
theorem dX5_sure_7 : decode cX5_sure 7 = .ok (.iload_n 3, 1) := by decide +kernel
theorem dX5_sure_8 : decode cX5_sure 8 = .ok (.ifCond .eq 9, 3) := by decide +kernel
theorem dX5_sure_11 : decode cX5_sure 11 = .ok (.aload_n 0, 1) := by decide +kernel
theorem dX5_sure_12 : decode cX5_sure 12 = .ok (.iload_n 3, 1) := by decide +kernel
theorem dX5_sure_13 : decode cX5_sure 13 = .ok (.invokevirtual 67, 3) := by decide +kernel
theorem dX5_sure_16 : decode cX5_sure 16 = .ok (.ireturn, 1) := by decide +kernel
theorem dX5_sure_17 : decode cX5_sure 17 = .ok (.aload_n 0, 1) := by decide +kernel
theorem dX5_sure_18 : decode cX5_sure 18 = .ok (.getfield 36, 3) := by decide +kernel
theorem dX5_sure_21 : decode cX5_sure 21 = .ok (.aload_n 0, 1) := by decide +kernel
theorem dX5_sure_22 : decode cX5_sure 22 = .ok (.getfield 36, 3) := by decide +kernel
theorem dX5_sure_25 : decode cX5_sure 25 = .ok (.invokevirtual 139, 3) := by decide +kernel
theorem dX5_sure_28 : decode cX5_sure 28 = .ok (.iload_n 1, 1) := by decide +kernel
theorem dX5_sure_29 : decode cX5_sure 29 = .ok (.iload_n 2, 1) := by decide +kernel
theorem dX5_sure_30 : decode cX5_sure 30 = .ok (.invokevirtual 158, 3) := by decide +kernel
theorem dX5_sure_33 : decode cX5_sure 33 = .ok (.ireturn, 1) := by decide +kernel
theorem dX5_many_0 : decode cX5_many 0 = .ok (.aload_n 0, 1) := by decide +kernel
theorem dX5_many_1 : decode cX5_many 1 = .ok (.iload_n 1, 1) := by decide +kernel
theorem dX5_many_2 : decode cX5_many 2 = .ok (.iload_n 2, 1) := by decide +kernel
theorem dX5_many_3 : decode cX5_many 3 = .ok (.invokevirtual 155, 3) := by decide +kernel
theorem dX5_many_6 : decode cX5_many 6 = .ok (.istore_n 3, 1) := by decide +kernel
theorem dX5_many_7 : decode cX5_many 7 = .ok (.iload_n 3, 1) := by decide +kernel
theorem dX5_many_8 : decode cX5_many 8 = .ok (.ifCond .eq 9, 3) := by decide +kernel
theorem dX5_many_11 : decode cX5_many 11 = .ok (.aload_n 0, 1) := by decide +kernel
theorem dX5_many_12 : decode cX5_many 12 = .ok (.iload_n 3, 1) := by decide +kernel
theorem dX5_many_13 : decode cX5_many 13 = .ok (.invokevirtual 67, 3) := by decide +kernel
theorem dX5_many_16 : decode cX5_many 16 = .ok (.ireturn, 1) := by decide +kernel
theorem dX5_many_17 : decode cX5_many 17 = .ok (.aload_n 0, 1) := by decide +kernel
theorem dX5_many_18 : decode cX5_many 18 = .ok (.getfield 36, 3) := by decide +kernel
theorem dX5_many_21 : decode cX5_many 21 = .ok (.aload_n 0, 1) := by decide +kernel
theorem dX5_many_22 : decode cX5_many 22 = .ok (.getfield 36, 3) := by decide +kernel
theorem dX5_many_25 : decode cX5_many 25 = .ok (.invokevirtual 139, 3) := by decide +kernel
theorem dX5_many_28 : decode cX5_many 28 = .ok (.iload_n 1, 1) := by decide +kernel
theorem dX5_many_29 : decode cX5_many 29 = .ok (.iload_n 2, 1) := by decide +kernel
theorem dX5_many_30 : decode cX5_many 30 = .ok (.invokevirtual 162, 3) := by decide +kernel
theorem dX5_many_33 : decode cX5_many 33 = .ok (.invokestatic 142, 3) := by decide +kernel
theorem dX5_many_36 : decode cX5_many 36 = .ok (.ireturn, 1) := by decide +kernel
theorem dX5_judged_0 : decode cX5_judged 0 = .ok (.aload_n 0, 1) := by decide +kernel
theorem dX5_judged_1 : decode cX5_judged 1 = .ok (.iload_n 1, 1) := by decide +kernel
theorem dX5_judged_2 : decode cX5_judged 2 = .ok (.iload_n 2, 1) := by decide +kernel
theorem dX5_judged_3 : decode cX5_judged 3 = .ok (.invokevirtual 155, 3) := by decide +kernel
theorem dX5_judged_6 : decode cX5_judged 6 = .ok (.istore_n 3, 1) := by decide +kernel
theorem dX5_judged_7 : decode cX5_judged 7 = .ok (.iload_n 3, 1) := by decide +kernel
theorem dX5_judged_8 : decode cX5_judged 8 = .ok (.ifCond .eq 9, 3) := by decide +kernel
theorem dX5_judged_11 : decode cX5_judged 11 = .ok (.aload_n 0, 1) := by decide +kernel
theorem dX5_judged_12 : decode cX5_judged 12 = .ok (.iload_n 3, 1) := by decide +kernel
theorem dX5_judged_13 : decode cX5_judged 13 = .ok (.invokevirtual 67, 3) := by decide +kernel
theorem dX5_judged_16 : decode cX5_judged 16 = .ok (.ireturn, 1) := by decide +kernel
theorem dX5_judged_17 : decode cX5_judged 17 = .ok (.aload_n 0, 1) := by decide +kernel
theorem dX5_judged_18 : decode cX5_judged 18 = .ok (.getfield 36, 3) := by decide +kernel
theorem dX5_judged_21 : decode cX5_judged 21 = .ok (.aload_n 0, 1) := by decide +kernel
theorem dX5_judged_22 : decode cX5_judged 22 = .ok (.getfield 36, 3) := by decide +kernel
theorem dX5_judged_25 : decode cX5_judged 25 = .ok (.invokevirtual 139, 3) := by decide +kernel
theorem dX5_judged_28 : decode cX5_judged 28 = .ok (.iload_n 1, 1) := by decide +kernel
theorem dX5_judged_29 : decode cX5_judged 29 = .ok (.iload_n 2, 1) := by decide +kernel
theorem dX5_judged_30 : decode cX5_judged 30 = .ok (.invokevirtual 166, 3) := by decide +kernel
theorem dX5_judged_33 : decode cX5_judged 33 = .ok (.ireturn, 1) := by decide +kernel
theorem dX5_rivals_0 : decode cX5_rivals 0 = .ok (.iload_n 1, 1) := by decide +kernel
theorem dX5_rivals_1 : decode cX5_rivals 1 = .ok (.ifCond .ge 10, 3) := by decide +kernel
theorem dX5_rivals_4 : decode cX5_rivals 4 = .ok (.aload_n 0, 1) := by decide +kernel
theorem dX5_rivals_5 : decode cX5_rivals 5 = .ok (.bipush (-4), 2) := by decide +kernel
theorem dX5_rivals_7 : decode cX5_rivals 7 = .ok (.invokevirtual 67, 3) := by decide +kernel
theorem dX5_rivals_10 : decode cX5_rivals 10 = .ok (.ireturn, 1) := by decide +kernel
theorem dX5_rivals_11 : decode cX5_rivals 11 = .ok (.iload_n 1, 1) := by decide +kernel
theorem dX5_rivals_12 : decode cX5_rivals 12 = .ok (.bipush 48, 2) := by decide +kernel
theorem dX5_rivals_14 : decode cX5_rivals 14 = .ok (.if_icmp .lt 10, 3) := by decide +kernel
theorem dX5_rivals_17 : decode cX5_rivals 17 = .ok (.aload_n 0, 1) := by decide +kernel
theorem dX5_rivals_18 : decode cX5_rivals 18 = .ok (.bipush (-6), 2) := by decide +kernel
theorem dX5_rivals_20 : decode cX5_rivals 20 = .ok (.invokevirtual 67, 3) := by decide +kernel
theorem dX5_rivals_23 : decode cX5_rivals 23 = .ok (.ireturn, 1) := by decide +kernel
theorem dX5_rivals_24 : decode cX5_rivals 24 = .ok (.aload_n 0, 1) := by decide +kernel
theorem dX5_rivals_25 : decode cX5_rivals 25 = .ok (.getfield 36, 3) := by decide +kernel
theorem dX5_rivals_28 : decode cX5_rivals 28 = .ok (.aload_n 0, 1) := by decide +kernel
theorem dX5_rivals_29 : decode cX5_rivals 29 = .ok (.getfield 36, 3) := by decide +kernel
theorem dX5_rivals_32 : decode cX5_rivals 32 = .ok (.invokevirtual 139, 3) := by decide +kernel
theorem dX5_rivals_35 : decode cX5_rivals 35 = .ok (.iload_n 1, 1) := by decide +kernel
theorem dX5_rivals_36 : decode cX5_rivals 36 = .ok (.invokevirtual 169, 3) := by decide +kernel
theorem dX5_rivals_39 : decode cX5_rivals 39 = .ok (.ireturn, 1) := by decide +kernel
theorem dX5_question_0 : decode cX5_question 0 = .ok (.iload_n 2, 1) := by decide +kernel
theorem dX5_question_1 : decode cX5_question 1 = .ok (.ifCond .lt 8, 3) := by decide +kernel
theorem dX5_question_4 : decode cX5_question 4 = .ok (.iload_n 2, 1) := by decide +kernel
theorem dX5_question_5 : decode cX5_question 5 = .ok (.iconst 1, 1) := by decide +kernel
theorem dX5_question_6 : decode cX5_question 6 = .ok (.if_icmp .le 10, 3) := by decide +kernel
theorem dX5_question_9 : decode cX5_question 9 = .ok (.aload_n 0, 1) := by decide +kernel
theorem dX5_question_10 : decode cX5_question 10 = .ok (.bipush (-2), 2) := by decide +kernel
theorem dX5_question_12 : decode cX5_question 12 = .ok (.invokevirtual 67, 3) := by decide +kernel
theorem dX5_question_15 : decode cX5_question 15 = .ok (.ireturn, 1) := by decide +kernel
theorem dX5_question_16 : decode cX5_question 16 = .ok (.iload_n 1, 1) := by decide +kernel
theorem dX5_question_17 : decode cX5_question 17 = .ok (.ifCond .ge 10, 3) := by decide +kernel
theorem dX5_question_20 : decode cX5_question 20 = .ok (.aload_n 0, 1) := by decide +kernel
theorem dX5_question_21 : decode cX5_question 21 = .ok (.bipush (-4), 2) := by decide +kernel
theorem dX5_question_23 : decode cX5_question 23 = .ok (.invokevirtual 67, 3) := by decide +kernel
theorem dX5_question_26 : decode cX5_question 26 = .ok (.ireturn, 1) := by decide +kernel
theorem dX5_question_27 : decode cX5_question 27 = .ok (.iload_n 1, 1) := by decide +kernel
theorem dX5_question_28 : decode cX5_question 28 = .ok (.bipush 48, 2) := by decide +kernel
theorem dX5_question_30 : decode cX5_question 30 = .ok (.if_icmp .lt 10, 3) := by decide +kernel
theorem dX5_question_33 : decode cX5_question 33 = .ok (.aload_n 0, 1) := by decide +kernel
theorem dX5_question_34 : decode cX5_question 34 = .ok (.bipush (-6), 2) := by decide +kernel
theorem dX5_question_36 : decode cX5_question 36 = .ok (.invokevirtual 67, 3) := by decide +kernel
theorem dX5_question_39 : decode cX5_question 39 = .ok (.ireturn, 1) := by decide +kernel
theorem dX5_question_40 : decode cX5_question 40 = .ok (.aload_n 0, 1) := by decide +kernel
theorem dX5_question_41 : decode cX5_question 41 = .ok (.getfield 36, 3) := by decide +kernel
theorem dX5_question_44 : decode cX5_question 44 = .ok (.aload_n 0, 1) := by decide +kernel
theorem dX5_question_45 : decode cX5_question 45 = .ok (.getfield 36, 3) := by decide +kernel
theorem dX5_question_48 : decode cX5_question 48 = .ok (.invokevirtual 139, 3) := by decide +kernel
theorem dX5_question_51 : decode cX5_question 51 = .ok (.iload_n 1, 1) := by decide +kernel
theorem dX5_question_52 : decode cX5_question 52 = .ok (.iload_n 2, 1) := by decide +kernel
theorem dX5_question_53 : decode cX5_question 53 = .ok (.invokevirtual 173, 3) := by decide +kernel
theorem dX5_question_56 : decode cX5_question 56 = .ok (.ireturn, 1) := by decide +kernel
theorem dX5_sources_0 : decode cX5_sources 0 = .ok (.aload_n 0, 1) := by decide +kernel
theorem dX5_sources_1 : decode cX5_sources 1 = .ok (.iload_n 1, 1) := by decide +kernel
theorem dX5_sources_2 : decode cX5_sources 2 = .ok (.iload_n 2, 1) := by decide +kernel
theorem dX5_sources_3 : decode cX5_sources 3 = .ok (.invokevirtual 155, 3) := by decide +kernel
theorem dX5_sources_6 : decode cX5_sources 6 = .ok (.istore_n 3, 1) := by decide +kernel
theorem dX5_sources_7 : decode cX5_sources 7 = .ok (.iload_n 3, 1) := by decide +kernel
theorem dX5_sources_8 : decode cX5_sources 8 = .ok (.ifCond .eq 9, 3) := by decide +kernel
theorem dX5_sources_11 : decode cX5_sources 11 = .ok (.aload_n 0, 1) := by decide +kernel
theorem dX5_sources_12 : decode cX5_sources 12 = .ok (.iload_n 3, 1) := by decide +kernel
theorem dX5_sources_13 : decode cX5_sources 13 = .ok (.invokevirtual 67, 3) := by decide +kernel
theorem dX5_sources_16 : decode cX5_sources 16 = .ok (.ireturn, 1) := by decide +kernel
theorem dX5_sources_17 : decode cX5_sources 17 = .ok (.aload_n 0, 1) := by decide +kernel
theorem dX5_sources_18 : decode cX5_sources 18 = .ok (.getfield 36, 3) := by decide +kernel
theorem dX5_sources_21 : decode cX5_sources 21 = .ok (.invokevirtual 139, 3) := by decide +kernel
theorem dX5_sources_24 : decode cX5_sources 24 = .ok (.lstore 4, 2) := by decide +kernel
theorem dX5_sources_26 : decode cX5_sources 26 = .ok (.aload_n 0, 1) := by decide +kernel
theorem dX5_sources_27 : decode cX5_sources 27 = .ok (.getfield 24, 3) := by decide +kernel
theorem dX5_sources_30 : decode cX5_sources 30 = .ok (.iload_n 2, 1) := by decide +kernel
theorem dX5_sources_31 : decode cX5_sources 31 = .ok (.invokevirtual 124, 3) := by decide +kernel
theorem dX5_sources_34 : decode cX5_sources 34 = .ok (.aload_n 0, 1) := by decide +kernel
theorem dX5_sources_35 : decode cX5_sources 35 = .ok (.getfield 24, 3) := by decide +kernel
theorem dX5_sources_38 : decode cX5_sources 38 = .ok (.iload_n 1, 1) := by decide +kernel
theorem dX5_sources_39 : decode cX5_sources 39 = .ok (.lload 4, 2) := by decide +kernel
theorem dX5_sources_41 : decode cX5_sources 41 = .ok (.invokevirtual 176, 3) := by decide +kernel
theorem dX5_sources_44 : decode cX5_sources 44 = .ok (.ireturn, 1) := by decide +kernel
theorem dX5_washing_0 : decode cX5_washing 0 = .ok (.iload_n 1, 1) := by decide +kernel
theorem dX5_washing_1 : decode cX5_washing 1 = .ok (.ifCond .lt 7, 3) := by decide +kernel
theorem dX5_washing_4 : decode cX5_washing 4 = .ok (.iload_n 2, 1) := by decide +kernel
theorem dX5_washing_5 : decode cX5_washing 5 = .ok (.ifCond .ge 10, 3) := by decide +kernel
theorem dX5_washing_8 : decode cX5_washing 8 = .ok (.aload_n 0, 1) := by decide +kernel
theorem dX5_washing_9 : decode cX5_washing 9 = .ok (.bipush (-4), 2) := by decide +kernel
theorem dX5_washing_11 : decode cX5_washing 11 = .ok (.invokevirtual 67, 3) := by decide +kernel
theorem dX5_washing_14 : decode cX5_washing 14 = .ok (.ireturn, 1) := by decide +kernel
theorem dX5_washing_15 : decode cX5_washing 15 = .ok (.aload_n 0, 1) := by decide +kernel
theorem dX5_washing_16 : decode cX5_washing 16 = .ok (.getfield 12, 3) := by decide +kernel
theorem dX5_washing_19 : decode cX5_washing 19 = .ok (.iload_n 2, 1) := by decide +kernel
theorem dX5_washing_20 : decode cX5_washing 20 = .ok (.invokevirtual 179, 3) := by decide +kernel
theorem dX5_washing_23 : decode cX5_washing 23 = .ok (.ifCond .ne 9, 3) := by decide +kernel
theorem dX5_washing_26 : decode cX5_washing 26 = .ok (.aload_n 0, 1) := by decide +kernel
theorem dX5_washing_27 : decode cX5_washing 27 = .ok (.iconst (-1), 1) := by decide +kernel
theorem dX5_washing_28 : decode cX5_washing 28 = .ok (.invokevirtual 67, 3) := by decide +kernel
theorem dX5_washing_31 : decode cX5_washing 31 = .ok (.ireturn, 1) := by decide +kernel
theorem dX5_washing_32 : decode cX5_washing 32 = .ok (.iload_n 1, 1) := by decide +kernel
theorem dX5_washing_33 : decode cX5_washing 33 = .ok (.bipush 48, 2) := by decide +kernel
theorem dX5_washing_35 : decode cX5_washing 35 = .ok (.if_icmp .lt 10, 3) := by decide +kernel
theorem dX5_washing_38 : decode cX5_washing 38 = .ok (.aload_n 0, 1) := by decide +kernel
theorem dX5_washing_39 : decode cX5_washing 39 = .ok (.bipush (-6), 2) := by decide +kernel
theorem dX5_washing_41 : decode cX5_washing 41 = .ok (.invokevirtual 67, 3) := by decide +kernel
theorem dX5_washing_44 : decode cX5_washing 44 = .ok (.ireturn, 1) := by decide +kernel
theorem dX5_washing_45 : decode cX5_washing 45 = .ok (.aload_n 0, 1) := by decide +kernel
theorem dX5_washing_46 : decode cX5_washing 46 = .ok (.getfield 46, 3) := by decide +kernel
theorem dX5_washing_49 : decode cX5_washing 49 = .ok (.iload_n 1, 1) := by decide +kernel
theorem dX5_washing_50 : decode cX5_washing 50 = .ok (.iload_n 2, 1) := by decide +kernel
theorem dX5_washing_51 : decode cX5_washing 51 = .ok (.aload_n 0, 1) := by decide +kernel
theorem dX5_washing_52 : decode cX5_washing 52 = .ok (.getfield 36, 3) := by decide +kernel
theorem dX5_washing_55 : decode cX5_washing 55 = .ok (.invokevirtual 139, 3) := by decide +kernel
theorem dX5_washing_58 : decode cX5_washing 58 = .ok (.invokevirtual 182, 3) := by decide +kernel
theorem dX5_washing_61 : decode cX5_washing 61 = .ok (.ireturn, 1) := by decide +kernel
theorem dX5_step_0 : decode cX5_step 0 = .ok (.iload_n 1, 1) := by decide +kernel
theorem dX5_step_1 : decode cX5_step 1 = .ok (.ifCond .lt 8, 3) := by decide +kernel
theorem dX5_step_4 : decode cX5_step 4 = .ok (.iload_n 1, 1) := by decide +kernel
theorem dX5_step_5 : decode cX5_step 5 = .ok (.iconst 4, 1) := by decide +kernel
theorem dX5_step_6 : decode cX5_step 6 = .ok (.if_icmp .le 10, 3) := by decide +kernel
theorem dX5_step_9 : decode cX5_step 9 = .ok (.aload_n 0, 1) := by decide +kernel
theorem dX5_step_10 : decode cX5_step 10 = .ok (.bipush (-2), 2) := by decide +kernel
theorem dX5_step_12 : decode cX5_step 12 = .ok (.invokevirtual 67, 3) := by decide +kernel
theorem dX5_step_15 : decode cX5_step 15 = .ok (.ireturn, 1) := by decide +kernel
theorem dX5_step_16 : decode cX5_step 16 = .ok (.aload_n 0, 1) := by decide +kernel
theorem dX5_step_17 : decode cX5_step 17 = .ok (.getfield 12, 3) := by decide +kernel
theorem dX5_step_20 : decode cX5_step 20 = .ok (.iload_n 2, 1) := by decide +kernel
theorem dX5_step_21 : decode cX5_step 21 = .ok (.invokevirtual 90, 3) := by decide +kernel
theorem dX5_step_24 : decode cX5_step 24 = .ok (.ifCond .eq 19, 3) := by decide +kernel
theorem dX5_step_27 : decode cX5_step 27 = .ok (.aload_n 0, 1) := by decide +kernel
theorem dX5_step_28 : decode cX5_step 28 = .ok (.getfield 12, 3) := by decide +kernel
theorem dX5_step_31 : decode cX5_step 31 = .ok (.iload_n 3, 1) := by decide +kernel
theorem dX5_step_32 : decode cX5_step 32 = .ok (.invokevirtual 90, 3) := by decide +kernel
theorem dX5_step_35 : decode cX5_step 35 = .ok (.ifCond .eq 8, 3) := by decide +kernel
theorem dX5_step_38 : decode cX5_step 38 = .ok (.iload_n 2, 1) := by decide +kernel
theorem dX5_step_39 : decode cX5_step 39 = .ok (.iload_n 3, 1) := by decide +kernel
theorem dX5_step_40 : decode cX5_step 40 = .ok (.if_icmp .ne 9, 3) := by decide +kernel
theorem dX5_step_43 : decode cX5_step 43 = .ok (.aload_n 0, 1) := by decide +kernel
theorem dX5_step_44 : decode cX5_step 44 = .ok (.iconst (-1), 1) := by decide +kernel
theorem dX5_step_45 : decode cX5_step 45 = .ok (.invokevirtual 67, 3) := by decide +kernel
theorem dX5_step_48 : decode cX5_step 48 = .ok (.ireturn, 1) := by decide +kernel
theorem dX5_step_49 : decode cX5_step 49 = .ok (.aload_n 0, 1) := by decide +kernel
theorem dX5_step_50 : decode cX5_step 50 = .ok (.getfield 12, 3) := by decide +kernel
theorem dX5_step_53 : decode cX5_step 53 = .ok (.getfield 186, 3) := by decide +kernel
theorem dX5_step_56 : decode cX5_step 56 = .ok (.iconst 5, 1) := by decide +kernel
theorem dX5_step_57 : decode cX5_step 57 = .ok (.if_icmp .lt 10, 3) := by decide +kernel
theorem dX5_step_60 : decode cX5_step 60 = .ok (.aload_n 0, 1) := by decide +kernel
theorem dX5_step_61 : decode cX5_step 61 = .ok (.bipush (-6), 2) := by decide +kernel
theorem dX5_step_63 : decode cX5_step 63 = .ok (.invokevirtual 67, 3) := by decide +kernel
theorem dX5_step_66 : decode cX5_step 66 = .ok (.ireturn, 1) := by decide +kernel
theorem dX5_step_67 : decode cX5_step 67 = .ok (.aload_n 0, 1) := by decide +kernel
theorem dX5_step_68 : decode cX5_step 68 = .ok (.getfield 12, 3) := by decide +kernel
theorem dX5_step_71 : decode cX5_step 71 = .ok (.iload_n 1, 1) := by decide +kernel
theorem dX5_step_72 : decode cX5_step 72 = .ok (.iload_n 2, 1) := by decide +kernel
theorem dX5_step_73 : decode cX5_step 73 = .ok (.iload_n 3, 1) := by decide +kernel
theorem dX5_step_74 : decode cX5_step 74 = .ok (.invokevirtual 189, 3) := by decide +kernel
theorem dX5_step_77 : decode cX5_step 77 = .ok (.ireturn, 1) := by decide +kernel
theorem dX5_clear_0 : decode cX5_clear 0 = .ok (.aload_n 0, 1) := by decide +kernel
theorem dX5_clear_1 : decode cX5_clear 1 = .ok (.getfield 12, 3) := by decide +kernel
theorem dX5_clear_4 : decode cX5_clear 4 = .ok (.getfield 186, 3) := by decide +kernel
theorem dX5_clear_7 : decode cX5_clear 7 = .ok (.istore_n 1, 1) := by decide +kernel
theorem dX5_clear_8 : decode cX5_clear 8 = .ok (.aload_n 0, 1) := by decide +kernel
theorem dX5_clear_9 : decode cX5_clear 9 = .ok (.getfield 12, 3) := by decide +kernel
theorem dX5_clear_12 : decode cX5_clear 12 = .ok (.iconst 0, 1) := by decide +kernel
theorem dX5_clear_13 : decode cX5_clear 13 = .ok (.putfield 186, 3) := by decide +kernel
theorem dX5_clear_16 : decode cX5_clear 16 = .ok (.iload_n 1, 1) := by decide +kernel
theorem dX5_clear_17 : decode cX5_clear 17 = .ok (.ireturn, 1) := by decide +kernel
theorem dX5_cooking_0 : decode cX5_cooking 0 = .ok (.iload_n 1, 1) := by decide +kernel
theorem dX5_cooking_1 : decode cX5_cooking 1 = .ok (.ifCond .ge 10, 3) := by decide +kernel
theorem dX5_cooking_4 : decode cX5_cooking 4 = .ok (.aload_n 0, 1) := by decide +kernel
theorem dX5_cooking_5 : decode cX5_cooking 5 = .ok (.bipush (-4), 2) := by decide +kernel
theorem dX5_cooking_7 : decode cX5_cooking 7 = .ok (.invokevirtual 67, 3) := by decide +kernel
theorem dX5_cooking_10 : decode cX5_cooking 10 = .ok (.ireturn, 1) := by decide +kernel
theorem dX5_cooking_11 : decode cX5_cooking 11 = .ok (.aload_n 0, 1) := by decide +kernel
theorem dX5_cooking_12 : decode cX5_cooking 12 = .ok (.getfield 12, 3) := by decide +kernel
theorem dX5_cooking_15 : decode cX5_cooking 15 = .ok (.iload_n 1, 1) := by decide +kernel
theorem dX5_cooking_16 : decode cX5_cooking 16 = .ok (.invokevirtual 179, 3) := by decide +kernel
theorem dX5_cooking_19 : decode cX5_cooking 19 = .ok (.ifCond .ne 9, 3) := by decide +kernel
theorem dX5_cooking_22 : decode cX5_cooking 22 = .ok (.aload_n 0, 1) := by decide +kernel
theorem dX5_cooking_23 : decode cX5_cooking 23 = .ok (.iconst (-1), 1) := by decide +kernel
theorem dX5_cooking_24 : decode cX5_cooking 24 = .ok (.invokevirtual 67, 3) := by decide +kernel
theorem dX5_cooking_27 : decode cX5_cooking 27 = .ok (.ireturn, 1) := by decide +kernel
theorem dX5_cooking_28 : decode cX5_cooking 28 = .ok (.aload_n 0, 1) := by decide +kernel
theorem dX5_cooking_29 : decode cX5_cooking 29 = .ok (.getfield 46, 3) := by decide +kernel
theorem dX5_cooking_32 : decode cX5_cooking 32 = .ok (.iload_n 1, 1) := by decide +kernel
theorem dX5_cooking_33 : decode cX5_cooking 33 = .ok (.aload_n 0, 1) := by decide +kernel
theorem dX5_cooking_34 : decode cX5_cooking 34 = .ok (.getfield 36, 3) := by decide +kernel
theorem dX5_cooking_37 : decode cX5_cooking 37 = .ok (.invokevirtual 139, 3) := by decide +kernel
theorem dX5_cooking_40 : decode cX5_cooking 40 = .ok (.invokevirtual 193, 3) := by decide +kernel
theorem dX5_cooking_43 : decode cX5_cooking 43 = .ok (.ireturn, 1) := by decide +kernel
theorem dX5_beside_0 : decode cX5_beside 0 = .ok (.iload_n 1, 1) := by decide +kernel
theorem dX5_beside_1 : decode cX5_beside 1 = .ok (.ifCond .ge 10, 3) := by decide +kernel
theorem dX5_beside_4 : decode cX5_beside 4 = .ok (.aload_n 0, 1) := by decide +kernel
theorem dX5_beside_5 : decode cX5_beside 5 = .ok (.bipush (-4), 2) := by decide +kernel
theorem dX5_beside_7 : decode cX5_beside 7 = .ok (.invokevirtual 67, 3) := by decide +kernel
theorem dX5_beside_10 : decode cX5_beside 10 = .ok (.ireturn, 1) := by decide +kernel
theorem dX5_beside_11 : decode cX5_beside 11 = .ok (.iload_n 1, 1) := by decide +kernel
theorem dX5_beside_12 : decode cX5_beside 12 = .ok (.bipush 48, 2) := by decide +kernel
theorem dX5_beside_14 : decode cX5_beside 14 = .ok (.if_icmp .lt 10, 3) := by decide +kernel
theorem dX5_beside_17 : decode cX5_beside 17 = .ok (.aload_n 0, 1) := by decide +kernel
theorem dX5_beside_18 : decode cX5_beside 18 = .ok (.bipush (-6), 2) := by decide +kernel
theorem dX5_beside_20 : decode cX5_beside 20 = .ok (.invokevirtual 67, 3) := by decide +kernel
theorem dX5_beside_23 : decode cX5_beside 23 = .ok (.ireturn, 1) := by decide +kernel
theorem dX5_beside_24 : decode cX5_beside 24 = .ok (.aload_n 0, 1) := by decide +kernel
theorem dX5_beside_25 : decode cX5_beside 25 = .ok (.getfield 36, 3) := by decide +kernel
theorem dX5_beside_28 : decode cX5_beside 28 = .ok (.invokevirtual 139, 3) := by decide +kernel
theorem dX5_beside_31 : decode cX5_beside 31 = .ok (.lstore_n 2, 1) := by decide +kernel
theorem dX5_beside_32 : decode cX5_beside 32 = .ok (.aload_n 0, 1) := by decide +kernel
theorem dX5_beside_33 : decode cX5_beside 33 = .ok (.getfield 40, 3) := by decide +kernel
theorem dX5_beside_36 : decode cX5_beside 36 = .ok (.invokevirtual 139, 3) := by decide +kernel
theorem dX5_beside_39 : decode cX5_beside 39 = .ok (.lstore 4, 2) := by decide +kernel
theorem dX5_beside_41 : decode cX5_beside 41 = .ok (.iconst 0, 1) := by decide +kernel
theorem dX5_beside_42 : decode cX5_beside 42 = .ok (.istore 6, 2) := by decide +kernel
theorem dX5_beside_44 : decode cX5_beside 44 = .ok (.iconst 0, 1) := by decide +kernel
theorem dX5_beside_45 : decode cX5_beside 45 = .ok (.istore 7, 2) := by decide +kernel
theorem dX5_beside_47 : decode cX5_beside 47 = .ok (.iload 7, 2) := by decide +kernel
theorem dX5_beside_49 : decode cX5_beside 49 = .ok (.aload_n 0, 1) := by decide +kernel
theorem dX5_beside_50 : decode cX5_beside 50 = .ok (.getfield 12, 3) := by decide +kernel
theorem dX5_beside_53 : decode cX5_beside 53 = .ok (.getfield 75, 3) := by decide +kernel
theorem dX5_beside_56 : decode cX5_beside 56 = .ok (.if_icmp .ge 44, 3) := by decide +kernel
theorem dX5_beside_59 : decode cX5_beside 59 = .ok (.aload_n 0, 1) := by decide +kernel
theorem dX5_beside_60 : decode cX5_beside 60 = .ok (.getfield 36, 3) := by decide +kernel
theorem dX5_beside_63 : decode cX5_beside 63 = .ok (.lload_n 2, 1) := by decide +kernel
theorem dX5_beside_64 : decode cX5_beside 64 = .ok (.iload 7, 2) := by decide +kernel
theorem dX5_beside_66 : decode cX5_beside 66 = .ok (.iload_n 1, 1) := by decide +kernel
theorem dX5_beside_67 : decode cX5_beside 67 = .ok (.invokevirtual 158, 3) := by decide +kernel
theorem dX5_beside_70 : decode cX5_beside 70 = .ok (.aload_n 0, 1) := by decide +kernel
theorem dX5_beside_71 : decode cX5_beside 71 = .ok (.getfield 40, 3) := by decide +kernel
theorem dX5_beside_74 : decode cX5_beside 74 = .ok (.lload 4, 2) := by decide +kernel
theorem dX5_beside_76 : decode cX5_beside 76 = .ok (.iload 7, 2) := by decide +kernel
theorem dX5_beside_78 : decode cX5_beside 78 = .ok (.iload_n 1, 1) := by decide +kernel
theorem dX5_beside_79 : decode cX5_beside 79 = .ok (.invokevirtual 158, 3) := by decide +kernel
theorem dX5_beside_82 : decode cX5_beside 82 = .ok (.if_icmp .eq 12, 3) := by decide +kernel
theorem dX5_beside_85 : decode cX5_beside 85 = .ok (.iload 6, 2) := by decide +kernel
theorem dX5_beside_87 : decode cX5_beside 87 = .ok (.iconst 1, 1) := by decide +kernel
theorem dX5_beside_88 : decode cX5_beside 88 = .ok (.iload 7, 2) := by decide +kernel
theorem dX5_beside_90 : decode cX5_beside 90 = .ok (.ishl, 1) := by decide +kernel
theorem dX5_beside_91 : decode cX5_beside 91 = .ok (.ior, 1) := by decide +kernel
theorem dX5_beside_92 : decode cX5_beside 92 = .ok (.istore 6, 2) := by decide +kernel
theorem dX5_beside_94 : decode cX5_beside 94 = .ok (.iinc 7 1, 3) := by decide +kernel
theorem dX5_beside_97 : decode cX5_beside 97 = .ok (.goto (-50), 3) := by decide +kernel
theorem dX5_beside_100 : decode cX5_beside 100 = .ok (.iload 6, 2) := by decide +kernel
theorem dX5_beside_102 : decode cX5_beside 102 = .ok (.ireturn, 1) := by decide +kernel
theorem dX5_image_0 : decode cX5_image 0 = .ok (.aload_n 0, 1) := by decide +kernel
theorem dX5_image_1 : decode cX5_image 1 = .ok (.getfield 16, 3) := by decide +kernel
theorem dX5_image_4 : decode cX5_image 4 = .ok (.aload_n 0, 1) := by decide +kernel
theorem dX5_image_5 : decode cX5_image 5 = .ok (.getfield 12, 3) := by decide +kernel
theorem dX5_image_8 : decode cX5_image 8 = .ok (.invokevirtual 196, 3) := by decide +kernel
theorem dX5_image_11 : decode cX5_image 11 = .ok (.aload_n 0, 1) := by decide +kernel
theorem dX5_image_12 : decode cX5_image 12 = .ok (.iconst 1, 1) := by decide +kernel
theorem dX5_image_13 : decode cX5_image 13 = .ok (.putfield 63, 3) := by decide +kernel
theorem dX5_image_16 : decode cX5_image 16 = .ok (.aload_n 0, 1) := by decide +kernel
theorem dX5_image_17 : decode cX5_image 17 = .ok (.getfield 12, 3) := by decide +kernel
theorem dX5_image_20 : decode cX5_image 20 = .ok (.getfield 97, 3) := by decide +kernel
theorem dX5_image_23 : decode cX5_image 23 = .ok (.ireturn, 1) := by decide +kernel
theorem dX5_restore_0 : decode cX5_restore 0 = .ok (.aload_n 0, 1) := by decide +kernel
theorem dX5_restore_1 : decode cX5_restore 1 = .ok (.getfield 63, 3) := by decide +kernel
theorem dX5_restore_4 : decode cX5_restore 4 = .ok (.ifCond .ne 10, 3) := by decide +kernel
theorem dX5_restore_7 : decode cX5_restore 7 = .ok (.aload_n 0, 1) := by decide +kernel
theorem dX5_restore_8 : decode cX5_restore 8 = .ok (.bipush (-3), 2) := by decide +kernel
theorem dX5_restore_10 : decode cX5_restore 10 = .ok (.invokevirtual 67, 3) := by decide +kernel
theorem dX5_restore_13 : decode cX5_restore 13 = .ok (.ireturn, 1) := by decide +kernel
theorem dX5_restore_14 : decode cX5_restore 14 = .ok (.aload_n 0, 1) := by decide +kernel
theorem dX5_restore_15 : decode cX5_restore 15 = .ok (.getfield 12, 3) := by decide +kernel
theorem dX5_restore_18 : decode cX5_restore 18 = .ok (.aload_n 0, 1) := by decide +kernel
theorem dX5_restore_19 : decode cX5_restore 19 = .ok (.getfield 16, 3) := by decide +kernel
theorem dX5_restore_22 : decode cX5_restore 22 = .ok (.invokevirtual 196, 3) := by decide +kernel
theorem dX5_restore_25 : decode cX5_restore 25 = .ok (.aload_n 0, 1) := by decide +kernel
theorem dX5_restore_26 : decode cX5_restore 26 = .ok (.getfield 12, 3) := by decide +kernel
theorem dX5_restore_29 : decode cX5_restore 29 = .ok (.getfield 97, 3) := by decide +kernel
theorem dX5_restore_32 : decode cX5_restore 32 = .ok (.ireturn, 1) := by decide +kernel
theorem dX5_count_0 : decode cX5_count 0 = .ok (.iload_n 1, 1) := by decide +kernel
theorem dX5_count_1 : decode cX5_count 1 = .ok (.tableswitch 90 0 5 #[39, 47, 55, 66, 74, 82], 39) := by decide +kernel
theorem dX5_count_40 : decode cX5_count 40 = .ok (.aload_n 0, 1) := by decide +kernel
theorem dX5_count_41 : decode cX5_count 41 = .ok (.getfield 12, 3) := by decide +kernel
theorem dX5_count_44 : decode cX5_count 44 = .ok (.getfield 75, 3) := by decide +kernel
theorem dX5_count_47 : decode cX5_count 47 = .ok (.ireturn, 1) := by decide +kernel
theorem dX5_count_48 : decode cX5_count 48 = .ok (.aload_n 0, 1) := by decide +kernel
theorem dX5_count_49 : decode cX5_count 49 = .ok (.getfield 12, 3) := by decide +kernel
theorem dX5_count_52 : decode cX5_count 52 = .ok (.getfield 97, 3) := by decide +kernel
theorem dX5_count_55 : decode cX5_count 55 = .ok (.ireturn, 1) := by decide +kernel
theorem dX5_count_56 : decode cX5_count 56 = .ok (.aload_n 0, 1) := by decide +kernel
theorem dX5_count_57 : decode cX5_count 57 = .ok (.getfield 12, 3) := by decide +kernel
theorem dX5_count_60 : decode cX5_count 60 = .ok (.invokevirtual 199, 3) := by decide +kernel
theorem dX5_count_63 : decode cX5_count 63 = .ok (.invokestatic 202, 3) := by decide +kernel
theorem dX5_count_66 : decode cX5_count 66 = .ok (.ireturn, 1) := by decide +kernel
theorem dX5_count_67 : decode cX5_count 67 = .ok (.aload_n 0, 1) := by decide +kernel
theorem dX5_count_68 : decode cX5_count 68 = .ok (.getfield 12, 3) := by decide +kernel
theorem dX5_count_71 : decode cX5_count 71 = .ok (.getfield 148, 3) := by decide +kernel
theorem dX5_count_74 : decode cX5_count 74 = .ok (.ireturn, 1) := by decide +kernel
theorem dX5_count_75 : decode cX5_count 75 = .ok (.aload_n 0, 1) := by decide +kernel
theorem dX5_count_76 : decode cX5_count 76 = .ok (.getfield 12, 3) := by decide +kernel
theorem dX5_count_79 : decode cX5_count 79 = .ok (.getfield 186, 3) := by decide +kernel
theorem dX5_count_82 : decode cX5_count 82 = .ok (.ireturn, 1) := by decide +kernel
theorem dX5_count_83 : decode cX5_count 83 = .ok (.aload_n 0, 1) := by decide +kernel
theorem dX5_count_84 : decode cX5_count 84 = .ok (.getfield 55, 3) := by decide +kernel
theorem dX5_count_87 : decode cX5_count 87 = .ok (.getfield 111, 3) := by decide +kernel
theorem dX5_count_90 : decode cX5_count 90 = .ok (.ireturn, 1) := by decide +kernel
theorem dX5_count_91 : decode cX5_count 91 = .ok (.iload_n 1, 1) := by decide +kernel
theorem dX5_count_92 : decode cX5_count 92 = .ok (.bipush 11, 2) := by decide +kernel
theorem dX5_count_94 : decode cX5_count 94 = .ok (.if_icmp .lt 21, 3) := by decide +kernel
theorem dX5_count_97 : decode cX5_count 97 = .ok (.iload_n 1, 1) := by decide +kernel
theorem dX5_count_98 : decode cX5_count 98 = .ok (.bipush 16, 2) := by decide +kernel
theorem dX5_count_100 : decode cX5_count 100 = .ok (.if_icmp .gt 15, 3) := by decide +kernel
theorem dX5_count_103 : decode cX5_count 103 = .ok (.aload_n 0, 1) := by decide +kernel
theorem dX5_count_104 : decode cX5_count 104 = .ok (.getfield 59, 3) := by decide +kernel
theorem dX5_count_107 : decode cX5_count 107 = .ok (.iload_n 1, 1) := by decide +kernel
theorem dX5_count_108 : decode cX5_count 108 = .ok (.bipush 10, 2) := by decide +kernel
theorem dX5_count_110 : decode cX5_count 110 = .ok (.isub, 1) := by decide +kernel
theorem dX5_count_111 : decode cX5_count 111 = .ok (.iaload, 1) := by decide +kernel
theorem dX5_count_112 : decode cX5_count 112 = .ok (.goto 5, 3) := by decide +kernel
theorem dX5_count_115 : decode cX5_count 115 = .ok (.bipush (-9), 2) := by decide +kernel
theorem dX5_count_117 : decode cX5_count 117 = .ok (.ireturn, 1) := by decide +kernel
theorem dX5_refuse_0 : decode cX5_refuse 0 = .ok (.iload_n 1, 1) := by decide +kernel
theorem dX5_refuse_1 : decode cX5_refuse 1 = .ok (.ineg, 1) := by decide +kernel
theorem dX5_refuse_2 : decode cX5_refuse 2 = .ok (.istore_n 2, 1) := by decide +kernel
theorem dX5_refuse_3 : decode cX5_refuse 3 = .ok (.iload_n 2, 1) := by decide +kernel
theorem dX5_refuse_4 : decode cX5_refuse 4 = .ok (.ifCond .lt 22, 3) := by decide +kernel
theorem dX5_refuse_7 : decode cX5_refuse 7 = .ok (.iload_n 2, 1) := by decide +kernel
theorem dX5_refuse_8 : decode cX5_refuse 8 = .ok (.aload_n 0, 1) := by decide +kernel
theorem dX5_refuse_9 : decode cX5_refuse 9 = .ok (.getfield 59, 3) := by decide +kernel
theorem dX5_refuse_12 : decode cX5_refuse 12 = .ok (.arraylength, 1) := by decide +kernel
theorem dX5_refuse_13 : decode cX5_refuse 13 = .ok (.if_icmp .ge 13, 3) := by decide +kernel
theorem dX5_refuse_16 : decode cX5_refuse 16 = .ok (.aload_n 0, 1) := by decide +kernel
theorem dX5_refuse_17 : decode cX5_refuse 17 = .ok (.getfield 59, 3) := by decide +kernel
theorem dX5_refuse_20 : decode cX5_refuse 20 = .ok (.iload_n 2, 1) := by decide +kernel
theorem dX5_refuse_21 : decode cX5_refuse 21 = .ok (.dup2, 1) := by decide +kernel
theorem dX5_refuse_22 : decode cX5_refuse 22 = .ok (.iaload, 1) := by decide +kernel
theorem dX5_refuse_23 : decode cX5_refuse 23 = .ok (.iconst 1, 1) := by decide +kernel
theorem dX5_refuse_24 : decode cX5_refuse 24 = .ok (.iadd, 1) := by decide +kernel
theorem dX5_refuse_25 : decode cX5_refuse 25 = .ok (.iastore, 1) := by decide +kernel
theorem dX5_refuse_26 : decode cX5_refuse 26 = .ok (.iload_n 1, 1) := by decide +kernel
theorem dX5_refuse_27 : decode cX5_refuse 27 = .ok (.ireturn, 1) := by decide +kernel
theorem dX5_thingAndHour_0 : decode cX5_thingAndHour 0 = .ok (.aload_n 0, 1) := by decide +kernel
theorem dX5_thingAndHour_1 : decode cX5_thingAndHour 1 = .ok (.getfield 12, 3) := by decide +kernel
theorem dX5_thingAndHour_4 : decode cX5_thingAndHour 4 = .ok (.iload_n 1, 1) := by decide +kernel
theorem dX5_thingAndHour_5 : decode cX5_thingAndHour 5 = .ok (.invokevirtual 90, 3) := by decide +kernel
theorem dX5_thingAndHour_8 : decode cX5_thingAndHour 8 = .ok (.ifCond .ne 5, 3) := by decide +kernel
theorem dX5_thingAndHour_11 : decode cX5_thingAndHour 11 = .ok (.iconst (-1), 1) := by decide +kernel
theorem dX5_thingAndHour_12 : decode cX5_thingAndHour 12 = .ok (.ireturn, 1) := by decide +kernel
theorem dX5_thingAndHour_13 : decode cX5_thingAndHour 13 = .ok (.iload_n 2, 1) := by decide +kernel
theorem dX5_thingAndHour_14 : decode cX5_thingAndHour 14 = .ok (.ifCond .ge 6, 3) := by decide +kernel
theorem dX5_thingAndHour_17 : decode cX5_thingAndHour 17 = .ok (.bipush (-4), 2) := by decide +kernel
theorem dX5_thingAndHour_19 : decode cX5_thingAndHour 19 = .ok (.ireturn, 1) := by decide +kernel
theorem dX5_thingAndHour_20 : decode cX5_thingAndHour 20 = .ok (.iload_n 2, 1) := by decide +kernel
theorem dX5_thingAndHour_21 : decode cX5_thingAndHour 21 = .ok (.bipush 48, 2) := by decide +kernel
theorem dX5_thingAndHour_23 : decode cX5_thingAndHour 23 = .ok (.if_icmp .lt 8, 3) := by decide +kernel
theorem dX5_thingAndHour_26 : decode cX5_thingAndHour 26 = .ok (.bipush (-6), 2) := by decide +kernel
theorem dX5_thingAndHour_28 : decode cX5_thingAndHour 28 = .ok (.goto 4, 3) := by decide +kernel
theorem dX5_thingAndHour_31 : decode cX5_thingAndHour 31 = .ok (.iconst 0, 1) := by decide +kernel
theorem dX5_thingAndHour_32 : decode cX5_thingAndHour 32 = .ok (.ireturn, 1) := by decide +kernel
theorem dX5_isUnknownAbove_0 : decode cX5_isUnknownAbove 0 = .ok (.iload_n 0, 1) := by decide +kernel
theorem dX5_isUnknownAbove_1 : decode cX5_isUnknownAbove 1 = .ok (.bipush 6, 2) := by decide +kernel
theorem dX5_isUnknownAbove_3 : decode cX5_isUnknownAbove 3 = .ok (.if_icmp .lt 19, 3) := by decide +kernel
theorem dX5_isUnknownAbove_6 : decode cX5_isUnknownAbove 6 = .ok (.iload_n 0, 1) := by decide +kernel
theorem dX5_isUnknownAbove_7 : decode cX5_isUnknownAbove 7 = .ok (.bipush 10, 2) := by decide +kernel
theorem dX5_isUnknownAbove_9 : decode cX5_isUnknownAbove 9 = .ok (.if_icmp .lt 9, 3) := by decide +kernel
theorem dX5_isUnknownAbove_12 : decode cX5_isUnknownAbove 12 = .ok (.iload_n 0, 1) := by decide +kernel
theorem dX5_isUnknownAbove_13 : decode cX5_isUnknownAbove 13 = .ok (.bipush 16, 2) := by decide +kernel
theorem dX5_isUnknownAbove_15 : decode cX5_isUnknownAbove 15 = .ok (.if_icmp .lt 7, 3) := by decide +kernel
theorem dX5_isUnknownAbove_18 : decode cX5_isUnknownAbove 18 = .ok (.iconst 1, 1) := by decide +kernel
theorem dX5_isUnknownAbove_19 : decode cX5_isUnknownAbove 19 = .ok (.goto 4, 3) := by decide +kernel
theorem dX5_isUnknownAbove_22 : decode cX5_isUnknownAbove 22 = .ok (.iconst 0, 1) := by decide +kernel
theorem dX5_isUnknownAbove_23 : decode cX5_isUnknownAbove 23 = .ok (.ireturn, 1) := by decide +kernel
theorem dX5_hasSecond_0 : decode cX5_hasSecond 0 = .ok (.iload_n 0, 1) := by decide +kernel
theorem dX5_hasSecond_1 : decode cX5_hasSecond 1 = .ok (.iconst 4, 1) := by decide +kernel
theorem dX5_hasSecond_2 : decode cX5_hasSecond 2 = .ok (.if_icmp .le 9, 3) := by decide +kernel
theorem dX5_hasSecond_5 : decode cX5_hasSecond 5 = .ok (.iload_n 0, 1) := by decide +kernel
theorem dX5_hasSecond_6 : decode cX5_hasSecond 6 = .ok (.bipush 9, 2) := by decide +kernel
theorem dX5_hasSecond_8 : decode cX5_hasSecond 8 = .ok (.if_icmp .ne 7, 3) := by decide +kernel
theorem dX5_hasSecond_11 : decode cX5_hasSecond 11 = .ok (.iconst 1, 1) := by decide +kernel
theorem dX5_hasSecond_12 : decode cX5_hasSecond 12 = .ok (.goto 4, 3) := by decide +kernel
theorem dX5_hasSecond_15 : decode cX5_hasSecond 15 = .ok (.iconst 0, 1) := by decide +kernel
theorem dX5_hasSecond_16 : decode cX5_hasSecond 16 = .ok (.ireturn, 1) := by decide +kernel
theorem dX5_isVessel_0 : decode cX5_isVessel 0 = .ok (.iload_n 0, 1) := by decide +kernel
theorem dX5_isVessel_1 : decode cX5_isVessel 1 = .ok (.ifCond .eq 8, 3) := by decide +kernel
theorem dX5_isVessel_4 : decode cX5_isVessel 4 = .ok (.iload_n 0, 1) := by decide +kernel
theorem dX5_isVessel_5 : decode cX5_isVessel 5 = .ok (.iconst 5, 1) := by decide +kernel
theorem dX5_isVessel_6 : decode cX5_isVessel 6 = .ok (.if_icmp .ne 7, 3) := by decide +kernel
theorem dX5_isVessel_9 : decode cX5_isVessel 9 = .ok (.iconst 1, 1) := by decide +kernel
theorem dX5_isVessel_10 : decode cX5_isVessel 10 = .ok (.goto 4, 3) := by decide +kernel
theorem dX5_isVessel_13 : decode cX5_isVessel 13 = .ok (.iconst 0, 1) := by decide +kernel
theorem dX5_isVessel_14 : decode cX5_isVessel 14 = .ok (.ireturn, 1) := by decide +kernel
theorem dX5_isFood_0 : decode cX5_isFood 0 = .ok (.iload_n 0, 1) := by decide +kernel
theorem dX5_isFood_1 : decode cX5_isFood 1 = .ok (.iconst 1, 1) := by decide +kernel
theorem dX5_isFood_2 : decode cX5_isFood 2 = .ok (.if_icmp .eq 8, 3) := by decide +kernel
theorem dX5_isFood_5 : decode cX5_isFood 5 = .ok (.iload_n 0, 1) := by decide +kernel
theorem dX5_isFood_6 : decode cX5_isFood 6 = .ok (.iconst 2, 1) := by decide +kernel
theorem dX5_isFood_7 : decode cX5_isFood 7 = .ok (.if_icmp .ne 7, 3) := by decide +kernel
theorem dX5_isFood_10 : decode cX5_isFood 10 = .ok (.iconst 1, 1) := by decide +kernel
theorem dX5_isFood_11 : decode cX5_isFood 11 = .ok (.goto 4, 3) := by decide +kernel
theorem dX5_isFood_14 : decode cX5_isFood 14 = .ok (.iconst 0, 1) := by decide +kernel
theorem dX5_isFood_15 : decode cX5_isFood 15 = .ok (.ireturn, 1) := by decide +kernel
theorem dX5_waysToldBy_0 : decode cX5_waysToldBy 0 = .ok (.iload_n 0, 1) := by decide +kernel
theorem dX5_waysToldBy_1 : decode cX5_waysToldBy 1 = .ok (.ifCond .lt 15, 3) := by decide +kernel
theorem dX5_waysToldBy_4 : decode cX5_waysToldBy 4 = .ok (.iload_n 0, 1) := by decide +kernel
theorem dX5_waysToldBy_5 : decode cX5_waysToldBy 5 = .ok (.bipush 6, 2) := by decide +kernel
theorem dX5_waysToldBy_7 : decode cX5_waysToldBy 7 = .ok (.if_icmp .ge 9, 3) := by decide +kernel
theorem dX5_waysToldBy_10 : decode cX5_waysToldBy 10 = .ok (.getstatic 206, 3) := by decide +kernel
theorem dX5_waysToldBy_13 : decode cX5_waysToldBy 13 = .ok (.iload_n 0, 1) := by decide +kernel
theorem dX5_waysToldBy_14 : decode cX5_waysToldBy 14 = .ok (.laload, 1) := by decide +kernel
theorem dX5_waysToldBy_15 : decode cX5_waysToldBy 15 = .ok (.lreturn, 1) := by decide +kernel
theorem dX5_waysToldBy_16 : decode cX5_waysToldBy 16 = .ok (.iload_n 0, 1) := by decide +kernel
theorem dX5_waysToldBy_17 : decode cX5_waysToldBy 17 = .ok (.bipush 10, 2) := by decide +kernel
theorem dX5_waysToldBy_19 : decode cX5_waysToldBy 19 = .ok (.if_icmp .lt 22, 3) := by decide +kernel
theorem dX5_waysToldBy_22 : decode cX5_waysToldBy 22 = .ok (.iload_n 0, 1) := by decide +kernel
theorem dX5_waysToldBy_23 : decode cX5_waysToldBy 23 = .ok (.bipush 16, 2) := by decide +kernel
theorem dX5_waysToldBy_25 : decode cX5_waysToldBy 25 = .ok (.if_icmp .ge 16, 3) := by decide +kernel
theorem dX5_waysToldBy_28 : decode cX5_waysToldBy 28 = .ok (.getstatic 206, 3) := by decide +kernel
theorem dX5_waysToldBy_31 : decode cX5_waysToldBy 31 = .ok (.iload_n 0, 1) := by decide +kernel
theorem dX5_waysToldBy_32 : decode cX5_waysToldBy 32 = .ok (.bipush 10, 2) := by decide +kernel
theorem dX5_waysToldBy_34 : decode cX5_waysToldBy 34 = .ok (.isub, 1) := by decide +kernel
theorem dX5_waysToldBy_35 : decode cX5_waysToldBy 35 = .ok (.laload, 1) := by decide +kernel
theorem dX5_waysToldBy_36 : decode cX5_waysToldBy 36 = .ok (.ldc2_w 210, 3) := by decide +kernel
theorem dX5_waysToldBy_39 : decode cX5_waysToldBy 39 = .ok (.lxor, 1) := by decide +kernel
theorem dX5_waysToldBy_40 : decode cX5_waysToldBy 40 = .ok (.lreturn, 1) := by decide +kernel
theorem dX5_waysToldBy_41 : decode cX5_waysToldBy 41 = .ok (.ldc2_w 210, 3) := by decide +kernel
theorem dX5_waysToldBy_44 : decode cX5_waysToldBy 44 = .ok (.lreturn, 1) := by decide +kernel
theorem dX6_init_0 : decode cX6_init 0 = .ok (.aload_n 0, 1) := by decide +kernel
theorem dX6_init_1 : decode cX6_init 1 = .ok (.invokespecial 1, 3) := by decide +kernel
theorem dX6_init_4 : decode cX6_init 4 = .ok (.aload_n 0, 1) := by decide +kernel
theorem dX6_init_5 : decode cX6_init 5 = .ok (.bipush 7, 2) := by decide +kernel
theorem dX6_init_7 : decode cX6_init 7 = .ok (.newarray .int, 2) := by decide +kernel
theorem dX6_init_9 : decode cX6_init 9 = .ok (.putfield 7, 3) := by decide +kernel
theorem dX6_init_12 : decode cX6_init 12 = .ok (.aload_n 0, 1) := by decide +kernel
theorem dX6_init_13 : decode cX6_init 13 = .ok (.bipush 12, 2) := by decide +kernel
theorem dX6_init_15 : decode cX6_init 15 = .ok (.newarray .int, 2) := by decide +kernel
theorem dX6_init_17 : decode cX6_init 17 = .ok (.putfield 13, 3) := by decide +kernel
theorem dX6_init_20 : decode cX6_init 20 = .ok (.aload_n 0, 1) := by decide +kernel
theorem dX6_init_21 : decode cX6_init 21 = .ok (.bipush 12, 2) := by decide +kernel
theorem dX6_init_23 : decode cX6_init 23 = .ok (.newarray .int, 2) := by decide +kernel
theorem dX6_init_25 : decode cX6_init 25 = .ok (.putfield 16, 3) := by decide +kernel
theorem dX6_init_28 : decode cX6_init 28 = .ok (.aload_n 0, 1) := by decide +kernel
theorem dX6_init_29 : decode cX6_init 29 = .ok (.bipush 12, 2) := by decide +kernel
theorem dX6_init_31 : decode cX6_init 31 = .ok (.newarray .int, 2) := by decide +kernel
theorem dX6_init_33 : decode cX6_init 33 = .ok (.putfield 19, 3) := by decide +kernel
theorem dX6_init_36 : decode cX6_init 36 = .ok (.aload_n 0, 1) := by decide +kernel
theorem dX6_init_37 : decode cX6_init 37 = .ok (.bipush 12, 2) := by decide +kernel
theorem dX6_init_39 : decode cX6_init 39 = .ok (.newarray .int, 2) := by decide +kernel
theorem dX6_init_41 : decode cX6_init 41 = .ok (.dup, 1) := by decide +kernel
theorem dX6_init_42 : decode cX6_init 42 = .ok (.iconst 0, 1) := by decide +kernel
theorem dX6_init_43 : decode cX6_init 43 = .ok (.iconst 1, 1) := by decide +kernel
theorem dX6_init_44 : decode cX6_init 44 = .ok (.iastore, 1) := by decide +kernel
theorem dX6_init_45 : decode cX6_init 45 = .ok (.dup, 1) := by decide +kernel
theorem dX6_init_46 : decode cX6_init 46 = .ok (.iconst 1, 1) := by decide +kernel
theorem dX6_init_47 : decode cX6_init 47 = .ok (.iconst 2, 1) := by decide +kernel
theorem dX6_init_48 : decode cX6_init 48 = .ok (.iastore, 1) := by decide +kernel
theorem dX6_init_49 : decode cX6_init 49 = .ok (.dup, 1) := by decide +kernel
theorem dX6_init_50 : decode cX6_init 50 = .ok (.iconst 2, 1) := by decide +kernel
theorem dX6_init_51 : decode cX6_init 51 = .ok (.iconst 3, 1) := by decide +kernel
theorem dX6_init_52 : decode cX6_init 52 = .ok (.iastore, 1) := by decide +kernel
theorem dX6_init_53 : decode cX6_init 53 = .ok (.dup, 1) := by decide +kernel
theorem dX6_init_54 : decode cX6_init 54 = .ok (.iconst 3, 1) := by decide +kernel
theorem dX6_init_55 : decode cX6_init 55 = .ok (.iconst 1, 1) := by decide +kernel
theorem dX6_init_56 : decode cX6_init 56 = .ok (.iastore, 1) := by decide +kernel
theorem dX6_init_57 : decode cX6_init 57 = .ok (.dup, 1) := by decide +kernel
theorem dX6_init_58 : decode cX6_init 58 = .ok (.iconst 4, 1) := by decide +kernel
theorem dX6_init_59 : decode cX6_init 59 = .ok (.iconst 0, 1) := by decide +kernel
theorem dX6_init_60 : decode cX6_init 60 = .ok (.iastore, 1) := by decide +kernel
theorem dX6_init_61 : decode cX6_init 61 = .ok (.dup, 1) := by decide +kernel
theorem dX6_init_62 : decode cX6_init 62 = .ok (.iconst 5, 1) := by decide +kernel
theorem dX6_init_63 : decode cX6_init 63 = .ok (.iconst 1, 1) := by decide +kernel
theorem dX6_init_64 : decode cX6_init 64 = .ok (.iastore, 1) := by decide +kernel
theorem dX6_init_65 : decode cX6_init 65 = .ok (.dup, 1) := by decide +kernel
theorem dX6_init_66 : decode cX6_init 66 = .ok (.bipush 6, 2) := by decide +kernel
theorem dX6_init_68 : decode cX6_init 68 = .ok (.iconst 1, 1) := by decide +kernel
theorem dX6_init_69 : decode cX6_init 69 = .ok (.iastore, 1) := by decide +kernel
theorem dX6_init_70 : decode cX6_init 70 = .ok (.dup, 1) := by decide +kernel
theorem dX6_init_71 : decode cX6_init 71 = .ok (.bipush 7, 2) := by decide +kernel
theorem dX6_init_73 : decode cX6_init 73 = .ok (.iconst 2, 1) := by decide +kernel
theorem dX6_init_74 : decode cX6_init 74 = .ok (.iastore, 1) := by decide +kernel
theorem dX6_init_75 : decode cX6_init 75 = .ok (.dup, 1) := by decide +kernel
theorem dX6_init_76 : decode cX6_init 76 = .ok (.bipush 8, 2) := by decide +kernel
theorem dX6_init_78 : decode cX6_init 78 = .ok (.iconst 3, 1) := by decide +kernel
theorem dX6_init_79 : decode cX6_init 79 = .ok (.iastore, 1) := by decide +kernel
theorem dX6_init_80 : decode cX6_init 80 = .ok (.dup, 1) := by decide +kernel
theorem dX6_init_81 : decode cX6_init 81 = .ok (.bipush 9, 2) := by decide +kernel
theorem dX6_init_83 : decode cX6_init 83 = .ok (.iconst 1, 1) := by decide +kernel
theorem dX6_init_84 : decode cX6_init 84 = .ok (.iastore, 1) := by decide +kernel
theorem dX6_init_85 : decode cX6_init 85 = .ok (.dup, 1) := by decide +kernel
theorem dX6_init_86 : decode cX6_init 86 = .ok (.bipush 10, 2) := by decide +kernel
theorem dX6_init_88 : decode cX6_init 88 = .ok (.iconst 0, 1) := by decide +kernel
theorem dX6_init_89 : decode cX6_init 89 = .ok (.iastore, 1) := by decide +kernel
theorem dX6_init_90 : decode cX6_init 90 = .ok (.dup, 1) := by decide +kernel
theorem dX6_init_91 : decode cX6_init 91 = .ok (.bipush 11, 2) := by decide +kernel
theorem dX6_init_93 : decode cX6_init 93 = .ok (.iconst 1, 1) := by decide +kernel
theorem dX6_init_94 : decode cX6_init 94 = .ok (.iastore, 1) := by decide +kernel
theorem dX6_init_95 : decode cX6_init 95 = .ok (.putfield 22, 3) := by decide +kernel
theorem dX6_init_98 : decode cX6_init 98 = .ok (.aload_n 0, 1) := by decide +kernel
theorem dX6_init_99 : decode cX6_init 99 = .ok (.iconst 3, 1) := by decide +kernel
theorem dX6_init_100 : decode cX6_init 100 = .ok (.newarray .int, 2) := by decide +kernel
theorem dX6_init_102 : decode cX6_init 102 = .ok (.dup, 1) := by decide +kernel
theorem dX6_init_103 : decode cX6_init 103 = .ok (.iconst 0, 1) := by decide +kernel
theorem dX6_init_104 : decode cX6_init 104 = .ok (.iconst 0, 1) := by decide +kernel
theorem dX6_init_105 : decode cX6_init 105 = .ok (.iastore, 1) := by decide +kernel
theorem dX6_init_106 : decode cX6_init 106 = .ok (.dup, 1) := by decide +kernel
theorem dX6_init_107 : decode cX6_init 107 = .ok (.iconst 1, 1) := by decide +kernel
theorem dX6_init_108 : decode cX6_init 108 = .ok (.iconst 1, 1) := by decide +kernel
theorem dX6_init_109 : decode cX6_init 109 = .ok (.iastore, 1) := by decide +kernel
theorem dX6_init_110 : decode cX6_init 110 = .ok (.dup, 1) := by decide +kernel
theorem dX6_init_111 : decode cX6_init 111 = .ok (.iconst 2, 1) := by decide +kernel
theorem dX6_init_112 : decode cX6_init 112 = .ok (.iconst 0, 1) := by decide +kernel
theorem dX6_init_113 : decode cX6_init 113 = .ok (.iastore, 1) := by decide +kernel
theorem dX6_init_114 : decode cX6_init 114 = .ok (.putfield 25, 3) := by decide +kernel
theorem dX6_init_117 : decode cX6_init 117 = .ok (.aload_n 0, 1) := by decide +kernel
theorem dX6_init_118 : decode cX6_init 118 = .ok (.bipush 60, 2) := by decide +kernel
theorem dX6_init_120 : decode cX6_init 120 = .ok (.newarray .int, 2) := by decide +kernel
theorem dX6_init_122 : decode cX6_init 122 = .ok (.putfield 28, 3) := by decide +kernel
theorem dX6_init_125 : decode cX6_init 125 = .ok (.aload_n 0, 1) := by decide +kernel
theorem dX6_init_126 : decode cX6_init 126 = .ok (.bipush 60, 2) := by decide +kernel
theorem dX6_init_128 : decode cX6_init 128 = .ok (.newarray .int, 2) := by decide +kernel
theorem dX6_init_130 : decode cX6_init 130 = .ok (.putfield 31, 3) := by decide +kernel
theorem dX6_init_133 : decode cX6_init 133 = .ok (.aload_n 0, 1) := by decide +kernel
theorem dX6_init_134 : decode cX6_init 134 = .ok (.bipush 60, 2) := by decide +kernel
theorem dX6_init_136 : decode cX6_init 136 = .ok (.newarray .int, 2) := by decide +kernel
theorem dX6_init_138 : decode cX6_init 138 = .ok (.putfield 34, 3) := by decide +kernel
theorem dX6_init_141 : decode cX6_init 141 = .ok (.aload_n 0, 1) := by decide +kernel
theorem dX6_init_142 : decode cX6_init 142 = .ok (.bipush 60, 2) := by decide +kernel
theorem dX6_init_144 : decode cX6_init 144 = .ok (.newarray .int, 2) := by decide +kernel
theorem dX6_init_146 : decode cX6_init 146 = .ok (.putfield 37, 3) := by decide +kernel
theorem dX6_init_149 : decode cX6_init 149 = .ok (.aload_n 0, 1) := by decide +kernel
theorem dX6_init_150 : decode cX6_init 150 = .ok (.bipush 60, 2) := by decide +kernel
theorem dX6_init_152 : decode cX6_init 152 = .ok (.newarray .int, 2) := by decide +kernel
theorem dX6_init_154 : decode cX6_init 154 = .ok (.putfield 40, 3) := by decide +kernel
theorem dX6_init_157 : decode cX6_init 157 = .ok (.aload_n 0, 1) := by decide +kernel
theorem dX6_init_158 : decode cX6_init 158 = .ok (.bipush 80, 2) := by decide +kernel
theorem dX6_init_160 : decode cX6_init 160 = .ok (.newarray .int, 2) := by decide +kernel
theorem dX6_init_162 : decode cX6_init 162 = .ok (.putfield 43, 3) := by decide +kernel
theorem dX6_init_165 : decode cX6_init 165 = .ok (.aload_n 0, 1) := by decide +kernel
theorem dX6_init_166 : decode cX6_init 166 = .ok (.bipush 12, 2) := by decide +kernel
theorem dX6_init_168 : decode cX6_init 168 = .ok (.newarray .int, 2) := by decide +kernel
theorem dX6_init_170 : decode cX6_init 170 = .ok (.putfield 46, 3) := by decide +kernel
theorem dX6_init_173 : decode cX6_init 173 = .ok (.aload_n 0, 1) := by decide +kernel
theorem dX6_init_174 : decode cX6_init 174 = .ok (.bipush 12, 2) := by decide +kernel
theorem dX6_init_176 : decode cX6_init 176 = .ok (.newarray .int, 2) := by decide +kernel
theorem dX6_init_178 : decode cX6_init 178 = .ok (.putfield 49, 3) := by decide +kernel
theorem dX6_init_181 : decode cX6_init 181 = .ok (.aload_n 0, 1) := by decide +kernel
theorem dX6_init_182 : decode cX6_init 182 = .ok (.bipush 60, 2) := by decide +kernel
theorem dX6_init_184 : decode cX6_init 184 = .ok (.newarray .int, 2) := by decide +kernel
theorem dX6_init_186 : decode cX6_init 186 = .ok (.putfield 52, 3) := by decide +kernel
theorem dX6_init_189 : decode cX6_init 189 = .ok (.aload_n 0, 1) := by decide +kernel
theorem dX6_init_190 : decode cX6_init 190 = .ok (.bipush 12, 2) := by decide +kernel
theorem dX6_init_192 : decode cX6_init 192 = .ok (.newarray .boolean, 2) := by decide +kernel
theorem dX6_init_194 : decode cX6_init 194 = .ok (.putfield 55, 3) := by decide +kernel
theorem dX6_init_197 : decode cX6_init 197 = .ok (.aload_n 0, 1) := by decide +kernel
theorem dX6_init_198 : decode cX6_init 198 = .ok (.bipush 12, 2) := by decide +kernel
theorem dX6_init_200 : decode cX6_init 200 = .ok (.newarray .boolean, 2) := by decide +kernel
theorem dX6_init_202 : decode cX6_init 202 = .ok (.putfield 59, 3) := by decide +kernel
theorem dX6_init_205 : decode cX6_init 205 = .ok (.aload_n 0, 1) := by decide +kernel
theorem dX6_init_206 : decode cX6_init 206 = .ok (.bipush 12, 2) := by decide +kernel
theorem dX6_init_208 : decode cX6_init 208 = .ok (.newarray .boolean, 2) := by decide +kernel
theorem dX6_init_210 : decode cX6_init 210 = .ok (.putfield 62, 3) := by decide +kernel
theorem dX6_init_213 : decode cX6_init 213 = .ok (.aload_n 0, 1) := by decide +kernel
theorem dX6_init_214 : decode cX6_init 214 = .ok (.bipush 12, 2) := by decide +kernel
theorem dX6_init_216 : decode cX6_init 216 = .ok (.newarray .boolean, 2) := by decide +kernel
theorem dX6_init_218 : decode cX6_init 218 = .ok (.putfield 65, 3) := by decide +kernel
theorem dX6_init_221 : decode cX6_init 221 = .ok (.aload_n 0, 1) := by decide +kernel
theorem dX6_init_222 : decode cX6_init 222 = .ok (.bipush 12, 2) := by decide +kernel
theorem dX6_init_224 : decode cX6_init 224 = .ok (.newarray .int, 2) := by decide +kernel
theorem dX6_init_226 : decode cX6_init 226 = .ok (.putfield 68, 3) := by decide +kernel
theorem dX6_init_229 : decode cX6_init 229 = .ok (.aload_n 0, 1) := by decide +kernel
theorem dX6_init_230 : decode cX6_init 230 = .ok (.bipush 12, 2) := by decide +kernel
theorem dX6_init_232 : decode cX6_init 232 = .ok (.newarray .int, 2) := by decide +kernel
theorem dX6_init_234 : decode cX6_init 234 = .ok (.putfield 71, 3) := by decide +kernel
theorem dX6_init_237 : decode cX6_init 237 = .ok (.aload_n 0, 1) := by decide +kernel
theorem dX6_init_238 : decode cX6_init 238 = .ok (.bipush 12, 2) := by decide +kernel
theorem dX6_init_240 : decode cX6_init 240 = .ok (.newarray .int, 2) := by decide +kernel
theorem dX6_init_242 : decode cX6_init 242 = .ok (.putfield 74, 3) := by decide +kernel
theorem dX6_init_245 : decode cX6_init 245 = .ok (.aload_n 0, 1) := by decide +kernel
theorem dX6_init_246 : decode cX6_init 246 = .ok (.bipush 64, 2) := by decide +kernel
theorem dX6_init_248 : decode cX6_init 248 = .ok (.newarray .boolean, 2) := by decide +kernel
theorem dX6_init_250 : decode cX6_init 250 = .ok (.putfield 77, 3) := by decide +kernel
theorem dX6_init_253 : decode cX6_init 253 = .ok (.aload_n 0, 1) := by decide +kernel
theorem dX6_init_254 : decode cX6_init 254 = .ok (.bipush 64, 2) := by decide +kernel
theorem dX6_init_256 : decode cX6_init 256 = .ok (.newarray .int, 2) := by decide +kernel
theorem dX6_init_258 : decode cX6_init 258 = .ok (.putfield 80, 3) := by decide +kernel
theorem dX6_init_261 : decode cX6_init 261 = .ok (.aload_n 0, 1) := by decide +kernel
theorem dX6_init_262 : decode cX6_init 262 = .ok (.iconst 5, 1) := by decide +kernel
theorem dX6_init_263 : decode cX6_init 263 = .ok (.newarray .int, 2) := by decide +kernel
theorem dX6_init_265 : decode cX6_init 265 = .ok (.putfield 83, 3) := by decide +kernel
theorem dX6_init_268 : decode cX6_init 268 = .ok (.aload_n 0, 1) := by decide +kernel
theorem dX6_init_269 : decode cX6_init 269 = .ok (.iconst 5, 1) := by decide +kernel
theorem dX6_init_270 : decode cX6_init 270 = .ok (.newarray .int, 2) := by decide +kernel
theorem dX6_init_272 : decode cX6_init 272 = .ok (.putfield 86, 3) := by decide +kernel
theorem dX6_init_275 : decode cX6_init 275 = .ok (.aload_n 0, 1) := by decide +kernel
theorem dX6_init_276 : decode cX6_init 276 = .ok (.iconst 5, 1) := by decide +kernel
theorem dX6_init_277 : decode cX6_init 277 = .ok (.newarray .int, 2) := by decide +kernel
theorem dX6_init_279 : decode cX6_init 279 = .ok (.putfield 89, 3) := by decide +kernel
theorem dX6_init_282 : decode cX6_init 282 = .ok (.aload_n 0, 1) := by decide +kernel
theorem dX6_init_283 : decode cX6_init 283 = .ok (.iconst 5, 1) := by decide +kernel
theorem dX6_init_284 : decode cX6_init 284 = .ok (.newarray .int, 2) := by decide +kernel
theorem dX6_init_286 : decode cX6_init 286 = .ok (.putfield 92, 3) := by decide +kernel
theorem dX6_init_289 : decode cX6_init 289 = .ok (.aload_n 0, 1) := by decide +kernel
theorem dX6_init_290 : decode cX6_init 290 = .ok (.bipush 12, 2) := by decide +kernel
theorem dX6_init_292 : decode cX6_init 292 = .ok (.newarray .int, 2) := by decide +kernel
theorem dX6_init_294 : decode cX6_init 294 = .ok (.putfield 95, 3) := by decide +kernel
theorem dX6_init_297 : decode cX6_init 297 = .ok (.aload_n 0, 1) := by decide +kernel
theorem dX6_init_298 : decode cX6_init 298 = .ok (.sipush 500, 3) := by decide +kernel
theorem dX6_init_301 : decode cX6_init 301 = .ok (.newarray .int, 2) := by decide +kernel
theorem dX6_init_303 : decode cX6_init 303 = .ok (.putfield 98, 3) := by decide +kernel
theorem dX6_init_306 : decode cX6_init 306 = .ok (.return_, 1) := by decide +kernel
theorem dX6_no_0 : decode cX6_no 0 = .ok (.aload_n 0, 1) := by decide +kernel
theorem dX6_no_1 : decode cX6_no 1 = .ok (.getfield 7, 3) := by decide +kernel
theorem dX6_no_4 : decode cX6_no 4 = .ok (.iload_n 1, 1) := by decide +kernel
theorem dX6_no_5 : decode cX6_no 5 = .ok (.ineg, 1) := by decide +kernel
theorem dX6_no_6 : decode cX6_no 6 = .ok (.dup2, 1) := by decide +kernel
theorem dX6_no_7 : decode cX6_no 7 = .ok (.iaload, 1) := by decide +kernel
theorem dX6_no_8 : decode cX6_no 8 = .ok (.iconst 1, 1) := by decide +kernel
theorem dX6_no_9 : decode cX6_no 9 = .ok (.iadd, 1) := by decide +kernel
theorem dX6_no_10 : decode cX6_no 10 = .ok (.iastore, 1) := by decide +kernel
theorem dX6_no_11 : decode cX6_no 11 = .ok (.iload_n 1, 1) := by decide +kernel
theorem dX6_no_12 : decode cX6_no 12 = .ok (.ireturn, 1) := by decide +kernel
theorem dX6_isIn_0 : decode cX6_isIn 0 = .ok (.iload_n 0, 1) := by decide +kernel
theorem dX6_isIn_1 : decode cX6_isIn 1 = .ok (.iload_n 1, 1) := by decide +kernel
theorem dX6_isIn_2 : decode cX6_isIn 2 = .ok (.if_icmp .lt 12, 3) := by decide +kernel
theorem dX6_isIn_5 : decode cX6_isIn 5 = .ok (.iload_n 0, 1) := by decide +kernel
theorem dX6_isIn_6 : decode cX6_isIn 6 = .ok (.iload_n 2, 1) := by decide +kernel
theorem dX6_isIn_7 : decode cX6_isIn 7 = .ok (.if_icmp .gt 7, 3) := by decide +kernel
theorem dX6_isIn_10 : decode cX6_isIn 10 = .ok (.iconst 1, 1) := by decide +kernel
theorem dX6_isIn_11 : decode cX6_isIn 11 = .ok (.goto 4, 3) := by decide +kernel
theorem dX6_isIn_14 : decode cX6_isIn 14 = .ok (.iconst 0, 1) := by decide +kernel
theorem dX6_isIn_15 : decode cX6_isIn 15 = .ok (.ireturn, 1) := by decide +kernel
theorem dX6_out_0 : decode cX6_out 0 = .ok (.iload_n 0, 1) := by decide +kernel
theorem dX6_out_1 : decode cX6_out 1 = .ok (.iload_n 1, 1) := by decide +kernel
theorem dX6_out_2 : decode cX6_out 2 = .ok (.if_icmp .ge 8, 3) := by decide +kernel
theorem dX6_out_5 : decode cX6_out 5 = .ok (.bipush (-4), 2) := by decide +kernel
theorem dX6_out_7 : decode cX6_out 7 = .ok (.goto 14, 3) := by decide +kernel
theorem dX6_out_10 : decode cX6_out 10 = .ok (.iload_n 0, 1) := by decide +kernel
theorem dX6_out_11 : decode cX6_out 11 = .ok (.iload_n 2, 1) := by decide +kernel
theorem dX6_out_12 : decode cX6_out 12 = .ok (.if_icmp .le 8, 3) := by decide +kernel
theorem dX6_out_15 : decode cX6_out 15 = .ok (.bipush (-6), 2) := by decide +kernel
theorem dX6_out_17 : decode cX6_out 17 = .ok (.goto 4, 3) := by decide +kernel
theorem dX6_out_20 : decode cX6_out 20 = .ok (.iconst 0, 1) := by decide +kernel
theorem dX6_out_21 : decode cX6_out 21 = .ok (.ireturn, 1) := by decide +kernel
theorem dX6_isThing_0 : decode cX6_isThing 0 = .ok (.iload_n 1, 1) := by decide +kernel
theorem dX6_isThing_1 : decode cX6_isThing 1 = .ok (.ifCond .lt 15, 3) := by decide +kernel
theorem dX6_isThing_4 : decode cX6_isThing 4 = .ok (.iload_n 1, 1) := by decide +kernel
theorem dX6_isThing_5 : decode cX6_isThing 5 = .ok (.aload_n 0, 1) := by decide +kernel
theorem dX6_isThing_6 : decode cX6_isThing 6 = .ok (.getfield 101, 3) := by decide +kernel
theorem dX6_isThing_9 : decode cX6_isThing 9 = .ok (.if_icmp .ge 7, 3) := by decide +kernel
theorem dX6_isThing_12 : decode cX6_isThing 12 = .ok (.iconst 1, 1) := by decide +kernel
theorem dX6_isThing_13 : decode cX6_isThing 13 = .ok (.goto 4, 3) := by decide +kernel
theorem dX6_isThing_16 : decode cX6_isThing 16 = .ok (.iconst 0, 1) := by decide +kernel
theorem dX6_isThing_17 : decode cX6_isThing 17 = .ok (.ireturn, 1) := by decide +kernel
theorem dX6_mayJoin_0 : decode cX6_mayJoin 0 = .ok (.aload_n 0, 1) := by decide +kernel
theorem dX6_mayJoin_1 : decode cX6_mayJoin 1 = .ok (.getfield 101, 3) := by decide +kernel
theorem dX6_mayJoin_4 : decode cX6_mayJoin 4 = .ok (.ifCond .le 22, 3) := by decide +kernel
theorem dX6_mayJoin_7 : decode cX6_mayJoin 7 = .ok (.aload_n 0, 1) := by decide +kernel
theorem dX6_mayJoin_8 : decode cX6_mayJoin 8 = .ok (.getfield 13, 3) := by decide +kernel
theorem dX6_mayJoin_11 : decode cX6_mayJoin 11 = .ok (.aload_n 0, 1) := by decide +kernel
theorem dX6_mayJoin_12 : decode cX6_mayJoin 12 = .ok (.getfield 101, 3) := by decide +kernel
theorem dX6_mayJoin_15 : decode cX6_mayJoin 15 = .ok (.iconst 1, 1) := by decide +kernel
theorem dX6_mayJoin_16 : decode cX6_mayJoin 16 = .ok (.isub, 1) := by decide +kernel
theorem dX6_mayJoin_17 : decode cX6_mayJoin 17 = .ok (.iaload, 1) := by decide +kernel
theorem dX6_mayJoin_18 : decode cX6_mayJoin 18 = .ok (.iconst 4, 1) := by decide +kernel
theorem dX6_mayJoin_19 : decode cX6_mayJoin 19 = .ok (.if_icmp .eq 7, 3) := by decide +kernel
theorem dX6_mayJoin_22 : decode cX6_mayJoin 22 = .ok (.iconst 1, 1) := by decide +kernel
theorem dX6_mayJoin_23 : decode cX6_mayJoin 23 = .ok (.goto 4, 3) := by decide +kernel
theorem dX6_mayJoin_26 : decode cX6_mayJoin 26 = .ok (.iconst 0, 1) := by decide +kernel
theorem dX6_mayJoin_27 : decode cX6_mayJoin 27 = .ok (.ireturn, 1) := by decide +kernel
theorem dX6_comes_0 : decode cX6_comes 0 = .ok (.aload_n 0, 1) := by decide +kernel
theorem dX6_comes_1 : decode cX6_comes 1 = .ok (.getfield 13, 3) := by decide +kernel
theorem dX6_comes_4 : decode cX6_comes 4 = .ok (.aload_n 0, 1) := by decide +kernel
theorem dX6_comes_5 : decode cX6_comes 5 = .ok (.getfield 101, 3) := by decide +kernel
theorem dX6_comes_8 : decode cX6_comes 8 = .ok (.iload_n 1, 1) := by decide +kernel
theorem dX6_comes_9 : decode cX6_comes 9 = .ok (.iastore, 1) := by decide +kernel
theorem dX6_comes_10 : decode cX6_comes 10 = .ok (.aload_n 0, 1) := by decide +kernel
theorem dX6_comes_11 : decode cX6_comes 11 = .ok (.getfield 16, 3) := by decide +kernel
theorem dX6_comes_14 : decode cX6_comes 14 = .ok (.aload_n 0, 1) := by decide +kernel
theorem dX6_comes_15 : decode cX6_comes 15 = .ok (.getfield 101, 3) := by decide +kernel
theorem dX6_comes_18 : decode cX6_comes 18 = .ok (.iload_n 2, 1) := by decide +kernel
theorem dX6_comes_19 : decode cX6_comes 19 = .ok (.ifCond .eq 7, 3) := by decide +kernel
theorem dX6_comes_22 : decode cX6_comes 22 = .ok (.iconst 1, 1) := by decide +kernel
theorem dX6_comes_23 : decode cX6_comes 23 = .ok (.goto 4, 3) := by decide +kernel
theorem dX6_comes_26 : decode cX6_comes 26 = .ok (.iconst 0, 1) := by decide +kernel
theorem dX6_comes_27 : decode cX6_comes 27 = .ok (.iastore, 1) := by decide +kernel
theorem dX6_comes_28 : decode cX6_comes 28 = .ok (.aload_n 0, 1) := by decide +kernel
theorem dX6_comes_29 : decode cX6_comes 29 = .ok (.getfield 19, 3) := by decide +kernel
theorem dX6_comes_32 : decode cX6_comes 32 = .ok (.aload_n 0, 1) := by decide +kernel
theorem dX6_comes_33 : decode cX6_comes 33 = .ok (.getfield 101, 3) := by decide +kernel
theorem dX6_comes_36 : decode cX6_comes 36 = .ok (.iload_n 3, 1) := by decide +kernel
theorem dX6_comes_37 : decode cX6_comes 37 = .ok (.ifCond .eq 7, 3) := by decide +kernel
theorem dX6_comes_40 : decode cX6_comes 40 = .ok (.iconst 1, 1) := by decide +kernel
theorem dX6_comes_41 : decode cX6_comes 41 = .ok (.goto 4, 3) := by decide +kernel
theorem dX6_comes_44 : decode cX6_comes 44 = .ok (.iconst 0, 1) := by decide +kernel
theorem dX6_comes_45 : decode cX6_comes 45 = .ok (.iastore, 1) := by decide +kernel
theorem dX6_comes_46 : decode cX6_comes 46 = .ok (.aload_n 0, 1) := by decide +kernel
theorem dX6_comes_47 : decode cX6_comes 47 = .ok (.dup, 1) := by decide +kernel
theorem dX6_comes_48 : decode cX6_comes 48 = .ok (.getfield 101, 3) := by decide +kernel
theorem dX6_comes_51 : decode cX6_comes 51 = .ok (.iconst 1, 1) := by decide +kernel
theorem dX6_comes_52 : decode cX6_comes 52 = .ok (.iadd, 1) := by decide +kernel
theorem dX6_comes_53 : decode cX6_comes 53 = .ok (.putfield 101, 3) := by decide +kernel
theorem dX6_comes_56 : decode cX6_comes 56 = .ok (.aload_n 0, 1) := by decide +kernel
theorem dX6_comes_57 : decode cX6_comes 57 = .ok (.getfield 101, 3) := by decide +kernel
theorem dX6_comes_60 : decode cX6_comes 60 = .ok (.iconst 1, 1) := by decide +kernel
theorem dX6_comes_61 : decode cX6_comes 61 = .ok (.isub, 1) := by decide +kernel
theorem dX6_comes_62 : decode cX6_comes 62 = .ok (.ireturn, 1) := by decide +kernel
theorem dX6_thing_0 : decode cX6_thing 0 = .ok (.iload_n 1, 1) := by decide +kernel
theorem dX6_thing_1 : decode cX6_thing 1 = .ok (.iconst 0, 1) := by decide +kernel
theorem dX6_thing_2 : decode cX6_thing 2 = .ok (.iconst 5, 1) := by decide +kernel
theorem dX6_thing_3 : decode cX6_thing 3 = .ok (.invokestatic 105, 3) := by decide +kernel
theorem dX6_thing_6 : decode cX6_thing 6 = .ok (.ifCond .ne 10, 3) := by decide +kernel
theorem dX6_thing_9 : decode cX6_thing 9 = .ok (.aload_n 0, 1) := by decide +kernel
theorem dX6_thing_10 : decode cX6_thing 10 = .ok (.bipush (-2), 2) := by decide +kernel
theorem dX6_thing_12 : decode cX6_thing 12 = .ok (.invokevirtual 109, 3) := by decide +kernel
theorem dX6_thing_15 : decode cX6_thing 15 = .ok (.ireturn, 1) := by decide +kernel
theorem dX6_thing_16 : decode cX6_thing 16 = .ok (.iload_n 1, 1) := by decide +kernel
theorem dX6_thing_17 : decode cX6_thing 17 = .ok (.iconst 5, 1) := by decide +kernel
theorem dX6_thing_18 : decode cX6_thing 18 = .ok (.if_icmp .ne 17, 3) := by decide +kernel
theorem dX6_thing_21 : decode cX6_thing 21 = .ok (.aload_n 0, 1) := by decide +kernel
theorem dX6_thing_22 : decode cX6_thing 22 = .ok (.invokevirtual 113, 3) := by decide +kernel
theorem dX6_thing_25 : decode cX6_thing 25 = .ok (.ifCond .ne 10, 3) := by decide +kernel
theorem dX6_thing_28 : decode cX6_thing 28 = .ok (.aload_n 0, 1) := by decide +kernel
theorem dX6_thing_29 : decode cX6_thing 29 = .ok (.bipush (-3), 2) := by decide +kernel
theorem dX6_thing_31 : decode cX6_thing 31 = .ok (.invokevirtual 109, 3) := by decide +kernel
theorem dX6_thing_34 : decode cX6_thing 34 = .ok (.ireturn, 1) := by decide +kernel
theorem dX6_thing_35 : decode cX6_thing 35 = .ok (.aload_n 0, 1) := by decide +kernel
theorem dX6_thing_36 : decode cX6_thing 36 = .ok (.getfield 101, 3) := by decide +kernel
theorem dX6_thing_39 : decode cX6_thing 39 = .ok (.bipush 12, 2) := by decide +kernel
theorem dX6_thing_41 : decode cX6_thing 41 = .ok (.if_icmp .ne 10, 3) := by decide +kernel
theorem dX6_thing_44 : decode cX6_thing 44 = .ok (.aload_n 0, 1) := by decide +kernel
theorem dX6_thing_45 : decode cX6_thing 45 = .ok (.bipush (-6), 2) := by decide +kernel
theorem dX6_thing_47 : decode cX6_thing 47 = .ok (.invokevirtual 109, 3) := by decide +kernel
theorem dX6_thing_50 : decode cX6_thing 50 = .ok (.ireturn, 1) := by decide +kernel
theorem dX6_thing_51 : decode cX6_thing 51 = .ok (.aload_n 0, 1) := by decide +kernel
theorem dX6_thing_52 : decode cX6_thing 52 = .ok (.iload_n 1, 1) := by decide +kernel
theorem dX6_thing_53 : decode cX6_thing 53 = .ok (.iload_n 2, 1) := by decide +kernel
theorem dX6_thing_54 : decode cX6_thing 54 = .ok (.iload_n 3, 1) := by decide +kernel
theorem dX6_thing_55 : decode cX6_thing 55 = .ok (.invokevirtual 117, 3) := by decide +kernel
theorem dX6_thing_58 : decode cX6_thing 58 = .ok (.ireturn, 1) := by decide +kernel
theorem dX6_takes_0 : decode cX6_takes 0 = .ok (.iload_n 1, 1) := by decide +kernel
theorem dX6_takes_1 : decode cX6_takes 1 = .ok (.iconst 0, 1) := by decide +kernel
theorem dX6_takes_2 : decode cX6_takes 2 = .ok (.iconst 5, 1) := by decide +kernel
theorem dX6_takes_3 : decode cX6_takes 3 = .ok (.invokestatic 105, 3) := by decide +kernel
theorem dX6_takes_6 : decode cX6_takes 6 = .ok (.ifCond .ne 10, 3) := by decide +kernel
theorem dX6_takes_9 : decode cX6_takes 9 = .ok (.aload_n 0, 1) := by decide +kernel
theorem dX6_takes_10 : decode cX6_takes 10 = .ok (.bipush (-2), 2) := by decide +kernel
theorem dX6_takes_12 : decode cX6_takes 12 = .ok (.invokevirtual 109, 3) := by decide +kernel
theorem dX6_takes_15 : decode cX6_takes 15 = .ok (.ireturn, 1) := by decide +kernel
theorem dX6_takes_16 : decode cX6_takes 16 = .ok (.iload_n 2, 1) := by decide +kernel
theorem dX6_takes_17 : decode cX6_takes 17 = .ok (.iconst 0, 1) := by decide +kernel
theorem dX6_takes_18 : decode cX6_takes 18 = .ok (.iconst 4, 1) := by decide +kernel
theorem dX6_takes_19 : decode cX6_takes 19 = .ok (.invokestatic 121, 3) := by decide +kernel
theorem dX6_takes_22 : decode cX6_takes 22 = .ok (.istore 4, 2) := by decide +kernel
theorem dX6_takes_24 : decode cX6_takes 24 = .ok (.iload 4, 2) := by decide +kernel
theorem dX6_takes_26 : decode cX6_takes 26 = .ok (.ifCond .eq 10, 3) := by decide +kernel
theorem dX6_takes_29 : decode cX6_takes 29 = .ok (.aload_n 0, 1) := by decide +kernel
theorem dX6_takes_30 : decode cX6_takes 30 = .ok (.iload 4, 2) := by decide +kernel
theorem dX6_takes_32 : decode cX6_takes 32 = .ok (.invokevirtual 109, 3) := by decide +kernel
theorem dX6_takes_35 : decode cX6_takes 35 = .ok (.ireturn, 1) := by decide +kernel
theorem dX6_takes_36 : decode cX6_takes 36 = .ok (.iload_n 3, 1) := by decide +kernel
theorem dX6_takes_37 : decode cX6_takes 37 = .ok (.ifCond .eq 10, 3) := by decide +kernel
theorem dX6_takes_40 : decode cX6_takes 40 = .ok (.bipush 6, 2) := by decide +kernel
theorem dX6_takes_42 : decode cX6_takes 42 = .ok (.iload_n 1, 1) := by decide +kernel
theorem dX6_takes_43 : decode cX6_takes 43 = .ok (.iadd, 1) := by decide +kernel
theorem dX6_takes_44 : decode cX6_takes 44 = .ok (.goto 4, 3) := by decide +kernel
theorem dX6_takes_47 : decode cX6_takes 47 = .ok (.iload_n 1, 1) := by decide +kernel
theorem dX6_takes_48 : decode cX6_takes 48 = .ok (.istore 5, 2) := by decide +kernel
theorem dX6_takes_50 : decode cX6_takes 50 = .ok (.aload_n 0, 1) := by decide +kernel
theorem dX6_takes_51 : decode cX6_takes 51 = .ok (.getfield 22, 3) := by decide +kernel
theorem dX6_takes_54 : decode cX6_takes 54 = .ok (.iload 5, 2) := by decide +kernel
theorem dX6_takes_56 : decode cX6_takes 56 = .ok (.iaload, 1) := by decide +kernel
theorem dX6_takes_57 : decode cX6_takes 57 = .ok (.istore 6, 2) := by decide +kernel
theorem dX6_takes_59 : decode cX6_takes 59 = .ok (.aload_n 0, 1) := by decide +kernel
theorem dX6_takes_60 : decode cX6_takes 60 = .ok (.getfield 22, 3) := by decide +kernel
theorem dX6_takes_63 : decode cX6_takes 63 = .ok (.iload 5, 2) := by decide +kernel
theorem dX6_takes_65 : decode cX6_takes 65 = .ok (.iload_n 2, 1) := by decide +kernel
theorem dX6_takes_66 : decode cX6_takes 66 = .ok (.iastore, 1) := by decide +kernel
theorem dX6_takes_67 : decode cX6_takes 67 = .ok (.iload 6, 2) := by decide +kernel
theorem dX6_takes_69 : decode cX6_takes 69 = .ok (.ireturn, 1) := by decide +kernel
theorem dX6_law_0 : decode cX6_law 0 = .ok (.iload_n 1, 1) := by decide +kernel
theorem dX6_law_1 : decode cX6_law 1 = .ok (.iconst 0, 1) := by decide +kernel
theorem dX6_law_2 : decode cX6_law 2 = .ok (.iconst 2, 1) := by decide +kernel
theorem dX6_law_3 : decode cX6_law 3 = .ok (.invokestatic 105, 3) := by decide +kernel
theorem dX6_law_6 : decode cX6_law 6 = .ok (.ifCond .ne 10, 3) := by decide +kernel
theorem dX6_law_9 : decode cX6_law 9 = .ok (.aload_n 0, 1) := by decide +kernel
theorem dX6_law_10 : decode cX6_law 10 = .ok (.bipush (-2), 2) := by decide +kernel
theorem dX6_law_12 : decode cX6_law 12 = .ok (.invokevirtual 109, 3) := by decide +kernel
theorem dX6_law_15 : decode cX6_law 15 = .ok (.ireturn, 1) := by decide +kernel
theorem dX6_law_16 : decode cX6_law 16 = .ok (.iload_n 2, 1) := by decide +kernel
theorem dX6_law_17 : decode cX6_law 17 = .ok (.iconst 0, 1) := by decide +kernel
theorem dX6_law_18 : decode cX6_law 18 = .ok (.iload_n 1, 1) := by decide +kernel
theorem dX6_law_19 : decode cX6_law 19 = .ok (.ifCond .ne 7, 3) := by decide +kernel
theorem dX6_law_22 : decode cX6_law 22 = .ok (.iconst 1, 1) := by decide +kernel
theorem dX6_law_23 : decode cX6_law 23 = .ok (.goto 4, 3) := by decide +kernel
theorem dX6_law_26 : decode cX6_law 26 = .ok (.iconst 3, 1) := by decide +kernel
theorem dX6_law_27 : decode cX6_law 27 = .ok (.invokestatic 121, 3) := by decide +kernel
theorem dX6_law_30 : decode cX6_law 30 = .ok (.istore_n 3, 1) := by decide +kernel
theorem dX6_law_31 : decode cX6_law 31 = .ok (.iload_n 3, 1) := by decide +kernel
theorem dX6_law_32 : decode cX6_law 32 = .ok (.ifCond .eq 9, 3) := by decide +kernel
theorem dX6_law_35 : decode cX6_law 35 = .ok (.aload_n 0, 1) := by decide +kernel
theorem dX6_law_36 : decode cX6_law 36 = .ok (.iload_n 3, 1) := by decide +kernel
theorem dX6_law_37 : decode cX6_law 37 = .ok (.invokevirtual 109, 3) := by decide +kernel
theorem dX6_law_40 : decode cX6_law 40 = .ok (.ireturn, 1) := by decide +kernel
theorem dX6_law_41 : decode cX6_law 41 = .ok (.aload_n 0, 1) := by decide +kernel
theorem dX6_law_42 : decode cX6_law 42 = .ok (.getfield 25, 3) := by decide +kernel
theorem dX6_law_45 : decode cX6_law 45 = .ok (.iload_n 1, 1) := by decide +kernel
theorem dX6_law_46 : decode cX6_law 46 = .ok (.iaload, 1) := by decide +kernel
theorem dX6_law_47 : decode cX6_law 47 = .ok (.istore 4, 2) := by decide +kernel
theorem dX6_law_49 : decode cX6_law 49 = .ok (.aload_n 0, 1) := by decide +kernel
theorem dX6_law_50 : decode cX6_law 50 = .ok (.getfield 25, 3) := by decide +kernel
theorem dX6_law_53 : decode cX6_law 53 = .ok (.iload_n 1, 1) := by decide +kernel
theorem dX6_law_54 : decode cX6_law 54 = .ok (.iload_n 2, 1) := by decide +kernel
theorem dX6_law_55 : decode cX6_law 55 = .ok (.iastore, 1) := by decide +kernel
theorem dX6_law_56 : decode cX6_law 56 = .ok (.iload 4, 2) := by decide +kernel
theorem dX6_law_58 : decode cX6_law 58 = .ok (.ireturn, 1) := by decide +kernel
theorem dX6_isOfTwo_0 : decode cX6_isOfTwo 0 = .ok (.iload_n 0, 1) := by decide +kernel
theorem dX6_isOfTwo_1 : decode cX6_isOfTwo 1 = .ok (.iconst 5, 1) := by decide +kernel
theorem dX6_isOfTwo_2 : decode cX6_isOfTwo 2 = .ok (.if_icmp .ge 7, 3) := by decide +kernel
theorem dX6_isOfTwo_5 : decode cX6_isOfTwo 5 = .ok (.iconst 1, 1) := by decide +kernel
theorem dX6_isOfTwo_6 : decode cX6_isOfTwo 6 = .ok (.goto 4, 3) := by decide +kernel
theorem dX6_isOfTwo_9 : decode cX6_isOfTwo 9 = .ok (.iconst 0, 1) := by decide +kernel
theorem dX6_isOfTwo_10 : decode cX6_isOfTwo 10 = .ok (.ireturn, 1) := by decide +kernel
theorem dX6_happens_0 : decode cX6_happens 0 = .ok (.aload_n 0, 1) := by decide +kernel
theorem dX6_happens_1 : decode cX6_happens 1 = .ok (.getfield 28, 3) := by decide +kernel
theorem dX6_happens_4 : decode cX6_happens 4 = .ok (.aload_n 0, 1) := by decide +kernel
theorem dX6_happens_5 : decode cX6_happens 5 = .ok (.getfield 125, 3) := by decide +kernel
theorem dX6_happens_8 : decode cX6_happens 8 = .ok (.iload_n 1, 1) := by decide +kernel
theorem dX6_happens_9 : decode cX6_happens 9 = .ok (.iastore, 1) := by decide +kernel
theorem dX6_happens_10 : decode cX6_happens 10 = .ok (.aload_n 0, 1) := by decide +kernel
theorem dX6_happens_11 : decode cX6_happens 11 = .ok (.getfield 31, 3) := by decide +kernel
theorem dX6_happens_14 : decode cX6_happens 14 = .ok (.aload_n 0, 1) := by decide +kernel
theorem dX6_happens_15 : decode cX6_happens 15 = .ok (.getfield 125, 3) := by decide +kernel
theorem dX6_happens_18 : decode cX6_happens 18 = .ok (.iload_n 2, 1) := by decide +kernel
theorem dX6_happens_19 : decode cX6_happens 19 = .ok (.iastore, 1) := by decide +kernel
theorem dX6_happens_20 : decode cX6_happens 20 = .ok (.aload_n 0, 1) := by decide +kernel
theorem dX6_happens_21 : decode cX6_happens 21 = .ok (.getfield 34, 3) := by decide +kernel
theorem dX6_happens_24 : decode cX6_happens 24 = .ok (.aload_n 0, 1) := by decide +kernel
theorem dX6_happens_25 : decode cX6_happens 25 = .ok (.getfield 125, 3) := by decide +kernel
theorem dX6_happens_28 : decode cX6_happens 28 = .ok (.iload_n 3, 1) := by decide +kernel
theorem dX6_happens_29 : decode cX6_happens 29 = .ok (.iastore, 1) := by decide +kernel
theorem dX6_happens_30 : decode cX6_happens 30 = .ok (.aload_n 0, 1) := by decide +kernel
theorem dX6_happens_31 : decode cX6_happens 31 = .ok (.getfield 37, 3) := by decide +kernel
theorem dX6_happens_34 : decode cX6_happens 34 = .ok (.aload_n 0, 1) := by decide +kernel
theorem dX6_happens_35 : decode cX6_happens 35 = .ok (.getfield 125, 3) := by decide +kernel
theorem dX6_happens_38 : decode cX6_happens 38 = .ok (.iload_n 2, 1) := by decide +kernel
theorem dX6_happens_39 : decode cX6_happens 39 = .ok (.invokestatic 128, 3) := by decide +kernel
theorem dX6_happens_42 : decode cX6_happens 42 = .ok (.ifCond .ne 9, 3) := by decide +kernel
theorem dX6_happens_45 : decode cX6_happens 45 = .ok (.iload_n 2, 1) := by decide +kernel
theorem dX6_happens_46 : decode cX6_happens 46 = .ok (.bipush 9, 2) := by decide +kernel
theorem dX6_happens_48 : decode cX6_happens 48 = .ok (.if_icmp .ne 8, 3) := by decide +kernel
theorem dX6_happens_51 : decode cX6_happens 51 = .ok (.iload 4, 2) := by decide +kernel
theorem dX6_happens_53 : decode cX6_happens 53 = .ok (.goto 5, 3) := by decide +kernel
theorem dX6_happens_56 : decode cX6_happens 56 = .ok (.bipush (-9), 2) := by decide +kernel
theorem dX6_happens_58 : decode cX6_happens 58 = .ok (.iastore, 1) := by decide +kernel
theorem dX6_happens_59 : decode cX6_happens 59 = .ok (.aload_n 0, 1) := by decide +kernel
theorem dX6_happens_60 : decode cX6_happens 60 = .ok (.getfield 40, 3) := by decide +kernel
theorem dX6_happens_63 : decode cX6_happens 63 = .ok (.aload_n 0, 1) := by decide +kernel
theorem dX6_happens_64 : decode cX6_happens 64 = .ok (.getfield 125, 3) := by decide +kernel
theorem dX6_happens_67 : decode cX6_happens 67 = .ok (.iload 5, 2) := by decide +kernel
theorem dX6_happens_69 : decode cX6_happens 69 = .ok (.iastore, 1) := by decide +kernel
theorem dX6_happens_70 : decode cX6_happens 70 = .ok (.aload_n 0, 1) := by decide +kernel
theorem dX6_happens_71 : decode cX6_happens 71 = .ok (.dup, 1) := by decide +kernel
theorem dX6_happens_72 : decode cX6_happens 72 = .ok (.getfield 125, 3) := by decide +kernel
theorem dX6_happens_75 : decode cX6_happens 75 = .ok (.iconst 1, 1) := by decide +kernel
theorem dX6_happens_76 : decode cX6_happens 76 = .ok (.iadd, 1) := by decide +kernel
theorem dX6_happens_77 : decode cX6_happens 77 = .ok (.putfield 125, 3) := by decide +kernel
theorem dX6_happens_80 : decode cX6_happens 80 = .ok (.aload_n 0, 1) := by decide +kernel
theorem dX6_happens_81 : decode cX6_happens 81 = .ok (.getfield 125, 3) := by decide +kernel
theorem dX6_happens_84 : decode cX6_happens 84 = .ok (.iconst 1, 1) := by decide +kernel
theorem dX6_happens_85 : decode cX6_happens 85 = .ok (.isub, 1) := by decide +kernel
theorem dX6_happens_86 : decode cX6_happens 86 = .ok (.ireturn, 1) := by decide +kernel
theorem dX6_event_0 : decode cX6_event 0 = .ok (.iload_n 2, 1) := by decide +kernel
theorem dX6_event_1 : decode cX6_event 1 = .ok (.iconst 0, 1) := by decide +kernel
theorem dX6_event_2 : decode cX6_event 2 = .ok (.bipush 9, 2) := by decide +kernel
theorem dX6_event_4 : decode cX6_event 4 = .ok (.invokestatic 105, 3) := by decide +kernel
theorem dX6_event_7 : decode cX6_event 7 = .ok (.ifCond .ne 10, 3) := by decide +kernel
theorem dX6_event_10 : decode cX6_event 10 = .ok (.aload_n 0, 1) := by decide +kernel
theorem dX6_event_11 : decode cX6_event 11 = .ok (.bipush (-2), 2) := by decide +kernel
theorem dX6_event_13 : decode cX6_event 13 = .ok (.invokevirtual 109, 3) := by decide +kernel
theorem dX6_event_16 : decode cX6_event 16 = .ok (.ireturn, 1) := by decide +kernel
theorem dX6_event_17 : decode cX6_event 17 = .ok (.aload_n 0, 1) := by decide +kernel
theorem dX6_event_18 : decode cX6_event 18 = .ok (.iload_n 3, 1) := by decide +kernel
theorem dX6_event_19 : decode cX6_event 19 = .ok (.invokevirtual 132, 3) := by decide +kernel
theorem dX6_event_22 : decode cX6_event 22 = .ok (.ifCond .eq 25, 3) := by decide +kernel
theorem dX6_event_25 : decode cX6_event 25 = .ok (.iload_n 2, 1) := by decide +kernel
theorem dX6_event_26 : decode cX6_event 26 = .ok (.invokestatic 128, 3) := by decide +kernel
theorem dX6_event_29 : decode cX6_event 29 = .ok (.ifCond .eq 24, 3) := by decide +kernel
theorem dX6_event_32 : decode cX6_event 32 = .ok (.aload_n 0, 1) := by decide +kernel
theorem dX6_event_33 : decode cX6_event 33 = .ok (.iload 4, 2) := by decide +kernel
theorem dX6_event_35 : decode cX6_event 35 = .ok (.invokevirtual 132, 3) := by decide +kernel
theorem dX6_event_38 : decode cX6_event 38 = .ok (.ifCond .eq 9, 3) := by decide +kernel
theorem dX6_event_41 : decode cX6_event 41 = .ok (.iload_n 3, 1) := by decide +kernel
theorem dX6_event_42 : decode cX6_event 42 = .ok (.iload 4, 2) := by decide +kernel
theorem dX6_event_44 : decode cX6_event 44 = .ok (.if_icmp .ne 9, 3) := by decide +kernel
theorem dX6_event_47 : decode cX6_event 47 = .ok (.aload_n 0, 1) := by decide +kernel
theorem dX6_event_48 : decode cX6_event 48 = .ok (.iconst (-1), 1) := by decide +kernel
theorem dX6_event_49 : decode cX6_event 49 = .ok (.invokevirtual 109, 3) := by decide +kernel
theorem dX6_event_52 : decode cX6_event 52 = .ok (.ireturn, 1) := by decide +kernel
theorem dX6_event_53 : decode cX6_event 53 = .ok (.iload_n 1, 1) := by decide +kernel
theorem dX6_event_54 : decode cX6_event 54 = .ok (.ifCond .lt 21, 3) := by decide +kernel
theorem dX6_event_57 : decode cX6_event 57 = .ok (.iload_n 2, 1) := by decide +kernel
theorem dX6_event_58 : decode cX6_event 58 = .ok (.bipush 9, 2) := by decide +kernel
theorem dX6_event_60 : decode cX6_event 60 = .ok (.if_icmp .ne 9, 3) := by decide +kernel
theorem dX6_event_63 : decode cX6_event 63 = .ok (.iload 4, 2) := by decide +kernel
theorem dX6_event_65 : decode cX6_event 65 = .ok (.iconst 1, 1) := by decide +kernel
theorem dX6_event_66 : decode cX6_event 66 = .ok (.if_icmp .lt 9, 3) := by decide +kernel
theorem dX6_event_69 : decode cX6_event 69 = .ok (.iload 5, 2) := by decide +kernel
theorem dX6_event_71 : decode cX6_event 71 = .ok (.iconst (-1), 1) := by decide +kernel
theorem dX6_event_72 : decode cX6_event 72 = .ok (.if_icmp .ge 8, 3) := by decide +kernel
theorem dX6_event_75 : decode cX6_event 75 = .ok (.bipush (-4), 2) := by decide +kernel
theorem dX6_event_77 : decode cX6_event 77 = .ok (.goto 55, 3) := by decide +kernel
theorem dX6_event_80 : decode cX6_event 80 = .ok (.iload_n 1, 1) := by decide +kernel
theorem dX6_event_81 : decode cX6_event 81 = .ok (.bipush 47, 2) := by decide +kernel
theorem dX6_event_83 : decode cX6_event 83 = .ok (.if_icmp .gt 43, 3) := by decide +kernel
theorem dX6_event_86 : decode cX6_event 86 = .ok (.iload_n 2, 1) := by decide +kernel
theorem dX6_event_87 : decode cX6_event 87 = .ok (.bipush 9, 2) := by decide +kernel
theorem dX6_event_89 : decode cX6_event 89 = .ok (.if_icmp .ne 9, 3) := by decide +kernel
theorem dX6_event_92 : decode cX6_event 92 = .ok (.iload 4, 2) := by decide +kernel
theorem dX6_event_94 : decode cX6_event 94 = .ok (.iconst 4, 1) := by decide +kernel
theorem dX6_event_95 : decode cX6_event 95 = .ok (.if_icmp .gt 31, 3) := by decide +kernel
theorem dX6_event_98 : decode cX6_event 98 = .ok (.iload 5, 2) := by decide +kernel
theorem dX6_event_100 : decode cX6_event 100 = .ok (.bipush 6, 2) := by decide +kernel
theorem dX6_event_102 : decode cX6_event 102 = .ok (.bipush 9, 2) := by decide +kernel
theorem dX6_event_104 : decode cX6_event 104 = .ok (.invokestatic 105, 3) := by decide +kernel
theorem dX6_event_107 : decode cX6_event 107 = .ok (.ifCond .ne 19, 3) := by decide +kernel
theorem dX6_event_110 : decode cX6_event 110 = .ok (.iload 5, 2) := by decide +kernel
theorem dX6_event_112 : decode cX6_event 112 = .ok (.bipush 15, 2) := by decide +kernel
theorem dX6_event_114 : decode cX6_event 114 = .ok (.if_icmp .gt 12, 3) := by decide +kernel
theorem dX6_event_117 : decode cX6_event 117 = .ok (.aload_n 0, 1) := by decide +kernel
theorem dX6_event_118 : decode cX6_event 118 = .ok (.getfield 125, 3) := by decide +kernel
theorem dX6_event_121 : decode cX6_event 121 = .ok (.bipush 60, 2) := by decide +kernel
theorem dX6_event_123 : decode cX6_event 123 = .ok (.if_icmp .ne 8, 3) := by decide +kernel
theorem dX6_event_126 : decode cX6_event 126 = .ok (.bipush (-6), 2) := by decide +kernel
theorem dX6_event_128 : decode cX6_event 128 = .ok (.goto 4, 3) := by decide +kernel
theorem dX6_event_131 : decode cX6_event 131 = .ok (.iconst 0, 1) := by decide +kernel
theorem dX6_event_132 : decode cX6_event 132 = .ok (.istore 6, 2) := by decide +kernel
theorem dX6_event_134 : decode cX6_event 134 = .ok (.iload 6, 2) := by decide +kernel
theorem dX6_event_136 : decode cX6_event 136 = .ok (.ifCond .eq 12, 3) := by decide +kernel
theorem dX6_event_139 : decode cX6_event 139 = .ok (.aload_n 0, 1) := by decide +kernel
theorem dX6_event_140 : decode cX6_event 140 = .ok (.iload 6, 2) := by decide +kernel
theorem dX6_event_142 : decode cX6_event 142 = .ok (.invokevirtual 109, 3) := by decide +kernel
theorem dX6_event_145 : decode cX6_event 145 = .ok (.goto 14, 3) := by decide +kernel
theorem dX6_event_148 : decode cX6_event 148 = .ok (.aload_n 0, 1) := by decide +kernel
theorem dX6_event_149 : decode cX6_event 149 = .ok (.iload_n 1, 1) := by decide +kernel
theorem dX6_event_150 : decode cX6_event 150 = .ok (.iload_n 2, 1) := by decide +kernel
theorem dX6_event_151 : decode cX6_event 151 = .ok (.iload_n 3, 1) := by decide +kernel
theorem dX6_event_152 : decode cX6_event 152 = .ok (.iload 4, 2) := by decide +kernel
theorem dX6_event_154 : decode cX6_event 154 = .ok (.iload 5, 2) := by decide +kernel
theorem dX6_event_156 : decode cX6_event 156 = .ok (.invokevirtual 135, 3) := by decide +kernel
theorem dX6_event_159 : decode cX6_event 159 = .ok (.ireturn, 1) := by decide +kernel
theorem dX6_of_0 : decode cX6_of 0 = .ok (.iload_n 1, 1) := by decide +kernel
theorem dX6_of_1 : decode cX6_of 1 = .ok (.iconst 0, 1) := by decide +kernel
theorem dX6_of_2 : decode cX6_of 2 = .ok (.aload_n 0, 1) := by decide +kernel
theorem dX6_of_3 : decode cX6_of 3 = .ok (.getfield 125, 3) := by decide +kernel
theorem dX6_of_6 : decode cX6_of 6 = .ok (.iconst 1, 1) := by decide +kernel
theorem dX6_of_7 : decode cX6_of 7 = .ok (.isub, 1) := by decide +kernel
theorem dX6_of_8 : decode cX6_of 8 = .ok (.invokestatic 105, 3) := by decide +kernel
theorem dX6_of_11 : decode cX6_of 11 = .ok (.ifCond .ne 9, 3) := by decide +kernel
theorem dX6_of_14 : decode cX6_of 14 = .ok (.aload_n 0, 1) := by decide +kernel
theorem dX6_of_15 : decode cX6_of 15 = .ok (.iconst (-1), 1) := by decide +kernel
theorem dX6_of_16 : decode cX6_of 16 = .ok (.invokevirtual 109, 3) := by decide +kernel
theorem dX6_of_19 : decode cX6_of 19 = .ok (.ireturn, 1) := by decide +kernel
theorem dX6_of_20 : decode cX6_of 20 = .ok (.iload_n 2, 1) := by decide +kernel
theorem dX6_of_21 : decode cX6_of 21 = .ok (.tableswitch 70 0 4 #[35, 42, 49, 56, 63], 35) := by decide +kernel
theorem dX6_of_56 : decode cX6_of 56 = .ok (.aload_n 0, 1) := by decide +kernel
theorem dX6_of_57 : decode cX6_of 57 = .ok (.getfield 28, 3) := by decide +kernel
theorem dX6_of_60 : decode cX6_of 60 = .ok (.iload_n 1, 1) := by decide +kernel
theorem dX6_of_61 : decode cX6_of 61 = .ok (.iaload, 1) := by decide +kernel
theorem dX6_of_62 : decode cX6_of 62 = .ok (.ireturn, 1) := by decide +kernel
theorem dX6_of_63 : decode cX6_of 63 = .ok (.aload_n 0, 1) := by decide +kernel
theorem dX6_of_64 : decode cX6_of 64 = .ok (.getfield 31, 3) := by decide +kernel
theorem dX6_of_67 : decode cX6_of 67 = .ok (.iload_n 1, 1) := by decide +kernel
theorem dX6_of_68 : decode cX6_of 68 = .ok (.iaload, 1) := by decide +kernel
theorem dX6_of_69 : decode cX6_of 69 = .ok (.ireturn, 1) := by decide +kernel
theorem dX6_of_70 : decode cX6_of 70 = .ok (.aload_n 0, 1) := by decide +kernel
theorem dX6_of_71 : decode cX6_of 71 = .ok (.getfield 34, 3) := by decide +kernel
theorem dX6_of_74 : decode cX6_of 74 = .ok (.iload_n 1, 1) := by decide +kernel
theorem dX6_of_75 : decode cX6_of 75 = .ok (.iaload, 1) := by decide +kernel
theorem dX6_of_76 : decode cX6_of 76 = .ok (.ireturn, 1) := by decide +kernel
theorem dX6_of_77 : decode cX6_of 77 = .ok (.aload_n 0, 1) := by decide +kernel
theorem dX6_of_78 : decode cX6_of 78 = .ok (.getfield 37, 3) := by decide +kernel
theorem dX6_of_81 : decode cX6_of 81 = .ok (.iload_n 1, 1) := by decide +kernel
theorem dX6_of_82 : decode cX6_of 82 = .ok (.iaload, 1) := by decide +kernel
theorem dX6_of_83 : decode cX6_of 83 = .ok (.ireturn, 1) := by decide +kernel
theorem dX6_of_84 : decode cX6_of 84 = .ok (.aload_n 0, 1) := by decide +kernel
theorem dX6_of_85 : decode cX6_of 85 = .ok (.getfield 40, 3) := by decide +kernel
theorem dX6_of_88 : decode cX6_of 88 = .ok (.iload_n 1, 1) := by decide +kernel
theorem dX6_of_89 : decode cX6_of 89 = .ok (.iaload, 1) := by decide +kernel
theorem dX6_of_90 : decode cX6_of 90 = .ok (.ireturn, 1) := by decide +kernel
theorem dX6_of_91 : decode cX6_of 91 = .ok (.aload_n 0, 1) := by decide +kernel
theorem dX6_of_92 : decode cX6_of 92 = .ok (.bipush (-2), 2) := by decide +kernel
theorem dX6_of_94 : decode cX6_of 94 = .ok (.invokevirtual 109, 3) := by decide +kernel
theorem dX6_of_97 : decode cX6_of 97 = .ok (.ireturn, 1) := by decide +kernel
theorem dX6_takeBack_0 : decode cX6_takeBack 0 = .ok (.aload_n 0, 1) := by decide +kernel
theorem dX6_takeBack_1 : decode cX6_takeBack 1 = .ok (.getfield 125, 3) := by decide +kernel
theorem dX6_takeBack_4 : decode cX6_takeBack 4 = .ok (.ifCond .ne 10, 3) := by decide +kernel
theorem dX6_takeBack_7 : decode cX6_takeBack 7 = .ok (.aload_n 0, 1) := by decide +kernel
theorem dX6_takeBack_8 : decode cX6_takeBack 8 = .ok (.bipush (-3), 2) := by decide +kernel
theorem dX6_takeBack_10 : decode cX6_takeBack 10 = .ok (.invokevirtual 109, 3) := by decide +kernel
theorem dX6_takeBack_13 : decode cX6_takeBack 13 = .ok (.ireturn, 1) := by decide +kernel
theorem dX6_takeBack_14 : decode cX6_takeBack 14 = .ok (.aload_n 0, 1) := by decide +kernel
theorem dX6_takeBack_15 : decode cX6_takeBack 15 = .ok (.dup, 1) := by decide +kernel
theorem dX6_takeBack_16 : decode cX6_takeBack 16 = .ok (.getfield 125, 3) := by decide +kernel
theorem dX6_takeBack_19 : decode cX6_takeBack 19 = .ok (.iconst 1, 1) := by decide +kernel
theorem dX6_takeBack_20 : decode cX6_takeBack 20 = .ok (.isub, 1) := by decide +kernel
theorem dX6_takeBack_21 : decode cX6_takeBack 21 = .ok (.putfield 125, 3) := by decide +kernel
theorem dX6_takeBack_24 : decode cX6_takeBack 24 = .ok (.aload_n 0, 1) := by decide +kernel
theorem dX6_takeBack_25 : decode cX6_takeBack 25 = .ok (.getfield 125, 3) := by decide +kernel
theorem dX6_takeBack_28 : decode cX6_takeBack 28 = .ok (.ireturn, 1) := by decide +kernel
theorem dX6_feed_0 : decode cX6_feed 0 = .ok (.iload_n 1, 1) := by decide +kernel
theorem dX6_feed_1 : decode cX6_feed 1 = .ok (.iconst 1, 1) := by decide +kernel
theorem dX6_feed_2 : decode cX6_feed 2 = .ok (.bipush 8, 2) := by decide +kernel
theorem dX6_feed_4 : decode cX6_feed 4 = .ok (.invokestatic 121, 3) := by decide +kernel
theorem dX6_feed_7 : decode cX6_feed 7 = .ok (.istore 4, 2) := by decide +kernel
theorem dX6_feed_9 : decode cX6_feed 9 = .ok (.iload 4, 2) := by decide +kernel
theorem dX6_feed_11 : decode cX6_feed 11 = .ok (.ifCond .ne 18, 3) := by decide +kernel
theorem dX6_feed_14 : decode cX6_feed 14 = .ok (.aload_n 0, 1) := by decide +kernel
theorem dX6_feed_15 : decode cX6_feed 15 = .ok (.getfield 139, 3) := by decide +kernel
theorem dX6_feed_18 : decode cX6_feed 18 = .ok (.iload_n 1, 1) := by decide +kernel
theorem dX6_feed_19 : decode cX6_feed 19 = .ok (.iadd, 1) := by decide +kernel
theorem dX6_feed_20 : decode cX6_feed 20 = .ok (.bipush 80, 2) := by decide +kernel
theorem dX6_feed_22 : decode cX6_feed 22 = .ok (.if_icmp .le 7, 3) := by decide +kernel
theorem dX6_feed_25 : decode cX6_feed 25 = .ok (.bipush (-6), 2) := by decide +kernel
theorem dX6_feed_27 : decode cX6_feed 27 = .ok (.istore 4, 2) := by decide +kernel
theorem dX6_feed_29 : decode cX6_feed 29 = .ok (.iload 4, 2) := by decide +kernel
theorem dX6_feed_31 : decode cX6_feed 31 = .ok (.ifCond .eq 10, 3) := by decide +kernel
theorem dX6_feed_34 : decode cX6_feed 34 = .ok (.aload_n 0, 1) := by decide +kernel
theorem dX6_feed_35 : decode cX6_feed 35 = .ok (.iload 4, 2) := by decide +kernel
theorem dX6_feed_37 : decode cX6_feed 37 = .ok (.invokevirtual 109, 3) := by decide +kernel
theorem dX6_feed_40 : decode cX6_feed 40 = .ok (.ireturn, 1) := by decide +kernel
theorem dX6_feed_41 : decode cX6_feed 41 = .ok (.iconst 0, 1) := by decide +kernel
theorem dX6_feed_42 : decode cX6_feed 42 = .ok (.istore 5, 2) := by decide +kernel
theorem dX6_feed_44 : decode cX6_feed 44 = .ok (.iload 5, 2) := by decide +kernel
theorem dX6_feed_46 : decode cX6_feed 46 = .ok (.iload_n 1, 1) := by decide +kernel
theorem dX6_feed_47 : decode cX6_feed 47 = .ok (.if_icmp .ge 40, 3) := by decide +kernel
theorem dX6_feed_50 : decode cX6_feed 50 = .ok (.aload_n 0, 1) := by decide +kernel
theorem dX6_feed_51 : decode cX6_feed 51 = .ok (.getfield 43, 3) := by decide +kernel
theorem dX6_feed_54 : decode cX6_feed 54 = .ok (.aload_n 0, 1) := by decide +kernel
theorem dX6_feed_55 : decode cX6_feed 55 = .ok (.getfield 139, 3) := by decide +kernel
theorem dX6_feed_58 : decode cX6_feed 58 = .ok (.lload_n 2, 1) := by decide +kernel
theorem dX6_feed_59 : decode cX6_feed 59 = .ok (.bipush 8, 2) := by decide +kernel
theorem dX6_feed_61 : decode cX6_feed 61 = .ok (.iload 5, 2) := by decide +kernel
theorem dX6_feed_63 : decode cX6_feed 63 = .ok (.imul, 1) := by decide +kernel
theorem dX6_feed_64 : decode cX6_feed 64 = .ok (.lshr, 1) := by decide +kernel
theorem dX6_feed_65 : decode cX6_feed 65 = .ok (.ldc2_w 142, 3) := by decide +kernel
theorem dX6_feed_68 : decode cX6_feed 68 = .ok (.land, 1) := by decide +kernel
theorem dX6_feed_69 : decode cX6_feed 69 = .ok (.l2i, 1) := by decide +kernel
theorem dX6_feed_70 : decode cX6_feed 70 = .ok (.iastore, 1) := by decide +kernel
theorem dX6_feed_71 : decode cX6_feed 71 = .ok (.aload_n 0, 1) := by decide +kernel
theorem dX6_feed_72 : decode cX6_feed 72 = .ok (.dup, 1) := by decide +kernel
theorem dX6_feed_73 : decode cX6_feed 73 = .ok (.getfield 139, 3) := by decide +kernel
theorem dX6_feed_76 : decode cX6_feed 76 = .ok (.iconst 1, 1) := by decide +kernel
theorem dX6_feed_77 : decode cX6_feed 77 = .ok (.iadd, 1) := by decide +kernel
theorem dX6_feed_78 : decode cX6_feed 78 = .ok (.putfield 139, 3) := by decide +kernel
theorem dX6_feed_81 : decode cX6_feed 81 = .ok (.iinc 5 1, 3) := by decide +kernel
theorem dX6_feed_84 : decode cX6_feed 84 = .ok (.goto (-40), 3) := by decide +kernel
theorem dX6_feed_87 : decode cX6_feed 87 = .ok (.aload_n 0, 1) := by decide +kernel
theorem dX6_feed_88 : decode cX6_feed 88 = .ok (.getfield 139, 3) := by decide +kernel
theorem dX6_feed_91 : decode cX6_feed 91 = .ok (.ireturn, 1) := by decide +kernel
theorem dX6_sign_0 : decode cX6_sign 0 = .ok (.aload_n 0, 1) := by decide +kernel
theorem dX6_sign_1 : decode cX6_sign 1 = .ok (.getfield 144, 3) := by decide +kernel
theorem dX6_sign_4 : decode cX6_sign 4 = .ok (.aload_n 0, 1) := by decide +kernel
theorem dX6_sign_5 : decode cX6_sign 5 = .ok (.getfield 139, 3) := by decide +kernel
theorem dX6_sign_8 : decode cX6_sign 8 = .ok (.if_icmp .ge 15, 3) := by decide +kernel
theorem dX6_sign_11 : decode cX6_sign 11 = .ok (.aload_n 0, 1) := by decide +kernel
theorem dX6_sign_12 : decode cX6_sign 12 = .ok (.getfield 43, 3) := by decide +kernel
theorem dX6_sign_15 : decode cX6_sign 15 = .ok (.aload_n 0, 1) := by decide +kernel
theorem dX6_sign_16 : decode cX6_sign 16 = .ok (.getfield 144, 3) := by decide +kernel
theorem dX6_sign_19 : decode cX6_sign 19 = .ok (.iaload, 1) := by decide +kernel
theorem dX6_sign_20 : decode cX6_sign 20 = .ok (.goto 4, 3) := by decide +kernel
theorem dX6_sign_23 : decode cX6_sign 23 = .ok (.iconst (-1), 1) := by decide +kernel
theorem dX6_sign_24 : decode cX6_sign 24 = .ok (.ireturn, 1) := by decide +kernel
theorem dX6_takesSign_0 : decode cX6_takesSign 0 = .ok (.aload_n 0, 1) := by decide +kernel
theorem dX6_takesSign_1 : decode cX6_takesSign 1 = .ok (.invokevirtual 147, 3) := by decide +kernel
theorem dX6_takesSign_4 : decode cX6_takesSign 4 = .ok (.iload_n 1, 1) := by decide +kernel
theorem dX6_takesSign_5 : decode cX6_takesSign 5 = .ok (.if_icmp .eq 5, 3) := by decide +kernel
theorem dX6_takesSign_8 : decode cX6_takesSign 8 = .ok (.iconst 0, 1) := by decide +kernel
theorem dX6_takesSign_9 : decode cX6_takesSign 9 = .ok (.ireturn, 1) := by decide +kernel
theorem dX6_takesSign_10 : decode cX6_takesSign 10 = .ok (.aload_n 0, 1) := by decide +kernel
theorem dX6_takesSign_11 : decode cX6_takesSign 11 = .ok (.dup, 1) := by decide +kernel
theorem dX6_takesSign_12 : decode cX6_takesSign 12 = .ok (.getfield 144, 3) := by decide +kernel
theorem dX6_takesSign_15 : decode cX6_takesSign 15 = .ok (.iconst 1, 1) := by decide +kernel
theorem dX6_takesSign_16 : decode cX6_takesSign 16 = .ok (.iadd, 1) := by decide +kernel
theorem dX6_takesSign_17 : decode cX6_takesSign 17 = .ok (.putfield 144, 3) := by decide +kernel
theorem dX6_takesSign_20 : decode cX6_takesSign 20 = .ok (.iconst 1, 1) := by decide +kernel
theorem dX6_takesSign_21 : decode cX6_takesSign 21 = .ok (.ireturn, 1) := by decide +kernel
theorem dX6_digit_0 : decode cX6_digit 0 = .ok (.aload_n 0, 1) := by decide +kernel
theorem dX6_digit_1 : decode cX6_digit 1 = .ok (.invokevirtual 147, 3) := by decide +kernel
theorem dX6_digit_4 : decode cX6_digit 4 = .ok (.bipush 48, 2) := by decide +kernel
theorem dX6_digit_6 : decode cX6_digit 6 = .ok (.isub, 1) := by decide +kernel
theorem dX6_digit_7 : decode cX6_digit 7 = .ok (.istore_n 2, 1) := by decide +kernel
theorem dX6_digit_8 : decode cX6_digit 8 = .ok (.iload_n 2, 1) := by decide +kernel
theorem dX6_digit_9 : decode cX6_digit 9 = .ok (.iconst 0, 1) := by decide +kernel
theorem dX6_digit_10 : decode cX6_digit 10 = .ok (.iload_n 1, 1) := by decide +kernel
theorem dX6_digit_11 : decode cX6_digit 11 = .ok (.invokestatic 105, 3) := by decide +kernel
theorem dX6_digit_14 : decode cX6_digit 14 = .ok (.ifCond .ne 5, 3) := by decide +kernel
theorem dX6_digit_17 : decode cX6_digit 17 = .ok (.iconst (-1), 1) := by decide +kernel
theorem dX6_digit_18 : decode cX6_digit 18 = .ok (.ireturn, 1) := by decide +kernel
theorem dX6_digit_19 : decode cX6_digit 19 = .ok (.aload_n 0, 1) := by decide +kernel
theorem dX6_digit_20 : decode cX6_digit 20 = .ok (.dup, 1) := by decide +kernel
theorem dX6_digit_21 : decode cX6_digit 21 = .ok (.getfield 144, 3) := by decide +kernel
theorem dX6_digit_24 : decode cX6_digit 24 = .ok (.iconst 1, 1) := by decide +kernel
theorem dX6_digit_25 : decode cX6_digit 25 = .ok (.iadd, 1) := by decide +kernel
theorem dX6_digit_26 : decode cX6_digit 26 = .ok (.putfield 144, 3) := by decide +kernel
theorem dX6_digit_29 : decode cX6_digit 29 = .ok (.iload_n 2, 1) := by decide +kernel
theorem dX6_digit_30 : decode cX6_digit 30 = .ok (.ireturn, 1) := by decide +kernel
theorem dX6_number_0 : decode cX6_number 0 = .ok (.aload_n 0, 1) := by decide +kernel
theorem dX6_number_1 : decode cX6_number 1 = .ok (.aload_n 0, 1) := by decide +kernel
theorem dX6_number_2 : decode cX6_number 2 = .ok (.getfield 144, 3) := by decide +kernel
theorem dX6_number_5 : decode cX6_number 5 = .ok (.putfield 151, 3) := by decide +kernel
theorem dX6_number_8 : decode cX6_number 8 = .ok (.aload_n 0, 1) := by decide +kernel
theorem dX6_number_9 : decode cX6_number 9 = .ok (.bipush 9, 2) := by decide +kernel
theorem dX6_number_11 : decode cX6_number 11 = .ok (.invokevirtual 154, 3) := by decide +kernel
theorem dX6_number_14 : decode cX6_number 14 = .ok (.istore_n 3, 1) := by decide +kernel
theorem dX6_number_15 : decode cX6_number 15 = .ok (.iload_n 3, 1) := by decide +kernel
theorem dX6_number_16 : decode cX6_number 16 = .ok (.ifCond .le 29, 3) := by decide +kernel
theorem dX6_number_19 : decode cX6_number 19 = .ok (.aload_n 0, 1) := by decide +kernel
theorem dX6_number_20 : decode cX6_number 20 = .ok (.invokevirtual 147, 3) := by decide +kernel
theorem dX6_number_23 : decode cX6_number 23 = .ok (.bipush 48, 2) := by decide +kernel
theorem dX6_number_25 : decode cX6_number 25 = .ok (.bipush 57, 2) := by decide +kernel
theorem dX6_number_27 : decode cX6_number 27 = .ok (.invokestatic 105, 3) := by decide +kernel
theorem dX6_number_30 : decode cX6_number 30 = .ok (.ifCond .eq 15, 3) := by decide +kernel
theorem dX6_number_33 : decode cX6_number 33 = .ok (.bipush 10, 2) := by decide +kernel
theorem dX6_number_35 : decode cX6_number 35 = .ok (.iload_n 3, 1) := by decide +kernel
theorem dX6_number_36 : decode cX6_number 36 = .ok (.imul, 1) := by decide +kernel
theorem dX6_number_37 : decode cX6_number 37 = .ok (.aload_n 0, 1) := by decide +kernel
theorem dX6_number_38 : decode cX6_number 38 = .ok (.bipush 9, 2) := by decide +kernel
theorem dX6_number_40 : decode cX6_number 40 = .ok (.invokevirtual 154, 3) := by decide +kernel
theorem dX6_number_43 : decode cX6_number 43 = .ok (.iadd, 1) := by decide +kernel
theorem dX6_number_44 : decode cX6_number 44 = .ok (.istore_n 3, 1) := by decide +kernel
theorem dX6_number_45 : decode cX6_number 45 = .ok (.iload_n 3, 1) := by decide +kernel
theorem dX6_number_46 : decode cX6_number 46 = .ok (.iload_n 1, 1) := by decide +kernel
theorem dX6_number_47 : decode cX6_number 47 = .ok (.iload_n 2, 1) := by decide +kernel
theorem dX6_number_48 : decode cX6_number 48 = .ok (.invokestatic 105, 3) := by decide +kernel
theorem dX6_number_51 : decode cX6_number 51 = .ok (.ifCond .eq 5, 3) := by decide +kernel
theorem dX6_number_54 : decode cX6_number 54 = .ok (.iload_n 3, 1) := by decide +kernel
theorem dX6_number_55 : decode cX6_number 55 = .ok (.ireturn, 1) := by decide +kernel
theorem dX6_number_56 : decode cX6_number 56 = .ok (.aload_n 0, 1) := by decide +kernel
theorem dX6_number_57 : decode cX6_number 57 = .ok (.aload_n 0, 1) := by decide +kernel
theorem dX6_number_58 : decode cX6_number 58 = .ok (.getfield 151, 3) := by decide +kernel
theorem dX6_number_61 : decode cX6_number 61 = .ok (.putfield 144, 3) := by decide +kernel
theorem dX6_number_64 : decode cX6_number 64 = .ok (.iconst (-1), 1) := by decide +kernel
theorem dX6_number_65 : decode cX6_number 65 = .ok (.ireturn, 1) := by decide +kernel
theorem dX6_readsThing_0 : decode cX6_readsThing 0 = .ok (.aload_n 0, 1) := by decide +kernel
theorem dX6_readsThing_1 : decode cX6_readsThing 1 = .ok (.aload_n 0, 1) := by decide +kernel
theorem dX6_readsThing_2 : decode cX6_readsThing 2 = .ok (.invokevirtual 113, 3) := by decide +kernel
theorem dX6_readsThing_5 : decode cX6_readsThing 5 = .ok (.ifCond .eq 7, 3) := by decide +kernel
theorem dX6_readsThing_8 : decode cX6_readsThing 8 = .ok (.iconst 5, 1) := by decide +kernel
theorem dX6_readsThing_9 : decode cX6_readsThing 9 = .ok (.goto 4, 3) := by decide +kernel
theorem dX6_readsThing_12 : decode cX6_readsThing 12 = .ok (.iconst 4, 1) := by decide +kernel
theorem dX6_readsThing_13 : decode cX6_readsThing 13 = .ok (.invokevirtual 154, 3) := by decide +kernel
theorem dX6_readsThing_16 : decode cX6_readsThing 16 = .ok (.istore_n 1, 1) := by decide +kernel
theorem dX6_readsThing_17 : decode cX6_readsThing 17 = .ok (.iload_n 1, 1) := by decide +kernel
theorem dX6_readsThing_18 : decode cX6_readsThing 18 = .ok (.ifCond .ge 5, 3) := by decide +kernel
theorem dX6_readsThing_21 : decode cX6_readsThing 21 = .ok (.iconst 0, 1) := by decide +kernel
theorem dX6_readsThing_22 : decode cX6_readsThing 22 = .ok (.ireturn, 1) := by decide +kernel
theorem dX6_readsThing_23 : decode cX6_readsThing 23 = .ok (.aload_n 0, 1) := by decide +kernel
theorem dX6_readsThing_24 : decode cX6_readsThing 24 = .ok (.bipush 119, 2) := by decide +kernel
theorem dX6_readsThing_26 : decode cX6_readsThing 26 = .ok (.invokevirtual 157, 3) := by decide +kernel
theorem dX6_readsThing_29 : decode cX6_readsThing 29 = .ok (.istore_n 2, 1) := by decide +kernel
theorem dX6_readsThing_30 : decode cX6_readsThing 30 = .ok (.aload_n 0, 1) := by decide +kernel
theorem dX6_readsThing_31 : decode cX6_readsThing 31 = .ok (.bipush 112, 2) := by decide +kernel
theorem dX6_readsThing_33 : decode cX6_readsThing 33 = .ok (.invokevirtual 157, 3) := by decide +kernel
theorem dX6_readsThing_36 : decode cX6_readsThing 36 = .ok (.istore_n 3, 1) := by decide +kernel
theorem dX6_readsThing_37 : decode cX6_readsThing 37 = .ok (.aload_n 0, 1) := by decide +kernel
theorem dX6_readsThing_38 : decode cX6_readsThing 38 = .ok (.bipush 59, 2) := by decide +kernel
theorem dX6_readsThing_40 : decode cX6_readsThing 40 = .ok (.invokevirtual 157, 3) := by decide +kernel
theorem dX6_readsThing_43 : decode cX6_readsThing 43 = .ok (.ifCond .ne 5, 3) := by decide +kernel
theorem dX6_readsThing_46 : decode cX6_readsThing 46 = .ok (.iconst 0, 1) := by decide +kernel
theorem dX6_readsThing_47 : decode cX6_readsThing 47 = .ok (.ireturn, 1) := by decide +kernel
theorem dX6_readsThing_48 : decode cX6_readsThing 48 = .ok (.aload_n 0, 1) := by decide +kernel
theorem dX6_readsThing_49 : decode cX6_readsThing 49 = .ok (.iload_n 1, 1) := by decide +kernel
theorem dX6_readsThing_50 : decode cX6_readsThing 50 = .ok (.iload_n 2, 1) := by decide +kernel
theorem dX6_readsThing_51 : decode cX6_readsThing 51 = .ok (.iload_n 3, 1) := by decide +kernel
theorem dX6_readsThing_52 : decode cX6_readsThing 52 = .ok (.invokevirtual 117, 3) := by decide +kernel
theorem dX6_readsThing_55 : decode cX6_readsThing 55 = .ok (.pop, 1) := by decide +kernel
theorem dX6_readsThing_56 : decode cX6_readsThing 56 = .ok (.iconst 1, 1) := by decide +kernel
theorem dX6_readsThing_57 : decode cX6_readsThing 57 = .ok (.ireturn, 1) := by decide +kernel
theorem dX6_readsEvent_0 : decode cX6_readsEvent 0 = .ok (.aload_n 0, 1) := by decide +kernel
theorem dX6_readsEvent_1 : decode cX6_readsEvent 1 = .ok (.iconst 0, 1) := by decide +kernel
theorem dX6_readsEvent_2 : decode cX6_readsEvent 2 = .ok (.bipush 47, 2) := by decide +kernel
theorem dX6_readsEvent_4 : decode cX6_readsEvent 4 = .ok (.invokevirtual 160, 3) := by decide +kernel
theorem dX6_readsEvent_7 : decode cX6_readsEvent 7 = .ok (.istore_n 1, 1) := by decide +kernel
theorem dX6_readsEvent_8 : decode cX6_readsEvent 8 = .ok (.iload_n 1, 1) := by decide +kernel
theorem dX6_readsEvent_9 : decode cX6_readsEvent 9 = .ok (.ifCond .lt 12, 3) := by decide +kernel
theorem dX6_readsEvent_12 : decode cX6_readsEvent 12 = .ok (.aload_n 0, 1) := by decide +kernel
theorem dX6_readsEvent_13 : decode cX6_readsEvent 13 = .ok (.bipush 44, 2) := by decide +kernel
theorem dX6_readsEvent_15 : decode cX6_readsEvent 15 = .ok (.invokevirtual 157, 3) := by decide +kernel
theorem dX6_readsEvent_18 : decode cX6_readsEvent 18 = .ok (.ifCond .ne 5, 3) := by decide +kernel
theorem dX6_readsEvent_21 : decode cX6_readsEvent 21 = .ok (.iconst 0, 1) := by decide +kernel
theorem dX6_readsEvent_22 : decode cX6_readsEvent 22 = .ok (.ireturn, 1) := by decide +kernel
theorem dX6_readsEvent_23 : decode cX6_readsEvent 23 = .ok (.aload_n 0, 1) := by decide +kernel
theorem dX6_readsEvent_24 : decode cX6_readsEvent 24 = .ok (.bipush 9, 2) := by decide +kernel
theorem dX6_readsEvent_26 : decode cX6_readsEvent 26 = .ok (.invokevirtual 154, 3) := by decide +kernel
theorem dX6_readsEvent_29 : decode cX6_readsEvent 29 = .ok (.istore_n 2, 1) := by decide +kernel
theorem dX6_readsEvent_30 : decode cX6_readsEvent 30 = .ok (.iload_n 2, 1) := by decide +kernel
theorem dX6_readsEvent_31 : decode cX6_readsEvent 31 = .ok (.ifCond .lt 12, 3) := by decide +kernel
theorem dX6_readsEvent_34 : decode cX6_readsEvent 34 = .ok (.aload_n 0, 1) := by decide +kernel
theorem dX6_readsEvent_35 : decode cX6_readsEvent 35 = .ok (.bipush 44, 2) := by decide +kernel
theorem dX6_readsEvent_37 : decode cX6_readsEvent 37 = .ok (.invokevirtual 157, 3) := by decide +kernel
theorem dX6_readsEvent_40 : decode cX6_readsEvent 40 = .ok (.ifCond .ne 5, 3) := by decide +kernel
theorem dX6_readsEvent_43 : decode cX6_readsEvent 43 = .ok (.iconst 0, 1) := by decide +kernel
theorem dX6_readsEvent_44 : decode cX6_readsEvent 44 = .ok (.ireturn, 1) := by decide +kernel
theorem dX6_readsEvent_45 : decode cX6_readsEvent 45 = .ok (.aload_n 0, 1) := by decide +kernel
theorem dX6_readsEvent_46 : decode cX6_readsEvent 46 = .ok (.iconst 0, 1) := by decide +kernel
theorem dX6_readsEvent_47 : decode cX6_readsEvent 47 = .ok (.aload_n 0, 1) := by decide +kernel
theorem dX6_readsEvent_48 : decode cX6_readsEvent 48 = .ok (.getfield 101, 3) := by decide +kernel
theorem dX6_readsEvent_51 : decode cX6_readsEvent 51 = .ok (.iconst 1, 1) := by decide +kernel
theorem dX6_readsEvent_52 : decode cX6_readsEvent 52 = .ok (.isub, 1) := by decide +kernel
theorem dX6_readsEvent_53 : decode cX6_readsEvent 53 = .ok (.invokevirtual 160, 3) := by decide +kernel
theorem dX6_readsEvent_56 : decode cX6_readsEvent 56 = .ok (.istore_n 3, 1) := by decide +kernel
theorem dX6_readsEvent_57 : decode cX6_readsEvent 57 = .ok (.iload_n 3, 1) := by decide +kernel
theorem dX6_readsEvent_58 : decode cX6_readsEvent 58 = .ok (.ifCond .ge 5, 3) := by decide +kernel
theorem dX6_readsEvent_61 : decode cX6_readsEvent 61 = .ok (.iconst 0, 1) := by decide +kernel
theorem dX6_readsEvent_62 : decode cX6_readsEvent 62 = .ok (.ireturn, 1) := by decide +kernel
theorem dX6_readsEvent_63 : decode cX6_readsEvent 63 = .ok (.bipush (-9), 2) := by decide +kernel
theorem dX6_readsEvent_65 : decode cX6_readsEvent 65 = .ok (.istore 4, 2) := by decide +kernel
theorem dX6_readsEvent_67 : decode cX6_readsEvent 67 = .ok (.iload_n 2, 1) := by decide +kernel
theorem dX6_readsEvent_68 : decode cX6_readsEvent 68 = .ok (.invokestatic 128, 3) := by decide +kernel
theorem dX6_readsEvent_71 : decode cX6_readsEvent 71 = .ok (.ifCond .ne 9, 3) := by decide +kernel
theorem dX6_readsEvent_74 : decode cX6_readsEvent 74 = .ok (.iload_n 2, 1) := by decide +kernel
theorem dX6_readsEvent_75 : decode cX6_readsEvent 75 = .ok (.bipush 9, 2) := by decide +kernel
theorem dX6_readsEvent_77 : decode cX6_readsEvent 77 = .ok (.if_icmp .ne 71, 3) := by decide +kernel
theorem dX6_readsEvent_80 : decode cX6_readsEvent 80 = .ok (.aload_n 0, 1) := by decide +kernel
theorem dX6_readsEvent_81 : decode cX6_readsEvent 81 = .ok (.bipush 44, 2) := by decide +kernel
theorem dX6_readsEvent_83 : decode cX6_readsEvent 83 = .ok (.invokevirtual 157, 3) := by decide +kernel
theorem dX6_readsEvent_86 : decode cX6_readsEvent 86 = .ok (.ifCond .ne 5, 3) := by decide +kernel
theorem dX6_readsEvent_89 : decode cX6_readsEvent 89 = .ok (.iconst 0, 1) := by decide +kernel
theorem dX6_readsEvent_90 : decode cX6_readsEvent 90 = .ok (.ireturn, 1) := by decide +kernel
theorem dX6_readsEvent_91 : decode cX6_readsEvent 91 = .ok (.iload_n 2, 1) := by decide +kernel
theorem dX6_readsEvent_92 : decode cX6_readsEvent 92 = .ok (.bipush 9, 2) := by decide +kernel
theorem dX6_readsEvent_94 : decode cX6_readsEvent 94 = .ok (.if_icmp .ne 12, 3) := by decide +kernel
theorem dX6_readsEvent_97 : decode cX6_readsEvent 97 = .ok (.aload_n 0, 1) := by decide +kernel
theorem dX6_readsEvent_98 : decode cX6_readsEvent 98 = .ok (.iconst 1, 1) := by decide +kernel
theorem dX6_readsEvent_99 : decode cX6_readsEvent 99 = .ok (.iconst 4, 1) := by decide +kernel
theorem dX6_readsEvent_100 : decode cX6_readsEvent 100 = .ok (.invokevirtual 160, 3) := by decide +kernel
theorem dX6_readsEvent_103 : decode cX6_readsEvent 103 = .ok (.goto 14, 3) := by decide +kernel
theorem dX6_readsEvent_106 : decode cX6_readsEvent 106 = .ok (.aload_n 0, 1) := by decide +kernel
theorem dX6_readsEvent_107 : decode cX6_readsEvent 107 = .ok (.iconst 0, 1) := by decide +kernel
theorem dX6_readsEvent_108 : decode cX6_readsEvent 108 = .ok (.aload_n 0, 1) := by decide +kernel
theorem dX6_readsEvent_109 : decode cX6_readsEvent 109 = .ok (.getfield 101, 3) := by decide +kernel
theorem dX6_readsEvent_112 : decode cX6_readsEvent 112 = .ok (.iconst 1, 1) := by decide +kernel
theorem dX6_readsEvent_113 : decode cX6_readsEvent 113 = .ok (.isub, 1) := by decide +kernel
theorem dX6_readsEvent_114 : decode cX6_readsEvent 114 = .ok (.invokevirtual 160, 3) := by decide +kernel
theorem dX6_readsEvent_117 : decode cX6_readsEvent 117 = .ok (.istore 4, 2) := by decide +kernel
theorem dX6_readsEvent_119 : decode cX6_readsEvent 119 = .ok (.iload 4, 2) := by decide +kernel
theorem dX6_readsEvent_121 : decode cX6_readsEvent 121 = .ok (.ifCond .ge 5, 3) := by decide +kernel
theorem dX6_readsEvent_124 : decode cX6_readsEvent 124 = .ok (.iconst 0, 1) := by decide +kernel
theorem dX6_readsEvent_125 : decode cX6_readsEvent 125 = .ok (.ireturn, 1) := by decide +kernel
theorem dX6_readsEvent_126 : decode cX6_readsEvent 126 = .ok (.iload_n 2, 1) := by decide +kernel
theorem dX6_readsEvent_127 : decode cX6_readsEvent 127 = .ok (.bipush 9, 2) := by decide +kernel
theorem dX6_readsEvent_129 : decode cX6_readsEvent 129 = .ok (.if_icmp .eq 19, 3) := by decide +kernel
theorem dX6_readsEvent_132 : decode cX6_readsEvent 132 = .ok (.iload 4, 2) := by decide +kernel
theorem dX6_readsEvent_134 : decode cX6_readsEvent 134 = .ok (.iload_n 3, 1) := by decide +kernel
theorem dX6_readsEvent_135 : decode cX6_readsEvent 135 = .ok (.if_icmp .ne 13, 3) := by decide +kernel
theorem dX6_readsEvent_138 : decode cX6_readsEvent 138 = .ok (.aload_n 0, 1) := by decide +kernel
theorem dX6_readsEvent_139 : decode cX6_readsEvent 139 = .ok (.aload_n 0, 1) := by decide +kernel
theorem dX6_readsEvent_140 : decode cX6_readsEvent 140 = .ok (.getfield 151, 3) := by decide +kernel
theorem dX6_readsEvent_143 : decode cX6_readsEvent 143 = .ok (.putfield 144, 3) := by decide +kernel
theorem dX6_readsEvent_146 : decode cX6_readsEvent 146 = .ok (.iconst 0, 1) := by decide +kernel
theorem dX6_readsEvent_147 : decode cX6_readsEvent 147 = .ok (.ireturn, 1) := by decide +kernel
theorem dX6_readsEvent_148 : decode cX6_readsEvent 148 = .ok (.iconst (-1), 1) := by decide +kernel
theorem dX6_readsEvent_149 : decode cX6_readsEvent 149 = .ok (.istore 5, 2) := by decide +kernel
theorem dX6_readsEvent_151 : decode cX6_readsEvent 151 = .ok (.aload_n 0, 1) := by decide +kernel
theorem dX6_readsEvent_152 : decode cX6_readsEvent 152 = .ok (.invokevirtual 147, 3) := by decide +kernel
theorem dX6_readsEvent_155 : decode cX6_readsEvent 155 = .ok (.bipush 63, 2) := by decide +kernel
theorem dX6_readsEvent_157 : decode cX6_readsEvent 157 = .ok (.if_icmp .ne 7, 3) := by decide +kernel
theorem dX6_readsEvent_160 : decode cX6_readsEvent 160 = .ok (.iconst 1, 1) := by decide +kernel
theorem dX6_readsEvent_161 : decode cX6_readsEvent 161 = .ok (.goto 4, 3) := by decide +kernel
theorem dX6_readsEvent_164 : decode cX6_readsEvent 164 = .ok (.iconst 0, 1) := by decide +kernel
theorem dX6_readsEvent_165 : decode cX6_readsEvent 165 = .ok (.istore 6, 2) := by decide +kernel
theorem dX6_readsEvent_167 : decode cX6_readsEvent 167 = .ok (.iload 6, 2) := by decide +kernel
theorem dX6_readsEvent_169 : decode cX6_readsEvent 169 = .ok (.ifCond .ne 12, 3) := by decide +kernel
theorem dX6_readsEvent_172 : decode cX6_readsEvent 172 = .ok (.aload_n 0, 1) := by decide +kernel
theorem dX6_readsEvent_173 : decode cX6_readsEvent 173 = .ok (.invokevirtual 147, 3) := by decide +kernel
theorem dX6_readsEvent_176 : decode cX6_readsEvent 176 = .ok (.bipush 33, 2) := by decide +kernel
theorem dX6_readsEvent_178 : decode cX6_readsEvent 178 = .ok (.if_icmp .ne 44, 3) := by decide +kernel
theorem dX6_readsEvent_181 : decode cX6_readsEvent 181 = .ok (.aload_n 0, 1) := by decide +kernel
theorem dX6_readsEvent_182 : decode cX6_readsEvent 182 = .ok (.dup, 1) := by decide +kernel
theorem dX6_readsEvent_183 : decode cX6_readsEvent 183 = .ok (.getfield 144, 3) := by decide +kernel
theorem dX6_readsEvent_186 : decode cX6_readsEvent 186 = .ok (.iconst 1, 1) := by decide +kernel
theorem dX6_readsEvent_187 : decode cX6_readsEvent 187 = .ok (.iadd, 1) := by decide +kernel
theorem dX6_readsEvent_188 : decode cX6_readsEvent 188 = .ok (.putfield 144, 3) := by decide +kernel
theorem dX6_readsEvent_191 : decode cX6_readsEvent 191 = .ok (.aload_n 0, 1) := by decide +kernel
theorem dX6_readsEvent_192 : decode cX6_readsEvent 192 = .ok (.iconst 5, 1) := by decide +kernel
theorem dX6_readsEvent_193 : decode cX6_readsEvent 193 = .ok (.invokevirtual 154, 3) := by decide +kernel
theorem dX6_readsEvent_196 : decode cX6_readsEvent 196 = .ok (.istore 7, 2) := by decide +kernel
theorem dX6_readsEvent_198 : decode cX6_readsEvent 198 = .ok (.iload 7, 2) := by decide +kernel
theorem dX6_readsEvent_200 : decode cX6_readsEvent 200 = .ok (.ifCond .ge 5, 3) := by decide +kernel
theorem dX6_readsEvent_203 : decode cX6_readsEvent 203 = .ok (.iconst 0, 1) := by decide +kernel
theorem dX6_readsEvent_204 : decode cX6_readsEvent 204 = .ok (.ireturn, 1) := by decide +kernel
theorem dX6_readsEvent_205 : decode cX6_readsEvent 205 = .ok (.iload 6, 2) := by decide +kernel
theorem dX6_readsEvent_207 : decode cX6_readsEvent 207 = .ok (.ifCond .eq 8, 3) := by decide +kernel
theorem dX6_readsEvent_210 : decode cX6_readsEvent 210 = .ok (.iload 7, 2) := by decide +kernel
theorem dX6_readsEvent_212 : decode cX6_readsEvent 212 = .ok (.goto 8, 3) := by decide +kernel
theorem dX6_readsEvent_215 : decode cX6_readsEvent 215 = .ok (.bipush 10, 2) := by decide +kernel
theorem dX6_readsEvent_217 : decode cX6_readsEvent 217 = .ok (.iload 7, 2) := by decide +kernel
theorem dX6_readsEvent_219 : decode cX6_readsEvent 219 = .ok (.iadd, 1) := by decide +kernel
theorem dX6_readsEvent_220 : decode cX6_readsEvent 220 = .ok (.istore 5, 2) := by decide +kernel
theorem dX6_readsEvent_222 : decode cX6_readsEvent 222 = .ok (.aload_n 0, 1) := by decide +kernel
theorem dX6_readsEvent_223 : decode cX6_readsEvent 223 = .ok (.bipush 59, 2) := by decide +kernel
theorem dX6_readsEvent_225 : decode cX6_readsEvent 225 = .ok (.invokevirtual 157, 3) := by decide +kernel
theorem dX6_readsEvent_228 : decode cX6_readsEvent 228 = .ok (.ifCond .ne 5, 3) := by decide +kernel
theorem dX6_readsEvent_231 : decode cX6_readsEvent 231 = .ok (.iconst 0, 1) := by decide +kernel
theorem dX6_readsEvent_232 : decode cX6_readsEvent 232 = .ok (.ireturn, 1) := by decide +kernel
theorem dX6_readsEvent_233 : decode cX6_readsEvent 233 = .ok (.aload_n 0, 1) := by decide +kernel
theorem dX6_readsEvent_234 : decode cX6_readsEvent 234 = .ok (.iload_n 1, 1) := by decide +kernel
theorem dX6_readsEvent_235 : decode cX6_readsEvent 235 = .ok (.iload_n 2, 1) := by decide +kernel
theorem dX6_readsEvent_236 : decode cX6_readsEvent 236 = .ok (.iload_n 3, 1) := by decide +kernel
theorem dX6_readsEvent_237 : decode cX6_readsEvent 237 = .ok (.iload 4, 2) := by decide +kernel
theorem dX6_readsEvent_239 : decode cX6_readsEvent 239 = .ok (.iload 5, 2) := by decide +kernel
theorem dX6_readsEvent_241 : decode cX6_readsEvent 241 = .ok (.invokevirtual 135, 3) := by decide +kernel
theorem dX6_readsEvent_244 : decode cX6_readsEvent 244 = .ok (.pop, 1) := by decide +kernel
theorem dX6_readsEvent_245 : decode cX6_readsEvent 245 = .ok (.iconst 1, 1) := by decide +kernel
theorem dX6_readsEvent_246 : decode cX6_readsEvent 246 = .ok (.ireturn, 1) := by decide +kernel
theorem dX6_readsTakes_0 : decode cX6_readsTakes 0 = .ok (.aload_n 0, 1) := by decide +kernel
theorem dX6_readsTakes_1 : decode cX6_readsTakes 1 = .ok (.iconst 5, 1) := by decide +kernel
theorem dX6_readsTakes_2 : decode cX6_readsTakes 2 = .ok (.invokevirtual 154, 3) := by decide +kernel
theorem dX6_readsTakes_5 : decode cX6_readsTakes 5 = .ok (.istore_n 1, 1) := by decide +kernel
theorem dX6_readsTakes_6 : decode cX6_readsTakes 6 = .ok (.iload_n 1, 1) := by decide +kernel
theorem dX6_readsTakes_7 : decode cX6_readsTakes 7 = .ok (.ifCond .ge 5, 3) := by decide +kernel
theorem dX6_readsTakes_10 : decode cX6_readsTakes 10 = .ok (.iconst 0, 1) := by decide +kernel
theorem dX6_readsTakes_11 : decode cX6_readsTakes 11 = .ok (.ireturn, 1) := by decide +kernel
theorem dX6_readsTakes_12 : decode cX6_readsTakes 12 = .ok (.aload_n 0, 1) := by decide +kernel
theorem dX6_readsTakes_13 : decode cX6_readsTakes 13 = .ok (.iconst 4, 1) := by decide +kernel
theorem dX6_readsTakes_14 : decode cX6_readsTakes 14 = .ok (.invokevirtual 154, 3) := by decide +kernel
theorem dX6_readsTakes_17 : decode cX6_readsTakes 17 = .ok (.istore_n 2, 1) := by decide +kernel
theorem dX6_readsTakes_18 : decode cX6_readsTakes 18 = .ok (.iload_n 2, 1) := by decide +kernel
theorem dX6_readsTakes_19 : decode cX6_readsTakes 19 = .ok (.ifCond .lt 12, 3) := by decide +kernel
theorem dX6_readsTakes_22 : decode cX6_readsTakes 22 = .ok (.aload_n 0, 1) := by decide +kernel
theorem dX6_readsTakes_23 : decode cX6_readsTakes 23 = .ok (.bipush 59, 2) := by decide +kernel
theorem dX6_readsTakes_25 : decode cX6_readsTakes 25 = .ok (.invokevirtual 157, 3) := by decide +kernel
theorem dX6_readsTakes_28 : decode cX6_readsTakes 28 = .ok (.ifCond .ne 5, 3) := by decide +kernel
theorem dX6_readsTakes_31 : decode cX6_readsTakes 31 = .ok (.iconst 0, 1) := by decide +kernel
theorem dX6_readsTakes_32 : decode cX6_readsTakes 32 = .ok (.ireturn, 1) := by decide +kernel
theorem dX6_readsTakes_33 : decode cX6_readsTakes 33 = .ok (.aload_n 0, 1) := by decide +kernel
theorem dX6_readsTakes_34 : decode cX6_readsTakes 34 = .ok (.getfield 22, 3) := by decide +kernel
theorem dX6_readsTakes_37 : decode cX6_readsTakes 37 = .ok (.iload_n 1, 1) := by decide +kernel
theorem dX6_readsTakes_38 : decode cX6_readsTakes 38 = .ok (.iload_n 2, 1) := by decide +kernel
theorem dX6_readsTakes_39 : decode cX6_readsTakes 39 = .ok (.iastore, 1) := by decide +kernel
theorem dX6_readsTakes_40 : decode cX6_readsTakes 40 = .ok (.iconst 1, 1) := by decide +kernel
theorem dX6_readsTakes_41 : decode cX6_readsTakes 41 = .ok (.ireturn, 1) := by decide +kernel
theorem dX6_statement_0 : decode cX6_statement 0 = .ok (.aload_n 0, 1) := by decide +kernel
theorem dX6_statement_1 : decode cX6_statement 1 = .ok (.invokevirtual 147, 3) := by decide +kernel
theorem dX6_statement_4 : decode cX6_statement 4 = .ok (.istore_n 1, 1) := by decide +kernel
theorem dX6_statement_5 : decode cX6_statement 5 = .ok (.iload_n 1, 1) := by decide +kernel
theorem dX6_statement_6 : decode cX6_statement 6 = .ok (.bipush 116, 2) := by decide +kernel
theorem dX6_statement_8 : decode cX6_statement 8 = .ok (.if_icmp .ne 20, 3) := by decide +kernel
theorem dX6_statement_11 : decode cX6_statement 11 = .ok (.aload_n 0, 1) := by decide +kernel
theorem dX6_statement_12 : decode cX6_statement 12 = .ok (.getfield 101, 3) := by decide +kernel
theorem dX6_statement_15 : decode cX6_statement 15 = .ok (.bipush 12, 2) := by decide +kernel
theorem dX6_statement_17 : decode cX6_statement 17 = .ok (.if_icmp .ge 7, 3) := by decide +kernel
theorem dX6_statement_20 : decode cX6_statement 20 = .ok (.iconst 1, 1) := by decide +kernel
theorem dX6_statement_21 : decode cX6_statement 21 = .ok (.goto 41, 3) := by decide +kernel
theorem dX6_statement_24 : decode cX6_statement 24 = .ok (.iconst 0, 1) := by decide +kernel
theorem dX6_statement_25 : decode cX6_statement 25 = .ok (.goto 37, 3) := by decide +kernel
theorem dX6_statement_28 : decode cX6_statement 28 = .ok (.iload_n 1, 1) := by decide +kernel
theorem dX6_statement_29 : decode cX6_statement 29 = .ok (.bipush 101, 2) := by decide +kernel
theorem dX6_statement_31 : decode cX6_statement 31 = .ok (.if_icmp .ne 20, 3) := by decide +kernel
theorem dX6_statement_34 : decode cX6_statement 34 = .ok (.aload_n 0, 1) := by decide +kernel
theorem dX6_statement_35 : decode cX6_statement 35 = .ok (.getfield 125, 3) := by decide +kernel
theorem dX6_statement_38 : decode cX6_statement 38 = .ok (.bipush 60, 2) := by decide +kernel
theorem dX6_statement_40 : decode cX6_statement 40 = .ok (.if_icmp .ge 7, 3) := by decide +kernel
theorem dX6_statement_43 : decode cX6_statement 43 = .ok (.iconst 1, 1) := by decide +kernel
theorem dX6_statement_44 : decode cX6_statement 44 = .ok (.goto 18, 3) := by decide +kernel
theorem dX6_statement_47 : decode cX6_statement 47 = .ok (.iconst 0, 1) := by decide +kernel
theorem dX6_statement_48 : decode cX6_statement 48 = .ok (.goto 14, 3) := by decide +kernel
theorem dX6_statement_51 : decode cX6_statement 51 = .ok (.iload_n 1, 1) := by decide +kernel
theorem dX6_statement_52 : decode cX6_statement 52 = .ok (.bipush 107, 2) := by decide +kernel
theorem dX6_statement_54 : decode cX6_statement 54 = .ok (.if_icmp .ne 7, 3) := by decide +kernel
theorem dX6_statement_57 : decode cX6_statement 57 = .ok (.iconst 1, 1) := by decide +kernel
theorem dX6_statement_58 : decode cX6_statement 58 = .ok (.goto 4, 3) := by decide +kernel
theorem dX6_statement_61 : decode cX6_statement 61 = .ok (.iconst 0, 1) := by decide +kernel
theorem dX6_statement_62 : decode cX6_statement 62 = .ok (.istore_n 2, 1) := by decide +kernel
theorem dX6_statement_63 : decode cX6_statement 63 = .ok (.iload_n 2, 1) := by decide +kernel
theorem dX6_statement_64 : decode cX6_statement 64 = .ok (.ifCond .ne 5, 3) := by decide +kernel
theorem dX6_statement_67 : decode cX6_statement 67 = .ok (.iconst 0, 1) := by decide +kernel
theorem dX6_statement_68 : decode cX6_statement 68 = .ok (.ireturn, 1) := by decide +kernel
theorem dX6_statement_69 : decode cX6_statement 69 = .ok (.aload_n 0, 1) := by decide +kernel
theorem dX6_statement_70 : decode cX6_statement 70 = .ok (.dup, 1) := by decide +kernel
theorem dX6_statement_71 : decode cX6_statement 71 = .ok (.getfield 144, 3) := by decide +kernel
theorem dX6_statement_74 : decode cX6_statement 74 = .ok (.iconst 1, 1) := by decide +kernel
theorem dX6_statement_75 : decode cX6_statement 75 = .ok (.iadd, 1) := by decide +kernel
theorem dX6_statement_76 : decode cX6_statement 76 = .ok (.putfield 144, 3) := by decide +kernel
theorem dX6_statement_79 : decode cX6_statement 79 = .ok (.iload_n 1, 1) := by decide +kernel
theorem dX6_statement_80 : decode cX6_statement 80 = .ok (.bipush 116, 2) := by decide +kernel
theorem dX6_statement_82 : decode cX6_statement 82 = .ok (.if_icmp .ne 10, 3) := by decide +kernel
theorem dX6_statement_85 : decode cX6_statement 85 = .ok (.aload_n 0, 1) := by decide +kernel
theorem dX6_statement_86 : decode cX6_statement 86 = .ok (.invokevirtual 164, 3) := by decide +kernel
theorem dX6_statement_89 : decode cX6_statement 89 = .ok (.goto 20, 3) := by decide +kernel
theorem dX6_statement_92 : decode cX6_statement 92 = .ok (.iload_n 1, 1) := by decide +kernel
theorem dX6_statement_93 : decode cX6_statement 93 = .ok (.bipush 101, 2) := by decide +kernel
theorem dX6_statement_95 : decode cX6_statement 95 = .ok (.if_icmp .ne 10, 3) := by decide +kernel
theorem dX6_statement_98 : decode cX6_statement 98 = .ok (.aload_n 0, 1) := by decide +kernel
theorem dX6_statement_99 : decode cX6_statement 99 = .ok (.invokevirtual 167, 3) := by decide +kernel
theorem dX6_statement_102 : decode cX6_statement 102 = .ok (.goto 7, 3) := by decide +kernel
theorem dX6_statement_105 : decode cX6_statement 105 = .ok (.aload_n 0, 1) := by decide +kernel
theorem dX6_statement_106 : decode cX6_statement 106 = .ok (.invokevirtual 170, 3) := by decide +kernel
theorem dX6_statement_109 : decode cX6_statement 109 = .ok (.ireturn, 1) := by decide +kernel
theorem dX6_house_0 : decode cX6_house 0 = .ok (.aload_n 0, 1) := by decide +kernel
theorem dX6_house_1 : decode cX6_house 1 = .ok (.iconst 0, 1) := by decide +kernel
theorem dX6_house_2 : decode cX6_house 2 = .ok (.putfield 144, 3) := by decide +kernel
theorem dX6_house_5 : decode cX6_house 5 = .ok (.iconst 0, 1) := by decide +kernel
theorem dX6_house_6 : decode cX6_house 6 = .ok (.istore_n 1, 1) := by decide +kernel
theorem dX6_house_7 : decode cX6_house 7 = .ok (.iconst 1, 1) := by decide +kernel
theorem dX6_house_8 : decode cX6_house 8 = .ok (.istore_n 2, 1) := by decide +kernel
theorem dX6_house_9 : decode cX6_house 9 = .ok (.iload_n 2, 1) := by decide +kernel
theorem dX6_house_10 : decode cX6_house 10 = .ok (.ifCond .eq 34, 3) := by decide +kernel
theorem dX6_house_13 : decode cX6_house 13 = .ok (.aload_n 0, 1) := by decide +kernel
theorem dX6_house_14 : decode cX6_house 14 = .ok (.getfield 144, 3) := by decide +kernel
theorem dX6_house_17 : decode cX6_house 17 = .ok (.aload_n 0, 1) := by decide +kernel
theorem dX6_house_18 : decode cX6_house 18 = .ok (.getfield 139, 3) := by decide +kernel
theorem dX6_house_21 : decode cX6_house 21 = .ok (.if_icmp .ge 23, 3) := by decide +kernel
theorem dX6_house_24 : decode cX6_house 24 = .ok (.aload_n 0, 1) := by decide +kernel
theorem dX6_house_25 : decode cX6_house 25 = .ok (.invokevirtual 173, 3) := by decide +kernel
theorem dX6_house_28 : decode cX6_house 28 = .ok (.istore_n 2, 1) := by decide +kernel
theorem dX6_house_29 : decode cX6_house 29 = .ok (.iload_n 1, 1) := by decide +kernel
theorem dX6_house_30 : decode cX6_house 30 = .ok (.iload_n 2, 1) := by decide +kernel
theorem dX6_house_31 : decode cX6_house 31 = .ok (.ifCond .eq 7, 3) := by decide +kernel
theorem dX6_house_34 : decode cX6_house 34 = .ok (.iconst 1, 1) := by decide +kernel
theorem dX6_house_35 : decode cX6_house 35 = .ok (.goto 4, 3) := by decide +kernel
theorem dX6_house_38 : decode cX6_house 38 = .ok (.iconst 0, 1) := by decide +kernel
theorem dX6_house_39 : decode cX6_house 39 = .ok (.iadd, 1) := by decide +kernel
theorem dX6_house_40 : decode cX6_house 40 = .ok (.istore_n 1, 1) := by decide +kernel
theorem dX6_house_41 : decode cX6_house 41 = .ok (.goto (-32), 3) := by decide +kernel
theorem dX6_house_44 : decode cX6_house 44 = .ok (.aload_n 0, 1) := by decide +kernel
theorem dX6_house_45 : decode cX6_house 45 = .ok (.iconst 0, 1) := by decide +kernel
theorem dX6_house_46 : decode cX6_house 46 = .ok (.putfield 139, 3) := by decide +kernel
theorem dX6_house_49 : decode cX6_house 49 = .ok (.iload_n 2, 1) := by decide +kernel
theorem dX6_house_50 : decode cX6_house 50 = .ok (.ifCond .eq 7, 3) := by decide +kernel
theorem dX6_house_53 : decode cX6_house 53 = .ok (.iload_n 1, 1) := by decide +kernel
theorem dX6_house_54 : decode cX6_house 54 = .ok (.goto 10, 3) := by decide +kernel
theorem dX6_house_57 : decode cX6_house 57 = .ok (.bipush (-20), 2) := by decide +kernel
theorem dX6_house_59 : decode cX6_house 59 = .ok (.aload_n 0, 1) := by decide +kernel
theorem dX6_house_60 : decode cX6_house 60 = .ok (.getfield 144, 3) := by decide +kernel
theorem dX6_house_63 : decode cX6_house 63 = .ok (.isub, 1) := by decide +kernel
theorem dX6_house_64 : decode cX6_house 64 = .ok (.ireturn, 1) := by decide +kernel
theorem dX6_begins_0 : decode cX6_begins 0 = .ok (.aload_n 0, 1) := by decide +kernel
theorem dX6_begins_1 : decode cX6_begins 1 = .ok (.iload_n 1, 1) := by decide +kernel
theorem dX6_begins_2 : decode cX6_begins 2 = .ok (.putfield 176, 3) := by decide +kernel
theorem dX6_begins_5 : decode cX6_begins 5 = .ok (.aload_n 0, 1) := by decide +kernel
theorem dX6_begins_6 : decode cX6_begins 6 = .ok (.iconst 0, 1) := by decide +kernel
theorem dX6_begins_7 : decode cX6_begins 7 = .ok (.putfield 180, 3) := by decide +kernel
theorem dX6_begins_10 : decode cX6_begins 10 = .ok (.iconst 0, 1) := by decide +kernel
theorem dX6_begins_11 : decode cX6_begins 11 = .ok (.istore_n 2, 1) := by decide +kernel
theorem dX6_begins_12 : decode cX6_begins 12 = .ok (.iload_n 2, 1) := by decide +kernel
theorem dX6_begins_13 : decode cX6_begins 13 = .ok (.bipush 12, 2) := by decide +kernel
theorem dX6_begins_15 : decode cX6_begins 15 = .ok (.if_icmp .ge 83, 3) := by decide +kernel
theorem dX6_begins_18 : decode cX6_begins 18 = .ok (.aload_n 0, 1) := by decide +kernel
theorem dX6_begins_19 : decode cX6_begins 19 = .ok (.getfield 46, 3) := by decide +kernel
theorem dX6_begins_22 : decode cX6_begins 22 = .ok (.iload_n 2, 1) := by decide +kernel
theorem dX6_begins_23 : decode cX6_begins 23 = .ok (.iconst 0, 1) := by decide +kernel
theorem dX6_begins_24 : decode cX6_begins 24 = .ok (.iastore, 1) := by decide +kernel
theorem dX6_begins_25 : decode cX6_begins 25 = .ok (.aload_n 0, 1) := by decide +kernel
theorem dX6_begins_26 : decode cX6_begins 26 = .ok (.getfield 49, 3) := by decide +kernel
theorem dX6_begins_29 : decode cX6_begins 29 = .ok (.iload_n 2, 1) := by decide +kernel
theorem dX6_begins_30 : decode cX6_begins 30 = .ok (.iconst 0, 1) := by decide +kernel
theorem dX6_begins_31 : decode cX6_begins 31 = .ok (.iastore, 1) := by decide +kernel
theorem dX6_begins_32 : decode cX6_begins 32 = .ok (.aload_n 0, 1) := by decide +kernel
theorem dX6_begins_33 : decode cX6_begins 33 = .ok (.getfield 55, 3) := by decide +kernel
theorem dX6_begins_36 : decode cX6_begins 36 = .ok (.iload_n 2, 1) := by decide +kernel
theorem dX6_begins_37 : decode cX6_begins 37 = .ok (.iconst 0, 1) := by decide +kernel
theorem dX6_begins_38 : decode cX6_begins 38 = .ok (.bastore, 1) := by decide +kernel
theorem dX6_begins_39 : decode cX6_begins 39 = .ok (.aload_n 0, 1) := by decide +kernel
theorem dX6_begins_40 : decode cX6_begins 40 = .ok (.getfield 59, 3) := by decide +kernel
theorem dX6_begins_43 : decode cX6_begins 43 = .ok (.iload_n 2, 1) := by decide +kernel
theorem dX6_begins_44 : decode cX6_begins 44 = .ok (.iconst 0, 1) := by decide +kernel
theorem dX6_begins_45 : decode cX6_begins 45 = .ok (.bastore, 1) := by decide +kernel
theorem dX6_begins_46 : decode cX6_begins 46 = .ok (.aload_n 0, 1) := by decide +kernel
theorem dX6_begins_47 : decode cX6_begins 47 = .ok (.getfield 62, 3) := by decide +kernel
theorem dX6_begins_50 : decode cX6_begins 50 = .ok (.iload_n 2, 1) := by decide +kernel
theorem dX6_begins_51 : decode cX6_begins 51 = .ok (.iconst 0, 1) := by decide +kernel
theorem dX6_begins_52 : decode cX6_begins 52 = .ok (.bastore, 1) := by decide +kernel
theorem dX6_begins_53 : decode cX6_begins 53 = .ok (.aload_n 0, 1) := by decide +kernel
theorem dX6_begins_54 : decode cX6_begins 54 = .ok (.getfield 65, 3) := by decide +kernel
theorem dX6_begins_57 : decode cX6_begins 57 = .ok (.iload_n 2, 1) := by decide +kernel
theorem dX6_begins_58 : decode cX6_begins 58 = .ok (.iload_n 2, 1) := by decide +kernel
theorem dX6_begins_59 : decode cX6_begins 59 = .ok (.aload_n 0, 1) := by decide +kernel
theorem dX6_begins_60 : decode cX6_begins 60 = .ok (.getfield 101, 3) := by decide +kernel
theorem dX6_begins_63 : decode cX6_begins 63 = .ok (.if_icmp .ge 27, 3) := by decide +kernel
theorem dX6_begins_66 : decode cX6_begins 66 = .ok (.aload_n 0, 1) := by decide +kernel
theorem dX6_begins_67 : decode cX6_begins 67 = .ok (.getfield 16, 3) := by decide +kernel
theorem dX6_begins_70 : decode cX6_begins 70 = .ok (.iload_n 2, 1) := by decide +kernel
theorem dX6_begins_71 : decode cX6_begins 71 = .ok (.iaload, 1) := by decide +kernel
theorem dX6_begins_72 : decode cX6_begins 72 = .ok (.iconst 1, 1) := by decide +kernel
theorem dX6_begins_73 : decode cX6_begins 73 = .ok (.if_icmp .eq 13, 3) := by decide +kernel
theorem dX6_begins_76 : decode cX6_begins 76 = .ok (.aload_n 0, 1) := by decide +kernel
theorem dX6_begins_77 : decode cX6_begins 77 = .ok (.getfield 13, 3) := by decide +kernel
theorem dX6_begins_80 : decode cX6_begins 80 = .ok (.iload_n 2, 1) := by decide +kernel
theorem dX6_begins_81 : decode cX6_begins 81 = .ok (.iaload, 1) := by decide +kernel
theorem dX6_begins_82 : decode cX6_begins 82 = .ok (.iconst 2, 1) := by decide +kernel
theorem dX6_begins_83 : decode cX6_begins 83 = .ok (.if_icmp .ne 7, 3) := by decide +kernel
theorem dX6_begins_86 : decode cX6_begins 86 = .ok (.iconst 1, 1) := by decide +kernel
theorem dX6_begins_87 : decode cX6_begins 87 = .ok (.goto 4, 3) := by decide +kernel
theorem dX6_begins_90 : decode cX6_begins 90 = .ok (.iconst 0, 1) := by decide +kernel
theorem dX6_begins_91 : decode cX6_begins 91 = .ok (.bastore, 1) := by decide +kernel
theorem dX6_begins_92 : decode cX6_begins 92 = .ok (.iinc 2 1, 3) := by decide +kernel
theorem dX6_begins_95 : decode cX6_begins 95 = .ok (.goto (-83), 3) := by decide +kernel
theorem dX6_begins_98 : decode cX6_begins 98 = .ok (.iconst 0, 1) := by decide +kernel
theorem dX6_begins_99 : decode cX6_begins 99 = .ok (.istore_n 2, 1) := by decide +kernel
theorem dX6_begins_100 : decode cX6_begins 100 = .ok (.iconst 0, 1) := by decide +kernel
theorem dX6_begins_101 : decode cX6_begins 101 = .ok (.istore_n 3, 1) := by decide +kernel
theorem dX6_begins_102 : decode cX6_begins 102 = .ok (.iload_n 3, 1) := by decide +kernel
theorem dX6_begins_103 : decode cX6_begins 103 = .ok (.aload_n 0, 1) := by decide +kernel
theorem dX6_begins_104 : decode cX6_begins 104 = .ok (.getfield 125, 3) := by decide +kernel
theorem dX6_begins_107 : decode cX6_begins 107 = .ok (.if_icmp .ge 58, 3) := by decide +kernel
theorem dX6_begins_110 : decode cX6_begins 110 = .ok (.aload_n 0, 1) := by decide +kernel
theorem dX6_begins_111 : decode cX6_begins 111 = .ok (.getfield 52, 3) := by decide +kernel
theorem dX6_begins_114 : decode cX6_begins 114 = .ok (.iload_n 3, 1) := by decide +kernel
theorem dX6_begins_115 : decode cX6_begins 115 = .ok (.aload_n 0, 1) := by decide +kernel
theorem dX6_begins_116 : decode cX6_begins 116 = .ok (.getfield 31, 3) := by decide +kernel
theorem dX6_begins_119 : decode cX6_begins 119 = .ok (.iload_n 3, 1) := by decide +kernel
theorem dX6_begins_120 : decode cX6_begins 120 = .ok (.iaload, 1) := by decide +kernel
theorem dX6_begins_121 : decode cX6_begins 121 = .ok (.bipush 9, 2) := by decide +kernel
theorem dX6_begins_123 : decode cX6_begins 123 = .ok (.if_icmp .ne 15, 3) := by decide +kernel
theorem dX6_begins_126 : decode cX6_begins 126 = .ok (.iload_n 2, 1) := by decide +kernel
theorem dX6_begins_127 : decode cX6_begins 127 = .ok (.bipush 20, 2) := by decide +kernel
theorem dX6_begins_129 : decode cX6_begins 129 = .ok (.if_icmp .ge 9, 3) := by decide +kernel
theorem dX6_begins_132 : decode cX6_begins 132 = .ok (.iconst 1, 1) := by decide +kernel
theorem dX6_begins_133 : decode cX6_begins 133 = .ok (.iload_n 2, 1) := by decide +kernel
theorem dX6_begins_134 : decode cX6_begins 134 = .ok (.ishl, 1) := by decide +kernel
theorem dX6_begins_135 : decode cX6_begins 135 = .ok (.goto 4, 3) := by decide +kernel
theorem dX6_begins_138 : decode cX6_begins 138 = .ok (.iconst 0, 1) := by decide +kernel
theorem dX6_begins_139 : decode cX6_begins 139 = .ok (.iastore, 1) := by decide +kernel
theorem dX6_begins_140 : decode cX6_begins 140 = .ok (.iload_n 2, 1) := by decide +kernel
theorem dX6_begins_141 : decode cX6_begins 141 = .ok (.aload_n 0, 1) := by decide +kernel
theorem dX6_begins_142 : decode cX6_begins 142 = .ok (.getfield 31, 3) := by decide +kernel
theorem dX6_begins_145 : decode cX6_begins 145 = .ok (.iload_n 3, 1) := by decide +kernel
theorem dX6_begins_146 : decode cX6_begins 146 = .ok (.iaload, 1) := by decide +kernel
theorem dX6_begins_147 : decode cX6_begins 147 = .ok (.bipush 9, 2) := by decide +kernel
theorem dX6_begins_149 : decode cX6_begins 149 = .ok (.if_icmp .ne 7, 3) := by decide +kernel
theorem dX6_begins_152 : decode cX6_begins 152 = .ok (.iconst 1, 1) := by decide +kernel
theorem dX6_begins_153 : decode cX6_begins 153 = .ok (.goto 4, 3) := by decide +kernel
theorem dX6_begins_156 : decode cX6_begins 156 = .ok (.iconst 0, 1) := by decide +kernel
theorem dX6_begins_157 : decode cX6_begins 157 = .ok (.iadd, 1) := by decide +kernel
theorem dX6_begins_158 : decode cX6_begins 158 = .ok (.istore_n 2, 1) := by decide +kernel
theorem dX6_begins_159 : decode cX6_begins 159 = .ok (.iinc 3 1, 3) := by decide +kernel
theorem dX6_begins_162 : decode cX6_begins 162 = .ok (.goto (-60), 3) := by decide +kernel
theorem dX6_begins_165 : decode cX6_begins 165 = .ok (.return_, 1) := by decide +kernel
theorem dX6_sets_0 : decode cX6_sets 0 = .ok (.aload_n 0, 1) := by decide +kernel
theorem dX6_sets_1 : decode cX6_sets 1 = .ok (.getfield 46, 3) := by decide +kernel
theorem dX6_sets_4 : decode cX6_sets 4 = .ok (.iload_n 1, 1) := by decide +kernel
theorem dX6_sets_5 : decode cX6_sets 5 = .ok (.iaload, 1) := by decide +kernel
theorem dX6_sets_6 : decode cX6_sets 6 = .ok (.ifCond .eq 13, 3) := by decide +kernel
theorem dX6_sets_9 : decode cX6_sets 9 = .ok (.iload_n 2, 1) := by decide +kernel
theorem dX6_sets_10 : decode cX6_sets 10 = .ok (.aload_n 0, 1) := by decide +kernel
theorem dX6_sets_11 : decode cX6_sets 11 = .ok (.getfield 46, 3) := by decide +kernel
theorem dX6_sets_14 : decode cX6_sets 14 = .ok (.iload_n 1, 1) := by decide +kernel
theorem dX6_sets_15 : decode cX6_sets 15 = .ok (.iaload, 1) := by decide +kernel
theorem dX6_sets_16 : decode cX6_sets 16 = .ok (.if_icmp .ge 10, 3) := by decide +kernel
theorem dX6_sets_19 : decode cX6_sets 19 = .ok (.aload_n 0, 1) := by decide +kernel
theorem dX6_sets_20 : decode cX6_sets 20 = .ok (.getfield 46, 3) := by decide +kernel
theorem dX6_sets_23 : decode cX6_sets 23 = .ok (.iload_n 1, 1) := by decide +kernel
theorem dX6_sets_24 : decode cX6_sets 24 = .ok (.iload_n 2, 1) := by decide +kernel
theorem dX6_sets_25 : decode cX6_sets 25 = .ok (.iastore, 1) := by decide +kernel
theorem dX6_sets_26 : decode cX6_sets 26 = .ok (.aload_n 0, 1) := by decide +kernel
theorem dX6_sets_27 : decode cX6_sets 27 = .ok (.getfield 55, 3) := by decide +kernel
theorem dX6_sets_30 : decode cX6_sets 30 = .ok (.iload_n 1, 1) := by decide +kernel
theorem dX6_sets_31 : decode cX6_sets 31 = .ok (.iconst 0, 1) := by decide +kernel
theorem dX6_sets_32 : decode cX6_sets 32 = .ok (.bastore, 1) := by decide +kernel
theorem dX6_sets_33 : decode cX6_sets 33 = .ok (.return_, 1) := by decide +kernel
theorem dX6_gives_0 : decode cX6_gives 0 = .ok (.iload_n 2, 1) := by decide +kernel
theorem dX6_gives_1 : decode cX6_gives 1 = .ok (.ifCond .eq 65, 3) := by decide +kernel
theorem dX6_gives_4 : decode cX6_gives 4 = .ok (.iload_n 2, 1) := by decide +kernel
theorem dX6_gives_5 : decode cX6_gives 5 = .ok (.aload_n 0, 1) := by decide +kernel
theorem dX6_gives_6 : decode cX6_gives 6 = .ok (.getfield 22, 3) := by decide +kernel
theorem dX6_gives_9 : decode cX6_gives 9 = .ok (.aload_n 0, 1) := by decide +kernel
theorem dX6_gives_10 : decode cX6_gives 10 = .ok (.getfield 176, 3) := by decide +kernel
theorem dX6_gives_13 : decode cX6_gives 13 = .ok (.ifCond .eq 15, 3) := by decide +kernel
theorem dX6_gives_16 : decode cX6_gives 16 = .ok (.bipush 6, 2) := by decide +kernel
theorem dX6_gives_18 : decode cX6_gives 18 = .ok (.aload_n 0, 1) := by decide +kernel
theorem dX6_gives_19 : decode cX6_gives 19 = .ok (.getfield 13, 3) := by decide +kernel
theorem dX6_gives_22 : decode cX6_gives 22 = .ok (.iload_n 1, 1) := by decide +kernel
theorem dX6_gives_23 : decode cX6_gives 23 = .ok (.iaload, 1) := by decide +kernel
theorem dX6_gives_24 : decode cX6_gives 24 = .ok (.iadd, 1) := by decide +kernel
theorem dX6_gives_25 : decode cX6_gives 25 = .ok (.goto 9, 3) := by decide +kernel
theorem dX6_gives_28 : decode cX6_gives 28 = .ok (.aload_n 0, 1) := by decide +kernel
theorem dX6_gives_29 : decode cX6_gives 29 = .ok (.getfield 13, 3) := by decide +kernel
theorem dX6_gives_32 : decode cX6_gives 32 = .ok (.iload_n 1, 1) := by decide +kernel
theorem dX6_gives_33 : decode cX6_gives 33 = .ok (.iaload, 1) := by decide +kernel
theorem dX6_gives_34 : decode cX6_gives 34 = .ok (.iaload, 1) := by decide +kernel
theorem dX6_gives_35 : decode cX6_gives 35 = .ok (.if_icmp .gt 31, 3) := by decide +kernel
theorem dX6_gives_38 : decode cX6_gives 38 = .ok (.aload_n 0, 1) := by decide +kernel
theorem dX6_gives_39 : decode cX6_gives 39 = .ok (.getfield 59, 3) := by decide +kernel
theorem dX6_gives_42 : decode cX6_gives 42 = .ok (.iload_n 1, 1) := by decide +kernel
theorem dX6_gives_43 : decode cX6_gives 43 = .ok (.baload, 1) := by decide +kernel
theorem dX6_gives_44 : decode cX6_gives 44 = .ok (.ifCond .ne 22, 3) := by decide +kernel
theorem dX6_gives_47 : decode cX6_gives 47 = .ok (.aload_n 0, 1) := by decide +kernel
theorem dX6_gives_48 : decode cX6_gives 48 = .ok (.getfield 13, 3) := by decide +kernel
theorem dX6_gives_51 : decode cX6_gives 51 = .ok (.iload_n 1, 1) := by decide +kernel
theorem dX6_gives_52 : decode cX6_gives 52 = .ok (.iaload, 1) := by decide +kernel
theorem dX6_gives_53 : decode cX6_gives 53 = .ok (.iconst 1, 1) := by decide +kernel
theorem dX6_gives_54 : decode cX6_gives 54 = .ok (.if_icmp .ne 13, 3) := by decide +kernel
theorem dX6_gives_57 : decode cX6_gives 57 = .ok (.aload_n 0, 1) := by decide +kernel
theorem dX6_gives_58 : decode cX6_gives 58 = .ok (.getfield 65, 3) := by decide +kernel
theorem dX6_gives_61 : decode cX6_gives 61 = .ok (.iload_n 1, 1) := by decide +kernel
theorem dX6_gives_62 : decode cX6_gives 62 = .ok (.baload, 1) := by decide +kernel
theorem dX6_gives_63 : decode cX6_gives 63 = .ok (.ifCond .ne 4, 3) := by decide +kernel
theorem dX6_gives_66 : decode cX6_gives 66 = .ok (.return_, 1) := by decide +kernel
theorem dX6_gives_67 : decode cX6_gives 67 = .ok (.aload_n 0, 1) := by decide +kernel
theorem dX6_gives_68 : decode cX6_gives 68 = .ok (.getfield 13, 3) := by decide +kernel
theorem dX6_gives_71 : decode cX6_gives 71 = .ok (.iload_n 1, 1) := by decide +kernel
theorem dX6_gives_72 : decode cX6_gives 72 = .ok (.iaload, 1) := by decide +kernel
theorem dX6_gives_73 : decode cX6_gives 73 = .ok (.iconst 2, 1) := by decide +kernel
theorem dX6_gives_74 : decode cX6_gives 74 = .ok (.if_icmp .ne 7, 3) := by decide +kernel
theorem dX6_gives_77 : decode cX6_gives 77 = .ok (.iconst 1, 1) := by decide +kernel
theorem dX6_gives_78 : decode cX6_gives 78 = .ok (.goto 15, 3) := by decide +kernel
theorem dX6_gives_81 : decode cX6_gives 81 = .ok (.iload_n 2, 1) := by decide +kernel
theorem dX6_gives_82 : decode cX6_gives 82 = .ok (.iconst 4, 1) := by decide +kernel
theorem dX6_gives_83 : decode cX6_gives 83 = .ok (.if_icmp .ge 9, 3) := by decide +kernel
theorem dX6_gives_86 : decode cX6_gives 86 = .ok (.iload_n 2, 1) := by decide +kernel
theorem dX6_gives_87 : decode cX6_gives 87 = .ok (.iconst 1, 1) := by decide +kernel
theorem dX6_gives_88 : decode cX6_gives 88 = .ok (.iadd, 1) := by decide +kernel
theorem dX6_gives_89 : decode cX6_gives 89 = .ok (.goto 4, 3) := by decide +kernel
theorem dX6_gives_92 : decode cX6_gives 92 = .ok (.iconst 4, 1) := by decide +kernel
theorem dX6_gives_93 : decode cX6_gives 93 = .ok (.istore 4, 2) := by decide +kernel
theorem dX6_gives_95 : decode cX6_gives 95 = .ok (.aload_n 0, 1) := by decide +kernel
theorem dX6_gives_96 : decode cX6_gives 96 = .ok (.getfield 46, 3) := by decide +kernel
theorem dX6_gives_99 : decode cX6_gives 99 = .ok (.iload_n 1, 1) := by decide +kernel
theorem dX6_gives_100 : decode cX6_gives 100 = .ok (.iaload, 1) := by decide +kernel
theorem dX6_gives_101 : decode cX6_gives 101 = .ok (.ifCond .eq 14, 3) := by decide +kernel
theorem dX6_gives_104 : decode cX6_gives 104 = .ok (.iload 4, 2) := by decide +kernel
theorem dX6_gives_106 : decode cX6_gives 106 = .ok (.aload_n 0, 1) := by decide +kernel
theorem dX6_gives_107 : decode cX6_gives 107 = .ok (.getfield 46, 3) := by decide +kernel
theorem dX6_gives_110 : decode cX6_gives 110 = .ok (.iload_n 1, 1) := by decide +kernel
theorem dX6_gives_111 : decode cX6_gives 111 = .ok (.iaload, 1) := by decide +kernel
theorem dX6_gives_112 : decode cX6_gives 112 = .ok (.if_icmp .ge 10, 3) := by decide +kernel
theorem dX6_gives_115 : decode cX6_gives 115 = .ok (.aload_n 0, 1) := by decide +kernel
theorem dX6_gives_116 : decode cX6_gives 116 = .ok (.getfield 49, 3) := by decide +kernel
theorem dX6_gives_119 : decode cX6_gives 119 = .ok (.iload_n 1, 1) := by decide +kernel
theorem dX6_gives_120 : decode cX6_gives 120 = .ok (.iload_n 3, 1) := by decide +kernel
theorem dX6_gives_121 : decode cX6_gives 121 = .ok (.iastore, 1) := by decide +kernel
theorem dX6_gives_122 : decode cX6_gives 122 = .ok (.aload_n 0, 1) := by decide +kernel
theorem dX6_gives_123 : decode cX6_gives 123 = .ok (.iload_n 1, 1) := by decide +kernel
theorem dX6_gives_124 : decode cX6_gives 124 = .ok (.iload 4, 2) := by decide +kernel
theorem dX6_gives_126 : decode cX6_gives 126 = .ok (.invokevirtual 183, 3) := by decide +kernel
theorem dX6_gives_129 : decode cX6_gives 129 = .ok (.return_, 1) := by decide +kernel
theorem dX6_isVessel_0 : decode cX6_isVessel 0 = .ok (.aload_n 0, 1) := by decide +kernel
theorem dX6_isVessel_1 : decode cX6_isVessel 1 = .ok (.getfield 13, 3) := by decide +kernel
theorem dX6_isVessel_4 : decode cX6_isVessel 4 = .ok (.iload_n 1, 1) := by decide +kernel
theorem dX6_isVessel_5 : decode cX6_isVessel 5 = .ok (.iaload, 1) := by decide +kernel
theorem dX6_isVessel_6 : decode cX6_isVessel 6 = .ok (.ifCond .eq 13, 3) := by decide +kernel
theorem dX6_isVessel_9 : decode cX6_isVessel 9 = .ok (.aload_n 0, 1) := by decide +kernel
theorem dX6_isVessel_10 : decode cX6_isVessel 10 = .ok (.getfield 13, 3) := by decide +kernel
theorem dX6_isVessel_13 : decode cX6_isVessel 13 = .ok (.iload_n 1, 1) := by decide +kernel
theorem dX6_isVessel_14 : decode cX6_isVessel 14 = .ok (.iaload, 1) := by decide +kernel
theorem dX6_isVessel_15 : decode cX6_isVessel 15 = .ok (.iconst 5, 1) := by decide +kernel
theorem dX6_isVessel_16 : decode cX6_isVessel 16 = .ok (.if_icmp .ne 7, 3) := by decide +kernel
theorem dX6_isVessel_19 : decode cX6_isVessel 19 = .ok (.iconst 1, 1) := by decide +kernel
theorem dX6_isVessel_20 : decode cX6_isVessel 20 = .ok (.goto 4, 3) := by decide +kernel
theorem dX6_isVessel_23 : decode cX6_isVessel 23 = .ok (.iconst 0, 1) := by decide +kernel
theorem dX6_isVessel_24 : decode cX6_isVessel 24 = .ok (.ireturn, 1) := by decide +kernel
theorem dX6_cleans_0 : decode cX6_cleans 0 = .ok (.aload_n 0, 1) := by decide +kernel
theorem dX6_cleans_1 : decode cX6_cleans 1 = .ok (.getfield 46, 3) := by decide +kernel
theorem dX6_cleans_4 : decode cX6_cleans 4 = .ok (.iload_n 1, 1) := by decide +kernel
theorem dX6_cleans_5 : decode cX6_cleans 5 = .ok (.iconst 0, 1) := by decide +kernel
theorem dX6_cleans_6 : decode cX6_cleans 6 = .ok (.iastore, 1) := by decide +kernel
theorem dX6_cleans_7 : decode cX6_cleans 7 = .ok (.aload_n 0, 1) := by decide +kernel
theorem dX6_cleans_8 : decode cX6_cleans 8 = .ok (.getfield 49, 3) := by decide +kernel
theorem dX6_cleans_11 : decode cX6_cleans 11 = .ok (.iload_n 1, 1) := by decide +kernel
theorem dX6_cleans_12 : decode cX6_cleans 12 = .ok (.iconst 0, 1) := by decide +kernel
theorem dX6_cleans_13 : decode cX6_cleans 13 = .ok (.iastore, 1) := by decide +kernel
theorem dX6_cleans_14 : decode cX6_cleans 14 = .ok (.aload_n 0, 1) := by decide +kernel
theorem dX6_cleans_15 : decode cX6_cleans 15 = .ok (.getfield 55, 3) := by decide +kernel
theorem dX6_cleans_18 : decode cX6_cleans 18 = .ok (.iload_n 1, 1) := by decide +kernel
theorem dX6_cleans_19 : decode cX6_cleans 19 = .ok (.iconst 0, 1) := by decide +kernel
theorem dX6_cleans_20 : decode cX6_cleans 20 = .ok (.bastore, 1) := by decide +kernel
theorem dX6_cleans_21 : decode cX6_cleans 21 = .ok (.return_, 1) := by decide +kernel
theorem dX6_washes_0 : decode cX6_washes 0 = .ok (.aload_n 0, 1) := by decide +kernel
theorem dX6_washes_1 : decode cX6_washes 1 = .ok (.iload_n 1, 1) := by decide +kernel
theorem dX6_washes_2 : decode cX6_washes 2 = .ok (.invokevirtual 187, 3) := by decide +kernel
theorem dX6_washes_5 : decode cX6_washes 5 = .ok (.ifCond .eq 8, 3) := by decide +kernel
theorem dX6_washes_8 : decode cX6_washes 8 = .ok (.aload_n 0, 1) := by decide +kernel
theorem dX6_washes_9 : decode cX6_washes 9 = .ok (.iload_n 1, 1) := by decide +kernel
theorem dX6_washes_10 : decode cX6_washes 10 = .ok (.invokevirtual 190, 3) := by decide +kernel
theorem dX6_washes_13 : decode cX6_washes 13 = .ok (.aload_n 0, 1) := by decide +kernel
theorem dX6_washes_14 : decode cX6_washes 14 = .ok (.getfield 13, 3) := by decide +kernel
theorem dX6_washes_17 : decode cX6_washes 17 = .ok (.iload_n 1, 1) := by decide +kernel
theorem dX6_washes_18 : decode cX6_washes 18 = .ok (.iaload, 1) := by decide +kernel
theorem dX6_washes_19 : decode cX6_washes 19 = .ok (.iconst 3, 1) := by decide +kernel
theorem dX6_washes_20 : decode cX6_washes 20 = .ok (.if_icmp .ne 30, 3) := by decide +kernel
theorem dX6_washes_23 : decode cX6_washes 23 = .ok (.aload_n 0, 1) := by decide +kernel
theorem dX6_washes_24 : decode cX6_washes 24 = .ok (.getfield 46, 3) := by decide +kernel
theorem dX6_washes_27 : decode cX6_washes 27 = .ok (.iload_n 1, 1) := by decide +kernel
theorem dX6_washes_28 : decode cX6_washes 28 = .ok (.iaload, 1) := by decide +kernel
theorem dX6_washes_29 : decode cX6_washes 29 = .ok (.ifCond .le 21, 3) := by decide +kernel
theorem dX6_washes_32 : decode cX6_washes 32 = .ok (.aload_n 0, 1) := by decide +kernel
theorem dX6_washes_33 : decode cX6_washes 33 = .ok (.getfield 55, 3) := by decide +kernel
theorem dX6_washes_36 : decode cX6_washes 36 = .ok (.iload_n 1, 1) := by decide +kernel
theorem dX6_washes_37 : decode cX6_washes 37 = .ok (.aload_n 0, 1) := by decide +kernel
theorem dX6_washes_38 : decode cX6_washes 38 = .ok (.getfield 180, 3) := by decide +kernel
theorem dX6_washes_41 : decode cX6_washes 41 = .ok (.ifCond .ne 7, 3) := by decide +kernel
theorem dX6_washes_44 : decode cX6_washes 44 = .ok (.iconst 1, 1) := by decide +kernel
theorem dX6_washes_45 : decode cX6_washes 45 = .ok (.goto 4, 3) := by decide +kernel
theorem dX6_washes_48 : decode cX6_washes 48 = .ok (.iconst 0, 1) := by decide +kernel
theorem dX6_washes_49 : decode cX6_washes 49 = .ok (.bastore, 1) := by decide +kernel
theorem dX6_washes_50 : decode cX6_washes 50 = .ok (.return_, 1) := by decide +kernel
theorem dX6_joins_0 : decode cX6_joins 0 = .ok (.iconst 1, 1) := by decide +kernel
theorem dX6_joins_1 : decode cX6_joins 1 = .ok (.istore_n 1, 1) := by decide +kernel
theorem dX6_joins_2 : decode cX6_joins 2 = .ok (.iload_n 1, 1) := by decide +kernel
theorem dX6_joins_3 : decode cX6_joins 3 = .ok (.aload_n 0, 1) := by decide +kernel
theorem dX6_joins_4 : decode cX6_joins 4 = .ok (.getfield 101, 3) := by decide +kernel
theorem dX6_joins_7 : decode cX6_joins 7 = .ok (.if_icmp .ge 156, 3) := by decide +kernel
theorem dX6_joins_10 : decode cX6_joins 10 = .ok (.iload_n 1, 1) := by decide +kernel
theorem dX6_joins_11 : decode cX6_joins 11 = .ok (.iconst 1, 1) := by decide +kernel
theorem dX6_joins_12 : decode cX6_joins 12 = .ok (.isub, 1) := by decide +kernel
theorem dX6_joins_13 : decode cX6_joins 13 = .ok (.istore_n 2, 1) := by decide +kernel
theorem dX6_joins_14 : decode cX6_joins 14 = .ok (.aload_n 0, 1) := by decide +kernel
theorem dX6_joins_15 : decode cX6_joins 15 = .ok (.getfield 13, 3) := by decide +kernel
theorem dX6_joins_18 : decode cX6_joins 18 = .ok (.iload_n 1, 1) := by decide +kernel
theorem dX6_joins_19 : decode cX6_joins 19 = .ok (.iaload, 1) := by decide +kernel
theorem dX6_joins_20 : decode cX6_joins 20 = .ok (.iconst 5, 1) := by decide +kernel
theorem dX6_joins_21 : decode cX6_joins 21 = .ok (.if_icmp .ne 136, 3) := by decide +kernel
theorem dX6_joins_24 : decode cX6_joins 24 = .ok (.aload_n 0, 1) := by decide +kernel
theorem dX6_joins_25 : decode cX6_joins 25 = .ok (.getfield 62, 3) := by decide +kernel
theorem dX6_joins_28 : decode cX6_joins 28 = .ok (.iload_n 1, 1) := by decide +kernel
theorem dX6_joins_29 : decode cX6_joins 29 = .ok (.baload, 1) := by decide +kernel
theorem dX6_joins_30 : decode cX6_joins 30 = .ok (.ifCond .ne 127, 3) := by decide +kernel
theorem dX6_joins_33 : decode cX6_joins 33 = .ok (.aload_n 0, 1) := by decide +kernel
theorem dX6_joins_34 : decode cX6_joins 34 = .ok (.getfield 59, 3) := by decide +kernel
theorem dX6_joins_37 : decode cX6_joins 37 = .ok (.iload_n 1, 1) := by decide +kernel
theorem dX6_joins_38 : decode cX6_joins 38 = .ok (.baload, 1) := by decide +kernel
theorem dX6_joins_39 : decode cX6_joins 39 = .ok (.ifCond .ne 118, 3) := by decide +kernel
theorem dX6_joins_42 : decode cX6_joins 42 = .ok (.aload_n 0, 1) := by decide +kernel
theorem dX6_joins_43 : decode cX6_joins 43 = .ok (.getfield 59, 3) := by decide +kernel
theorem dX6_joins_46 : decode cX6_joins 46 = .ok (.iload_n 2, 1) := by decide +kernel
theorem dX6_joins_47 : decode cX6_joins 47 = .ok (.baload, 1) := by decide +kernel
theorem dX6_joins_48 : decode cX6_joins 48 = .ok (.ifCond .ne 109, 3) := by decide +kernel
theorem dX6_joins_51 : decode cX6_joins 51 = .ok (.aload_n 0, 1) := by decide +kernel
theorem dX6_joins_52 : decode cX6_joins 52 = .ok (.getfield 46, 3) := by decide +kernel
theorem dX6_joins_55 : decode cX6_joins 55 = .ok (.iload_n 1, 1) := by decide +kernel
theorem dX6_joins_56 : decode cX6_joins 56 = .ok (.iaload, 1) := by decide +kernel
theorem dX6_joins_57 : decode cX6_joins 57 = .ok (.aload_n 0, 1) := by decide +kernel
theorem dX6_joins_58 : decode cX6_joins 58 = .ok (.getfield 46, 3) := by decide +kernel
theorem dX6_joins_61 : decode cX6_joins 61 = .ok (.iload_n 2, 1) := by decide +kernel
theorem dX6_joins_62 : decode cX6_joins 62 = .ok (.iaload, 1) := by decide +kernel
theorem dX6_joins_63 : decode cX6_joins 63 = .ok (.if_icmp .ne 6, 3) := by decide +kernel
theorem dX6_joins_66 : decode cX6_joins 66 = .ok (.goto 91, 3) := by decide +kernel
theorem dX6_joins_69 : decode cX6_joins 69 = .ok (.aload_n 0, 1) := by decide +kernel
theorem dX6_joins_70 : decode cX6_joins 70 = .ok (.getfield 46, 3) := by decide +kernel
theorem dX6_joins_73 : decode cX6_joins 73 = .ok (.iload_n 2, 1) := by decide +kernel
theorem dX6_joins_74 : decode cX6_joins 74 = .ok (.iaload, 1) := by decide +kernel
theorem dX6_joins_75 : decode cX6_joins 75 = .ok (.ifCond .eq 27, 3) := by decide +kernel
theorem dX6_joins_78 : decode cX6_joins 78 = .ok (.aload_n 0, 1) := by decide +kernel
theorem dX6_joins_79 : decode cX6_joins 79 = .ok (.getfield 46, 3) := by decide +kernel
theorem dX6_joins_82 : decode cX6_joins 82 = .ok (.iload_n 1, 1) := by decide +kernel
theorem dX6_joins_83 : decode cX6_joins 83 = .ok (.iaload, 1) := by decide +kernel
theorem dX6_joins_84 : decode cX6_joins 84 = .ok (.ifCond .eq 22, 3) := by decide +kernel
theorem dX6_joins_87 : decode cX6_joins 87 = .ok (.aload_n 0, 1) := by decide +kernel
theorem dX6_joins_88 : decode cX6_joins 88 = .ok (.getfield 46, 3) := by decide +kernel
theorem dX6_joins_91 : decode cX6_joins 91 = .ok (.iload_n 1, 1) := by decide +kernel
theorem dX6_joins_92 : decode cX6_joins 92 = .ok (.iaload, 1) := by decide +kernel
theorem dX6_joins_93 : decode cX6_joins 93 = .ok (.aload_n 0, 1) := by decide +kernel
theorem dX6_joins_94 : decode cX6_joins 94 = .ok (.getfield 46, 3) := by decide +kernel
theorem dX6_joins_97 : decode cX6_joins 97 = .ok (.iload_n 2, 1) := by decide +kernel
theorem dX6_joins_98 : decode cX6_joins 98 = .ok (.iaload, 1) := by decide +kernel
theorem dX6_joins_99 : decode cX6_joins 99 = .ok (.if_icmp .ge 7, 3) := by decide +kernel
theorem dX6_joins_102 : decode cX6_joins 102 = .ok (.iconst 1, 1) := by decide +kernel
theorem dX6_joins_103 : decode cX6_joins 103 = .ok (.goto 4, 3) := by decide +kernel
theorem dX6_joins_106 : decode cX6_joins 106 = .ok (.iconst 0, 1) := by decide +kernel
theorem dX6_joins_107 : decode cX6_joins 107 = .ok (.istore_n 3, 1) := by decide +kernel
theorem dX6_joins_108 : decode cX6_joins 108 = .ok (.iload_n 3, 1) := by decide +kernel
theorem dX6_joins_109 : decode cX6_joins 109 = .ok (.ifCond .eq 7, 3) := by decide +kernel
theorem dX6_joins_112 : decode cX6_joins 112 = .ok (.iload_n 2, 1) := by decide +kernel
theorem dX6_joins_113 : decode cX6_joins 113 = .ok (.goto 4, 3) := by decide +kernel
theorem dX6_joins_116 : decode cX6_joins 116 = .ok (.iload_n 1, 1) := by decide +kernel
theorem dX6_joins_117 : decode cX6_joins 117 = .ok (.istore 4, 2) := by decide +kernel
theorem dX6_joins_119 : decode cX6_joins 119 = .ok (.iload_n 3, 1) := by decide +kernel
theorem dX6_joins_120 : decode cX6_joins 120 = .ok (.ifCond .eq 7, 3) := by decide +kernel
theorem dX6_joins_123 : decode cX6_joins 123 = .ok (.iload_n 1, 1) := by decide +kernel
theorem dX6_joins_124 : decode cX6_joins 124 = .ok (.goto 4, 3) := by decide +kernel
theorem dX6_joins_127 : decode cX6_joins 127 = .ok (.iload_n 2, 1) := by decide +kernel
theorem dX6_joins_128 : decode cX6_joins 128 = .ok (.istore 5, 2) := by decide +kernel
theorem dX6_joins_130 : decode cX6_joins 130 = .ok (.aload_n 0, 1) := by decide +kernel
theorem dX6_joins_131 : decode cX6_joins 131 = .ok (.getfield 49, 3) := by decide +kernel
theorem dX6_joins_134 : decode cX6_joins 134 = .ok (.iload 4, 2) := by decide +kernel
theorem dX6_joins_136 : decode cX6_joins 136 = .ok (.aload_n 0, 1) := by decide +kernel
theorem dX6_joins_137 : decode cX6_joins 137 = .ok (.getfield 49, 3) := by decide +kernel
theorem dX6_joins_140 : decode cX6_joins 140 = .ok (.iload 5, 2) := by decide +kernel
theorem dX6_joins_142 : decode cX6_joins 142 = .ok (.iaload, 1) := by decide +kernel
theorem dX6_joins_143 : decode cX6_joins 143 = .ok (.iastore, 1) := by decide +kernel
theorem dX6_joins_144 : decode cX6_joins 144 = .ok (.aload_n 0, 1) := by decide +kernel
theorem dX6_joins_145 : decode cX6_joins 145 = .ok (.iload 4, 2) := by decide +kernel
theorem dX6_joins_147 : decode cX6_joins 147 = .ok (.aload_n 0, 1) := by decide +kernel
theorem dX6_joins_148 : decode cX6_joins 148 = .ok (.getfield 46, 3) := by decide +kernel
theorem dX6_joins_151 : decode cX6_joins 151 = .ok (.iload 5, 2) := by decide +kernel
theorem dX6_joins_153 : decode cX6_joins 153 = .ok (.iaload, 1) := by decide +kernel
theorem dX6_joins_154 : decode cX6_joins 154 = .ok (.invokevirtual 183, 3) := by decide +kernel
theorem dX6_joins_157 : decode cX6_joins 157 = .ok (.iinc 1 1, 3) := by decide +kernel
theorem dX6_joins_160 : decode cX6_joins 160 = .ok (.goto (-158), 3) := by decide +kernel
theorem dX6_joins_163 : decode cX6_joins 163 = .ok (.return_, 1) := by decide +kernel
theorem dX6_does_0 : decode cX6_does 0 = .ok (.aload_n 0, 1) := by decide +kernel
theorem dX6_does_1 : decode cX6_does 1 = .ok (.getfield 46, 3) := by decide +kernel
theorem dX6_does_4 : decode cX6_does 4 = .ok (.iload_n 2, 1) := by decide +kernel
theorem dX6_does_5 : decode cX6_does 5 = .ok (.iaload, 1) := by decide +kernel
theorem dX6_does_6 : decode cX6_does 6 = .ok (.istore 5, 2) := by decide +kernel
theorem dX6_does_8 : decode cX6_does 8 = .ok (.aload_n 0, 1) := by decide +kernel
theorem dX6_does_9 : decode cX6_does 9 = .ok (.getfield 49, 3) := by decide +kernel
theorem dX6_does_12 : decode cX6_does 12 = .ok (.iload_n 2, 1) := by decide +kernel
theorem dX6_does_13 : decode cX6_does 13 = .ok (.iaload, 1) := by decide +kernel
theorem dX6_does_14 : decode cX6_does 14 = .ok (.istore 6, 2) := by decide +kernel
theorem dX6_does_16 : decode cX6_does 16 = .ok (.iload_n 1, 1) := by decide +kernel
theorem dX6_does_17 : decode cX6_does 17 = .ok (.invokestatic 128, 3) := by decide +kernel
theorem dX6_does_20 : decode cX6_does 20 = .ok (.ifCond .eq 12, 3) := by decide +kernel
theorem dX6_does_23 : decode cX6_does 23 = .ok (.aload_n 0, 1) := by decide +kernel
theorem dX6_does_24 : decode cX6_does 24 = .ok (.getfield 46, 3) := by decide +kernel
theorem dX6_does_27 : decode cX6_does 27 = .ok (.iload_n 3, 1) := by decide +kernel
theorem dX6_does_28 : decode cX6_does 28 = .ok (.iaload, 1) := by decide +kernel
theorem dX6_does_29 : decode cX6_does 29 = .ok (.goto 4, 3) := by decide +kernel
theorem dX6_does_32 : decode cX6_does 32 = .ok (.iconst 0, 1) := by decide +kernel
theorem dX6_does_33 : decode cX6_does 33 = .ok (.istore 7, 2) := by decide +kernel
theorem dX6_does_35 : decode cX6_does 35 = .ok (.iload_n 1, 1) := by decide +kernel
theorem dX6_does_36 : decode cX6_does 36 = .ok (.invokestatic 128, 3) := by decide +kernel
theorem dX6_does_39 : decode cX6_does 39 = .ok (.ifCond .eq 12, 3) := by decide +kernel
theorem dX6_does_42 : decode cX6_does 42 = .ok (.aload_n 0, 1) := by decide +kernel
theorem dX6_does_43 : decode cX6_does 43 = .ok (.getfield 49, 3) := by decide +kernel
theorem dX6_does_46 : decode cX6_does 46 = .ok (.iload_n 3, 1) := by decide +kernel
theorem dX6_does_47 : decode cX6_does 47 = .ok (.iaload, 1) := by decide +kernel
theorem dX6_does_48 : decode cX6_does 48 = .ok (.goto 4, 3) := by decide +kernel
theorem dX6_does_51 : decode cX6_does 51 = .ok (.iconst 0, 1) := by decide +kernel
theorem dX6_does_52 : decode cX6_does 52 = .ok (.istore 8, 2) := by decide +kernel
theorem dX6_does_54 : decode cX6_does 54 = .ok (.iload_n 1, 1) := by decide +kernel
theorem dX6_does_55 : decode cX6_does 55 = .ok (.tableswitch 220 0 8 #[49, 70, 82, 70, 115, 146, 154, 177, 210], 49) := by decide +kernel
theorem dX6_does_104 : decode cX6_does 104 = .ok (.aload_n 0, 1) := by decide +kernel
theorem dX6_does_105 : decode cX6_does 105 = .ok (.iload_n 2, 1) := by decide +kernel
theorem dX6_does_106 : decode cX6_does 106 = .ok (.iload 7, 2) := by decide +kernel
theorem dX6_does_108 : decode cX6_does 108 = .ok (.iload 8, 2) := by decide +kernel
theorem dX6_does_110 : decode cX6_does 110 = .ok (.invokevirtual 194, 3) := by decide +kernel
theorem dX6_does_113 : decode cX6_does 113 = .ok (.aload_n 0, 1) := by decide +kernel
theorem dX6_does_114 : decode cX6_does 114 = .ok (.iload_n 3, 1) := by decide +kernel
theorem dX6_does_115 : decode cX6_does 115 = .ok (.iload 5, 2) := by decide +kernel
theorem dX6_does_117 : decode cX6_does 117 = .ok (.iload 6, 2) := by decide +kernel
theorem dX6_does_119 : decode cX6_does 119 = .ok (.invokevirtual 194, 3) := by decide +kernel
theorem dX6_does_122 : decode cX6_does 122 = .ok (.goto 186, 3) := by decide +kernel
theorem dX6_does_125 : decode cX6_does 125 = .ok (.aload_n 0, 1) := by decide +kernel
theorem dX6_does_126 : decode cX6_does 126 = .ok (.iload_n 2, 1) := by decide +kernel
theorem dX6_does_127 : decode cX6_does 127 = .ok (.iload 7, 2) := by decide +kernel
theorem dX6_does_129 : decode cX6_does 129 = .ok (.iload 8, 2) := by decide +kernel
theorem dX6_does_131 : decode cX6_does 131 = .ok (.invokevirtual 194, 3) := by decide +kernel
theorem dX6_does_134 : decode cX6_does 134 = .ok (.goto 174, 3) := by decide +kernel
theorem dX6_does_137 : decode cX6_does 137 = .ok (.iload 7, 2) := by decide +kernel
theorem dX6_does_139 : decode cX6_does 139 = .ok (.iconst 1, 1) := by decide +kernel
theorem dX6_does_140 : decode cX6_does 140 = .ok (.if_icmp .ne 12, 3) := by decide +kernel
theorem dX6_does_143 : decode cX6_does 143 = .ok (.aload_n 0, 1) := by decide +kernel
theorem dX6_does_144 : decode cX6_does 144 = .ok (.iload_n 2, 1) := by decide +kernel
theorem dX6_does_145 : decode cX6_does 145 = .ok (.iload 7, 2) := by decide +kernel
theorem dX6_does_147 : decode cX6_does 147 = .ok (.iload 8, 2) := by decide +kernel
theorem dX6_does_149 : decode cX6_does 149 = .ok (.invokevirtual 194, 3) := by decide +kernel
theorem dX6_does_152 : decode cX6_does 152 = .ok (.iload 5, 2) := by decide +kernel
theorem dX6_does_154 : decode cX6_does 154 = .ok (.iconst 1, 1) := by decide +kernel
theorem dX6_does_155 : decode cX6_does 155 = .ok (.if_icmp .ne 153, 3) := by decide +kernel
theorem dX6_does_158 : decode cX6_does 158 = .ok (.aload_n 0, 1) := by decide +kernel
theorem dX6_does_159 : decode cX6_does 159 = .ok (.iload_n 3, 1) := by decide +kernel
theorem dX6_does_160 : decode cX6_does 160 = .ok (.iload 5, 2) := by decide +kernel
theorem dX6_does_162 : decode cX6_does 162 = .ok (.iload 6, 2) := by decide +kernel
theorem dX6_does_164 : decode cX6_does 164 = .ok (.invokevirtual 194, 3) := by decide +kernel
theorem dX6_does_167 : decode cX6_does 167 = .ok (.goto 141, 3) := by decide +kernel
theorem dX6_does_170 : decode cX6_does 170 = .ok (.aload_n 0, 1) := by decide +kernel
theorem dX6_does_171 : decode cX6_does 171 = .ok (.iload_n 3, 1) := by decide +kernel
theorem dX6_does_172 : decode cX6_does 172 = .ok (.iload 5, 2) := by decide +kernel
theorem dX6_does_174 : decode cX6_does 174 = .ok (.iload 6, 2) := by decide +kernel
theorem dX6_does_176 : decode cX6_does 176 = .ok (.invokevirtual 194, 3) := by decide +kernel
theorem dX6_does_179 : decode cX6_does 179 = .ok (.aload_n 0, 1) := by decide +kernel
theorem dX6_does_180 : decode cX6_does 180 = .ok (.getfield 25, 3) := by decide +kernel
theorem dX6_does_183 : decode cX6_does 183 = .ok (.iconst 0, 1) := by decide +kernel
theorem dX6_does_184 : decode cX6_does 184 = .ok (.iaload, 1) := by decide +kernel
theorem dX6_does_185 : decode cX6_does 185 = .ok (.iconst 1, 1) := by decide +kernel
theorem dX6_does_186 : decode cX6_does 186 = .ok (.if_icmp .ne 122, 3) := by decide +kernel
theorem dX6_does_189 : decode cX6_does 189 = .ok (.aload_n 0, 1) := by decide +kernel
theorem dX6_does_190 : decode cX6_does 190 = .ok (.iload_n 2, 1) := by decide +kernel
theorem dX6_does_191 : decode cX6_does 191 = .ok (.iload 7, 2) := by decide +kernel
theorem dX6_does_193 : decode cX6_does 193 = .ok (.iload 8, 2) := by decide +kernel
theorem dX6_does_195 : decode cX6_does 195 = .ok (.invokevirtual 194, 3) := by decide +kernel
theorem dX6_does_198 : decode cX6_does 198 = .ok (.goto 110, 3) := by decide +kernel
theorem dX6_does_201 : decode cX6_does 201 = .ok (.aload_n 0, 1) := by decide +kernel
theorem dX6_does_202 : decode cX6_does 202 = .ok (.iload_n 2, 1) := by decide +kernel
theorem dX6_does_203 : decode cX6_does 203 = .ok (.invokevirtual 198, 3) := by decide +kernel
theorem dX6_does_206 : decode cX6_does 206 = .ok (.goto 102, 3) := by decide +kernel
theorem dX6_does_209 : decode cX6_does 209 = .ok (.aload_n 0, 1) := by decide +kernel
theorem dX6_does_210 : decode cX6_does 210 = .ok (.iload_n 2, 1) := by decide +kernel
theorem dX6_does_211 : decode cX6_does 211 = .ok (.invokevirtual 187, 3) := by decide +kernel
theorem dX6_does_214 : decode cX6_does 214 = .ok (.ifCond .eq 94, 3) := by decide +kernel
theorem dX6_does_217 : decode cX6_does 217 = .ok (.aload_n 0, 1) := by decide +kernel
theorem dX6_does_218 : decode cX6_does 218 = .ok (.iload_n 2, 1) := by decide +kernel
theorem dX6_does_219 : decode cX6_does 219 = .ok (.invokevirtual 190, 3) := by decide +kernel
theorem dX6_does_222 : decode cX6_does 222 = .ok (.aload_n 0, 1) := by decide +kernel
theorem dX6_does_223 : decode cX6_does 223 = .ok (.getfield 59, 3) := by decide +kernel
theorem dX6_does_226 : decode cX6_does 226 = .ok (.iload_n 2, 1) := by decide +kernel
theorem dX6_does_227 : decode cX6_does 227 = .ok (.iconst 1, 1) := by decide +kernel
theorem dX6_does_228 : decode cX6_does 228 = .ok (.bastore, 1) := by decide +kernel
theorem dX6_does_229 : decode cX6_does 229 = .ok (.goto 79, 3) := by decide +kernel
theorem dX6_does_232 : decode cX6_does 232 = .ok (.aload_n 0, 1) := by decide +kernel
theorem dX6_does_233 : decode cX6_does 233 = .ok (.getfield 62, 3) := by decide +kernel
theorem dX6_does_236 : decode cX6_does 236 = .ok (.iload_n 2, 1) := by decide +kernel
theorem dX6_does_237 : decode cX6_does 237 = .ok (.aload_n 0, 1) := by decide +kernel
theorem dX6_does_238 : decode cX6_does 238 = .ok (.getfield 13, 3) := by decide +kernel
theorem dX6_does_241 : decode cX6_does 241 = .ok (.iload_n 2, 1) := by decide +kernel
theorem dX6_does_242 : decode cX6_does 242 = .ok (.iaload, 1) := by decide +kernel
theorem dX6_does_243 : decode cX6_does 243 = .ok (.iconst 5, 1) := by decide +kernel
theorem dX6_does_244 : decode cX6_does 244 = .ok (.if_icmp .eq 12, 3) := by decide +kernel
theorem dX6_does_247 : decode cX6_does 247 = .ok (.aload_n 0, 1) := by decide +kernel
theorem dX6_does_248 : decode cX6_does 248 = .ok (.getfield 62, 3) := by decide +kernel
theorem dX6_does_251 : decode cX6_does 251 = .ok (.iload_n 2, 1) := by decide +kernel
theorem dX6_does_252 : decode cX6_does 252 = .ok (.baload, 1) := by decide +kernel
theorem dX6_does_253 : decode cX6_does 253 = .ok (.ifCond .eq 7, 3) := by decide +kernel
theorem dX6_does_256 : decode cX6_does 256 = .ok (.iconst 1, 1) := by decide +kernel
theorem dX6_does_257 : decode cX6_does 257 = .ok (.goto 4, 3) := by decide +kernel
theorem dX6_does_260 : decode cX6_does 260 = .ok (.iconst 0, 1) := by decide +kernel
theorem dX6_does_261 : decode cX6_does 261 = .ok (.bastore, 1) := by decide +kernel
theorem dX6_does_262 : decode cX6_does 262 = .ok (.goto 46, 3) := by decide +kernel
theorem dX6_does_265 : decode cX6_does 265 = .ok (.aload_n 0, 1) := by decide +kernel
theorem dX6_does_266 : decode cX6_does 266 = .ok (.getfield 65, 3) := by decide +kernel
theorem dX6_does_269 : decode cX6_does 269 = .ok (.iload_n 2, 1) := by decide +kernel
theorem dX6_does_270 : decode cX6_does 270 = .ok (.iconst 1, 1) := by decide +kernel
theorem dX6_does_271 : decode cX6_does 271 = .ok (.bastore, 1) := by decide +kernel
theorem dX6_does_272 : decode cX6_does 272 = .ok (.goto 36, 3) := by decide +kernel
theorem dX6_does_275 : decode cX6_does 275 = .ok (.aload_n 0, 1) := by decide +kernel
theorem dX6_does_276 : decode cX6_does 276 = .ok (.getfield 46, 3) := by decide +kernel
theorem dX6_does_279 : decode cX6_does 279 = .ok (.iload_n 2, 1) := by decide +kernel
theorem dX6_does_280 : decode cX6_does 280 = .ok (.iaload, 1) := by decide +kernel
theorem dX6_does_281 : decode cX6_does 281 = .ok (.ifCond .eq 13, 3) := by decide +kernel
theorem dX6_does_284 : decode cX6_does 284 = .ok (.iload_n 3, 1) := by decide +kernel
theorem dX6_does_285 : decode cX6_does 285 = .ok (.aload_n 0, 1) := by decide +kernel
theorem dX6_does_286 : decode cX6_does 286 = .ok (.getfield 46, 3) := by decide +kernel
theorem dX6_does_289 : decode cX6_does 289 = .ok (.iload_n 2, 1) := by decide +kernel
theorem dX6_does_290 : decode cX6_does 290 = .ok (.iaload, 1) := by decide +kernel
theorem dX6_does_291 : decode cX6_does 291 = .ok (.if_icmp .ge 11, 3) := by decide +kernel
theorem dX6_does_294 : decode cX6_does 294 = .ok (.aload_n 0, 1) := by decide +kernel
theorem dX6_does_295 : decode cX6_does 295 = .ok (.getfield 49, 3) := by decide +kernel
theorem dX6_does_298 : decode cX6_does 298 = .ok (.iload_n 2, 1) := by decide +kernel
theorem dX6_does_299 : decode cX6_does 299 = .ok (.iload 4, 2) := by decide +kernel
theorem dX6_does_301 : decode cX6_does 301 = .ok (.iastore, 1) := by decide +kernel
theorem dX6_does_302 : decode cX6_does 302 = .ok (.aload_n 0, 1) := by decide +kernel
theorem dX6_does_303 : decode cX6_does 303 = .ok (.iload_n 2, 1) := by decide +kernel
theorem dX6_does_304 : decode cX6_does 304 = .ok (.iload_n 3, 1) := by decide +kernel
theorem dX6_does_305 : decode cX6_does 305 = .ok (.invokevirtual 183, 3) := by decide +kernel
theorem dX6_does_308 : decode cX6_does 308 = .ok (.aload_n 0, 1) := by decide +kernel
theorem dX6_does_309 : decode cX6_does 309 = .ok (.invokevirtual 201, 3) := by decide +kernel
theorem dX6_does_312 : decode cX6_does 312 = .ok (.return_, 1) := by decide +kernel
theorem dX6_sunset_0 : decode cX6_sunset 0 = .ok (.aload_n 0, 1) := by decide +kernel
theorem dX6_sunset_1 : decode cX6_sunset 1 = .ok (.getfield 180, 3) := by decide +kernel
theorem dX6_sunset_4 : decode cX6_sunset 4 = .ok (.ifCond .eq 4, 3) := by decide +kernel
theorem dX6_sunset_7 : decode cX6_sunset 7 = .ok (.return_, 1) := by decide +kernel
theorem dX6_sunset_8 : decode cX6_sunset 8 = .ok (.aload_n 0, 1) := by decide +kernel
theorem dX6_sunset_9 : decode cX6_sunset 9 = .ok (.iconst 1, 1) := by decide +kernel
theorem dX6_sunset_10 : decode cX6_sunset 10 = .ok (.putfield 180, 3) := by decide +kernel
theorem dX6_sunset_13 : decode cX6_sunset 13 = .ok (.iconst 0, 1) := by decide +kernel
theorem dX6_sunset_14 : decode cX6_sunset 14 = .ok (.istore_n 1, 1) := by decide +kernel
theorem dX6_sunset_15 : decode cX6_sunset 15 = .ok (.iload_n 1, 1) := by decide +kernel
theorem dX6_sunset_16 : decode cX6_sunset 16 = .ok (.aload_n 0, 1) := by decide +kernel
theorem dX6_sunset_17 : decode cX6_sunset 17 = .ok (.getfield 101, 3) := by decide +kernel
theorem dX6_sunset_20 : decode cX6_sunset 20 = .ok (.if_icmp .ge 23, 3) := by decide +kernel
theorem dX6_sunset_23 : decode cX6_sunset 23 = .ok (.aload_n 0, 1) := by decide +kernel
theorem dX6_sunset_24 : decode cX6_sunset 24 = .ok (.getfield 55, 3) := by decide +kernel
theorem dX6_sunset_27 : decode cX6_sunset 27 = .ok (.iload_n 1, 1) := by decide +kernel
theorem dX6_sunset_28 : decode cX6_sunset 28 = .ok (.baload, 1) := by decide +kernel
theorem dX6_sunset_29 : decode cX6_sunset 29 = .ok (.ifCond .eq 8, 3) := by decide +kernel
theorem dX6_sunset_32 : decode cX6_sunset 32 = .ok (.aload_n 0, 1) := by decide +kernel
theorem dX6_sunset_33 : decode cX6_sunset 33 = .ok (.iload_n 1, 1) := by decide +kernel
theorem dX6_sunset_34 : decode cX6_sunset 34 = .ok (.invokevirtual 190, 3) := by decide +kernel
theorem dX6_sunset_37 : decode cX6_sunset 37 = .ok (.iinc 1 1, 3) := by decide +kernel
theorem dX6_sunset_40 : decode cX6_sunset 40 = .ok (.goto (-25), 3) := by decide +kernel
theorem dX6_sunset_43 : decode cX6_sunset 43 = .ok (.return_, 1) := by decide +kernel
theorem dX6_isSo_0 : decode cX6_isSo 0 = .ok (.aload_n 0, 1) := by decide +kernel
theorem dX6_isSo_1 : decode cX6_isSo 1 = .ok (.getfield 40, 3) := by decide +kernel
theorem dX6_isSo_4 : decode cX6_isSo 4 = .ok (.iload_n 1, 1) := by decide +kernel
theorem dX6_isSo_5 : decode cX6_isSo 5 = .ok (.iaload, 1) := by decide +kernel
theorem dX6_isSo_6 : decode cX6_isSo 6 = .ok (.istore_n 3, 1) := by decide +kernel
theorem dX6_isSo_7 : decode cX6_isSo 7 = .ok (.iload_n 3, 1) := by decide +kernel
theorem dX6_isSo_8 : decode cX6_isSo 8 = .ok (.ifCond .lt 32, 3) := by decide +kernel
theorem dX6_isSo_11 : decode cX6_isSo 11 = .ok (.iload_n 3, 1) := by decide +kernel
theorem dX6_isSo_12 : decode cX6_isSo 12 = .ok (.bipush 10, 2) := by decide +kernel
theorem dX6_isSo_14 : decode cX6_isSo 14 = .ok (.if_icmp .ge 15, 3) := by decide +kernel
theorem dX6_isSo_17 : decode cX6_isSo 17 = .ok (.iload_n 2, 1) := by decide +kernel
theorem dX6_isSo_18 : decode cX6_isSo 18 = .ok (.iload_n 3, 1) := by decide +kernel
theorem dX6_isSo_19 : decode cX6_isSo 19 = .ok (.ishr, 1) := by decide +kernel
theorem dX6_isSo_20 : decode cX6_isSo 20 = .ok (.iconst 1, 1) := by decide +kernel
theorem dX6_isSo_21 : decode cX6_isSo 21 = .ok (.iand, 1) := by decide +kernel
theorem dX6_isSo_22 : decode cX6_isSo 22 = .ok (.iconst 1, 1) := by decide +kernel
theorem dX6_isSo_23 : decode cX6_isSo 23 = .ok (.if_icmp .ne 21, 3) := by decide +kernel
theorem dX6_isSo_26 : decode cX6_isSo 26 = .ok (.goto 14, 3) := by decide +kernel
theorem dX6_isSo_29 : decode cX6_isSo 29 = .ok (.iload_n 2, 1) := by decide +kernel
theorem dX6_isSo_30 : decode cX6_isSo 30 = .ok (.iload_n 3, 1) := by decide +kernel
theorem dX6_isSo_31 : decode cX6_isSo 31 = .ok (.bipush 10, 2) := by decide +kernel
theorem dX6_isSo_33 : decode cX6_isSo 33 = .ok (.isub, 1) := by decide +kernel
theorem dX6_isSo_34 : decode cX6_isSo 34 = .ok (.ishr, 1) := by decide +kernel
theorem dX6_isSo_35 : decode cX6_isSo 35 = .ok (.iconst 1, 1) := by decide +kernel
theorem dX6_isSo_36 : decode cX6_isSo 36 = .ok (.iand, 1) := by decide +kernel
theorem dX6_isSo_37 : decode cX6_isSo 37 = .ok (.ifCond .ne 7, 3) := by decide +kernel
theorem dX6_isSo_40 : decode cX6_isSo 40 = .ok (.iconst 1, 1) := by decide +kernel
theorem dX6_isSo_41 : decode cX6_isSo 41 = .ok (.goto 4, 3) := by decide +kernel
theorem dX6_isSo_44 : decode cX6_isSo 44 = .ok (.iconst 0, 1) := by decide +kernel
theorem dX6_isSo_45 : decode cX6_isSo 45 = .ok (.ireturn, 1) := by decide +kernel
theorem dX6_goes_0 : decode cX6_goes 0 = .ok (.iload_n 2, 1) := by decide +kernel
theorem dX6_goes_1 : decode cX6_goes 1 = .ok (.bipush 24, 2) := by decide +kernel
theorem dX6_goes_3 : decode cX6_goes 3 = .ok (.if_icmp .lt 7, 3) := by decide +kernel
theorem dX6_goes_6 : decode cX6_goes 6 = .ok (.aload_n 0, 1) := by decide +kernel
theorem dX6_goes_7 : decode cX6_goes 7 = .ok (.invokevirtual 204, 3) := by decide +kernel
theorem dX6_goes_10 : decode cX6_goes 10 = .ok (.iconst 0, 1) := by decide +kernel
theorem dX6_goes_11 : decode cX6_goes 11 = .ok (.istore_n 3, 1) := by decide +kernel
theorem dX6_goes_12 : decode cX6_goes 12 = .ok (.iload_n 3, 1) := by decide +kernel
theorem dX6_goes_13 : decode cX6_goes 13 = .ok (.aload_n 0, 1) := by decide +kernel
theorem dX6_goes_14 : decode cX6_goes 14 = .ok (.getfield 125, 3) := by decide +kernel
theorem dX6_goes_17 : decode cX6_goes 17 = .ok (.if_icmp .ge 56, 3) := by decide +kernel
theorem dX6_goes_20 : decode cX6_goes 20 = .ok (.aload_n 0, 1) := by decide +kernel
theorem dX6_goes_21 : decode cX6_goes 21 = .ok (.getfield 28, 3) := by decide +kernel
theorem dX6_goes_24 : decode cX6_goes 24 = .ok (.iload_n 3, 1) := by decide +kernel
theorem dX6_goes_25 : decode cX6_goes 25 = .ok (.iaload, 1) := by decide +kernel
theorem dX6_goes_26 : decode cX6_goes 26 = .ok (.iload_n 2, 1) := by decide +kernel
theorem dX6_goes_27 : decode cX6_goes 27 = .ok (.if_icmp .ne 40, 3) := by decide +kernel
theorem dX6_goes_30 : decode cX6_goes 30 = .ok (.aload_n 0, 1) := by decide +kernel
theorem dX6_goes_31 : decode cX6_goes 31 = .ok (.iload_n 3, 1) := by decide +kernel
theorem dX6_goes_32 : decode cX6_goes 32 = .ok (.iload_n 1, 1) := by decide +kernel
theorem dX6_goes_33 : decode cX6_goes 33 = .ok (.invokevirtual 207, 3) := by decide +kernel
theorem dX6_goes_36 : decode cX6_goes 36 = .ok (.ifCond .eq 31, 3) := by decide +kernel
theorem dX6_goes_39 : decode cX6_goes 39 = .ok (.aload_n 0, 1) := by decide +kernel
theorem dX6_goes_40 : decode cX6_goes 40 = .ok (.aload_n 0, 1) := by decide +kernel
theorem dX6_goes_41 : decode cX6_goes 41 = .ok (.getfield 31, 3) := by decide +kernel
theorem dX6_goes_44 : decode cX6_goes 44 = .ok (.iload_n 3, 1) := by decide +kernel
theorem dX6_goes_45 : decode cX6_goes 45 = .ok (.iaload, 1) := by decide +kernel
theorem dX6_goes_46 : decode cX6_goes 46 = .ok (.aload_n 0, 1) := by decide +kernel
theorem dX6_goes_47 : decode cX6_goes 47 = .ok (.getfield 34, 3) := by decide +kernel
theorem dX6_goes_50 : decode cX6_goes 50 = .ok (.iload_n 3, 1) := by decide +kernel
theorem dX6_goes_51 : decode cX6_goes 51 = .ok (.iaload, 1) := by decide +kernel
theorem dX6_goes_52 : decode cX6_goes 52 = .ok (.aload_n 0, 1) := by decide +kernel
theorem dX6_goes_53 : decode cX6_goes 53 = .ok (.getfield 37, 3) := by decide +kernel
theorem dX6_goes_56 : decode cX6_goes 56 = .ok (.iload_n 3, 1) := by decide +kernel
theorem dX6_goes_57 : decode cX6_goes 57 = .ok (.iaload, 1) := by decide +kernel
theorem dX6_goes_58 : decode cX6_goes 58 = .ok (.aload_n 0, 1) := by decide +kernel
theorem dX6_goes_59 : decode cX6_goes 59 = .ok (.getfield 52, 3) := by decide +kernel
theorem dX6_goes_62 : decode cX6_goes 62 = .ok (.iload_n 3, 1) := by decide +kernel
theorem dX6_goes_63 : decode cX6_goes 63 = .ok (.iaload, 1) := by decide +kernel
theorem dX6_goes_64 : decode cX6_goes 64 = .ok (.invokevirtual 211, 3) := by decide +kernel
theorem dX6_goes_67 : decode cX6_goes 67 = .ok (.iinc 3 1, 3) := by decide +kernel
theorem dX6_goes_70 : decode cX6_goes 70 = .ok (.goto (-58), 3) := by decide +kernel
theorem dX6_goes_73 : decode cX6_goes 73 = .ok (.return_, 1) := by decide +kernel
theorem dX6_runs_0 : decode cX6_runs 0 = .ok (.aload_n 0, 1) := by decide +kernel
theorem dX6_runs_1 : decode cX6_runs 1 = .ok (.iload_n 3, 1) := by decide +kernel
theorem dX6_runs_2 : decode cX6_runs 2 = .ok (.invokevirtual 215, 3) := by decide +kernel
theorem dX6_runs_5 : decode cX6_runs 5 = .ok (.iconst 0, 1) := by decide +kernel
theorem dX6_runs_6 : decode cX6_runs 6 = .ok (.istore 4, 2) := by decide +kernel
theorem dX6_runs_8 : decode cX6_runs 8 = .ok (.iload 4, 2) := by decide +kernel
theorem dX6_runs_10 : decode cX6_runs 10 = .ok (.iload_n 2, 1) := by decide +kernel
theorem dX6_runs_11 : decode cX6_runs 11 = .ok (.if_icmp .gt 16, 3) := by decide +kernel
theorem dX6_runs_14 : decode cX6_runs 14 = .ok (.aload_n 0, 1) := by decide +kernel
theorem dX6_runs_15 : decode cX6_runs 15 = .ok (.iload_n 1, 1) := by decide +kernel
theorem dX6_runs_16 : decode cX6_runs 16 = .ok (.iload 4, 2) := by decide +kernel
theorem dX6_runs_18 : decode cX6_runs 18 = .ok (.invokevirtual 219, 3) := by decide +kernel
theorem dX6_runs_21 : decode cX6_runs 21 = .ok (.iinc 4 1, 3) := by decide +kernel
theorem dX6_runs_24 : decode cX6_runs 24 = .ok (.goto (-16), 3) := by decide +kernel
theorem dX6_runs_27 : decode cX6_runs 27 = .ok (.return_, 1) := by decide +kernel
theorem dX6_why_0 : decode cX6_why 0 = .ok (.aload_n 0, 1) := by decide +kernel
theorem dX6_why_1 : decode cX6_why 1 = .ok (.iload_n 1, 1) := by decide +kernel
theorem dX6_why_2 : decode cX6_why 2 = .ok (.invokevirtual 132, 3) := by decide +kernel
theorem dX6_why_5 : decode cX6_why 5 = .ok (.ifCond .ne 7, 3) := by decide +kernel
theorem dX6_why_8 : decode cX6_why 8 = .ok (.iconst (-1), 1) := by decide +kernel
theorem dX6_why_9 : decode cX6_why 9 = .ok (.goto 10, 3) := by decide +kernel
theorem dX6_why_12 : decode cX6_why 12 = .ok (.iload_n 2, 1) := by decide +kernel
theorem dX6_why_13 : decode cX6_why 13 = .ok (.iconst 0, 1) := by decide +kernel
theorem dX6_why_14 : decode cX6_why 14 = .ok (.bipush 47, 2) := by decide +kernel
theorem dX6_why_16 : decode cX6_why 16 = .ok (.invokestatic 121, 3) := by decide +kernel
theorem dX6_why_19 : decode cX6_why 19 = .ok (.ireturn, 1) := by decide +kernel
theorem dX6_state_0 : decode cX6_state 0 = .ok (.aload_n 0, 1) := by decide +kernel
theorem dX6_state_1 : decode cX6_state 1 = .ok (.iload_n 2, 1) := by decide +kernel
theorem dX6_state_2 : decode cX6_state 2 = .ok (.invokevirtual 132, 3) := by decide +kernel
theorem dX6_state_5 : decode cX6_state 5 = .ok (.ifCond .ne 7, 3) := by decide +kernel
theorem dX6_state_8 : decode cX6_state 8 = .ok (.iconst (-1), 1) := by decide +kernel
theorem dX6_state_9 : decode cX6_state 9 = .ok (.goto 34, 3) := by decide +kernel
theorem dX6_state_12 : decode cX6_state 12 = .ok (.iload_n 1, 1) := by decide +kernel
theorem dX6_state_13 : decode cX6_state 13 = .ok (.ifCond .lt 7, 3) := by decide +kernel
theorem dX6_state_16 : decode cX6_state 16 = .ok (.iload_n 3, 1) := by decide +kernel
theorem dX6_state_17 : decode cX6_state 17 = .ok (.ifCond .ge 8, 3) := by decide +kernel
theorem dX6_state_20 : decode cX6_state 20 = .ok (.bipush (-4), 2) := by decide +kernel
theorem dX6_state_22 : decode cX6_state 22 = .ok (.goto 21, 3) := by decide +kernel
theorem dX6_state_25 : decode cX6_state 25 = .ok (.iload_n 1, 1) := by decide +kernel
theorem dX6_state_26 : decode cX6_state 26 = .ok (.bipush 63, 2) := by decide +kernel
theorem dX6_state_28 : decode cX6_state 28 = .ok (.if_icmp .gt 9, 3) := by decide +kernel
theorem dX6_state_31 : decode cX6_state 31 = .ok (.iload_n 3, 1) := by decide +kernel
theorem dX6_state_32 : decode cX6_state 32 = .ok (.bipush 47, 2) := by decide +kernel
theorem dX6_state_34 : decode cX6_state 34 = .ok (.if_icmp .le 8, 3) := by decide +kernel
theorem dX6_state_37 : decode cX6_state 37 = .ok (.bipush (-6), 2) := by decide +kernel
theorem dX6_state_39 : decode cX6_state 39 = .ok (.goto 4, 3) := by decide +kernel
theorem dX6_state_42 : decode cX6_state 42 = .ok (.iconst 0, 1) := by decide +kernel
theorem dX6_state_43 : decode cX6_state 43 = .ok (.istore 4, 2) := by decide +kernel
theorem dX6_state_45 : decode cX6_state 45 = .ok (.iload 4, 2) := by decide +kernel
theorem dX6_state_47 : decode cX6_state 47 = .ok (.ifCond .eq 10, 3) := by decide +kernel
theorem dX6_state_50 : decode cX6_state 50 = .ok (.aload_n 0, 1) := by decide +kernel
theorem dX6_state_51 : decode cX6_state 51 = .ok (.iload 4, 2) := by decide +kernel
theorem dX6_state_53 : decode cX6_state 53 = .ok (.invokevirtual 109, 3) := by decide +kernel
theorem dX6_state_56 : decode cX6_state 56 = .ok (.ireturn, 1) := by decide +kernel
theorem dX6_state_57 : decode cX6_state 57 = .ok (.aload_n 0, 1) := by decide +kernel
theorem dX6_state_58 : decode cX6_state 58 = .ok (.iload_n 1, 1) := by decide +kernel
theorem dX6_state_59 : decode cX6_state 59 = .ok (.iload_n 3, 1) := by decide +kernel
theorem dX6_state_60 : decode cX6_state 60 = .ok (.iconst 0, 1) := by decide +kernel
theorem dX6_state_61 : decode cX6_state 61 = .ok (.invokevirtual 222, 3) := by decide +kernel
theorem dX6_state_64 : decode cX6_state 64 = .ok (.aload_n 0, 1) := by decide +kernel
theorem dX6_state_65 : decode cX6_state 65 = .ok (.getfield 46, 3) := by decide +kernel
theorem dX6_state_68 : decode cX6_state 68 = .ok (.iload_n 2, 1) := by decide +kernel
theorem dX6_state_69 : decode cX6_state 69 = .ok (.iaload, 1) := by decide +kernel
theorem dX6_state_70 : decode cX6_state 70 = .ok (.ireturn, 1) := by decide +kernel
theorem dX6_when_0 : decode cX6_when 0 = .ok (.aload_n 0, 1) := by decide +kernel
theorem dX6_when_1 : decode cX6_when 1 = .ok (.iload_n 2, 1) := by decide +kernel
theorem dX6_when_2 : decode cX6_when 2 = .ok (.invokevirtual 132, 3) := by decide +kernel
theorem dX6_when_5 : decode cX6_when 5 = .ok (.ifCond .ne 7, 3) := by decide +kernel
theorem dX6_when_8 : decode cX6_when 8 = .ok (.iconst (-1), 1) := by decide +kernel
theorem dX6_when_9 : decode cX6_when 9 = .ok (.goto 10, 3) := by decide +kernel
theorem dX6_when_12 : decode cX6_when 12 = .ok (.iload_n 1, 1) := by decide +kernel
theorem dX6_when_13 : decode cX6_when 13 = .ok (.iconst 0, 1) := by decide +kernel
theorem dX6_when_14 : decode cX6_when 14 = .ok (.bipush 63, 2) := by decide +kernel
theorem dX6_when_16 : decode cX6_when 16 = .ok (.invokestatic 121, 3) := by decide +kernel
theorem dX6_when_19 : decode cX6_when 19 = .ok (.istore_n 3, 1) := by decide +kernel
theorem dX6_when_20 : decode cX6_when 20 = .ok (.iload_n 3, 1) := by decide +kernel
theorem dX6_when_21 : decode cX6_when 21 = .ok (.ifCond .eq 9, 3) := by decide +kernel
theorem dX6_when_24 : decode cX6_when 24 = .ok (.aload_n 0, 1) := by decide +kernel
theorem dX6_when_25 : decode cX6_when 25 = .ok (.iload_n 3, 1) := by decide +kernel
theorem dX6_when_26 : decode cX6_when 26 = .ok (.invokevirtual 109, 3) := by decide +kernel
theorem dX6_when_29 : decode cX6_when 29 = .ok (.ireturn, 1) := by decide +kernel
theorem dX6_when_30 : decode cX6_when 30 = .ok (.aload_n 0, 1) := by decide +kernel
theorem dX6_when_31 : decode cX6_when 31 = .ok (.iconst 0, 1) := by decide +kernel
theorem dX6_when_32 : decode cX6_when 32 = .ok (.invokevirtual 215, 3) := by decide +kernel
theorem dX6_when_35 : decode cX6_when 35 = .ok (.iconst 0, 1) := by decide +kernel
theorem dX6_when_36 : decode cX6_when 36 = .ok (.istore 4, 2) := by decide +kernel
theorem dX6_when_38 : decode cX6_when 38 = .ok (.iload 4, 2) := by decide +kernel
theorem dX6_when_40 : decode cX6_when 40 = .ok (.bipush 47, 2) := by decide +kernel
theorem dX6_when_42 : decode cX6_when 42 = .ok (.if_icmp .gt 28, 3) := by decide +kernel
theorem dX6_when_45 : decode cX6_when 45 = .ok (.aload_n 0, 1) := by decide +kernel
theorem dX6_when_46 : decode cX6_when 46 = .ok (.iload_n 1, 1) := by decide +kernel
theorem dX6_when_47 : decode cX6_when 47 = .ok (.iload 4, 2) := by decide +kernel
theorem dX6_when_49 : decode cX6_when 49 = .ok (.invokevirtual 219, 3) := by decide +kernel
theorem dX6_when_52 : decode cX6_when 52 = .ok (.aload_n 0, 1) := by decide +kernel
theorem dX6_when_53 : decode cX6_when 53 = .ok (.getfield 46, 3) := by decide +kernel
theorem dX6_when_56 : decode cX6_when 56 = .ok (.iload_n 2, 1) := by decide +kernel
theorem dX6_when_57 : decode cX6_when 57 = .ok (.iaload, 1) := by decide +kernel
theorem dX6_when_58 : decode cX6_when 58 = .ok (.ifCond .le 6, 3) := by decide +kernel
theorem dX6_when_61 : decode cX6_when 61 = .ok (.iload 4, 2) := by decide +kernel
theorem dX6_when_63 : decode cX6_when 63 = .ok (.ireturn, 1) := by decide +kernel
theorem dX6_when_64 : decode cX6_when 64 = .ok (.iinc 4 1, 3) := by decide +kernel
theorem dX6_when_67 : decode cX6_when 67 = .ok (.goto (-29), 3) := by decide +kernel
theorem dX6_when_70 : decode cX6_when 70 = .ok (.bipush (-9), 2) := by decide +kernel
theorem dX6_when_72 : decode cX6_when 72 = .ok (.ireturn, 1) := by decide +kernel
theorem dX6_named_0 : decode cX6_named 0 = .ok (.iconst 0, 1) := by decide +kernel
theorem dX6_named_1 : decode cX6_named 1 = .ok (.istore_n 1, 1) := by decide +kernel
theorem dX6_named_2 : decode cX6_named 2 = .ok (.iconst 0, 1) := by decide +kernel
theorem dX6_named_3 : decode cX6_named 3 = .ok (.istore_n 2, 1) := by decide +kernel
theorem dX6_named_4 : decode cX6_named 4 = .ok (.iload_n 2, 1) := by decide +kernel
theorem dX6_named_5 : decode cX6_named 5 = .ok (.aload_n 0, 1) := by decide +kernel
theorem dX6_named_6 : decode cX6_named 6 = .ok (.getfield 125, 3) := by decide +kernel
theorem dX6_named_9 : decode cX6_named 9 = .ok (.if_icmp .ge 36, 3) := by decide +kernel
theorem dX6_named_12 : decode cX6_named 12 = .ok (.iload_n 1, 1) := by decide +kernel
theorem dX6_named_13 : decode cX6_named 13 = .ok (.aload_n 0, 1) := by decide +kernel
theorem dX6_named_14 : decode cX6_named 14 = .ok (.getfield 40, 3) := by decide +kernel
theorem dX6_named_17 : decode cX6_named 17 = .ok (.iload_n 2, 1) := by decide +kernel
theorem dX6_named_18 : decode cX6_named 18 = .ok (.iaload, 1) := by decide +kernel
theorem dX6_named_19 : decode cX6_named 19 = .ok (.ifCond .ge 7, 3) := by decide +kernel
theorem dX6_named_22 : decode cX6_named 22 = .ok (.iconst 0, 1) := by decide +kernel
theorem dX6_named_23 : decode cX6_named 23 = .ok (.goto 14, 3) := by decide +kernel
theorem dX6_named_26 : decode cX6_named 26 = .ok (.iconst 1, 1) := by decide +kernel
theorem dX6_named_27 : decode cX6_named 27 = .ok (.aload_n 0, 1) := by decide +kernel
theorem dX6_named_28 : decode cX6_named 28 = .ok (.getfield 40, 3) := by decide +kernel
theorem dX6_named_31 : decode cX6_named 31 = .ok (.iload_n 2, 1) := by decide +kernel
theorem dX6_named_32 : decode cX6_named 32 = .ok (.iaload, 1) := by decide +kernel
theorem dX6_named_33 : decode cX6_named 33 = .ok (.bipush 10, 2) := by decide +kernel
theorem dX6_named_35 : decode cX6_named 35 = .ok (.irem, 1) := by decide +kernel
theorem dX6_named_36 : decode cX6_named 36 = .ok (.ishl, 1) := by decide +kernel
theorem dX6_named_37 : decode cX6_named 37 = .ok (.ior, 1) := by decide +kernel
theorem dX6_named_38 : decode cX6_named 38 = .ok (.istore_n 1, 1) := by decide +kernel
theorem dX6_named_39 : decode cX6_named 39 = .ok (.iinc 2 1, 3) := by decide +kernel
theorem dX6_named_42 : decode cX6_named 42 = .ok (.goto (-38), 3) := by decide +kernel
theorem dX6_named_45 : decode cX6_named 45 = .ok (.iload_n 1, 1) := by decide +kernel
theorem dX6_named_46 : decode cX6_named 46 = .ok (.ireturn, 1) := by decide +kernel
theorem dX6_agrees_0 : decode cX6_agrees 0 = .ok (.iconst 0, 1) := by decide +kernel
theorem dX6_agrees_1 : decode cX6_agrees 1 = .ok (.istore_n 2, 1) := by decide +kernel
theorem dX6_agrees_2 : decode cX6_agrees 2 = .ok (.iload_n 2, 1) := by decide +kernel
theorem dX6_agrees_3 : decode cX6_agrees 3 = .ok (.bipush 47, 2) := by decide +kernel
theorem dX6_agrees_5 : decode cX6_agrees 5 = .ok (.if_icmp .gt 80, 3) := by decide +kernel
theorem dX6_agrees_8 : decode cX6_agrees 8 = .ok (.aload_n 0, 1) := by decide +kernel
theorem dX6_agrees_9 : decode cX6_agrees 9 = .ok (.iload_n 1, 1) := by decide +kernel
theorem dX6_agrees_10 : decode cX6_agrees 10 = .ok (.iload_n 2, 1) := by decide +kernel
theorem dX6_agrees_11 : decode cX6_agrees 11 = .ok (.invokevirtual 219, 3) := by decide +kernel
theorem dX6_agrees_14 : decode cX6_agrees 14 = .ok (.iconst 0, 1) := by decide +kernel
theorem dX6_agrees_15 : decode cX6_agrees 15 = .ok (.istore_n 3, 1) := by decide +kernel
theorem dX6_agrees_16 : decode cX6_agrees 16 = .ok (.iload_n 3, 1) := by decide +kernel
theorem dX6_agrees_17 : decode cX6_agrees 17 = .ok (.aload_n 0, 1) := by decide +kernel
theorem dX6_agrees_18 : decode cX6_agrees 18 = .ok (.getfield 226, 3) := by decide +kernel
theorem dX6_agrees_21 : decode cX6_agrees 21 = .ok (.if_icmp .ge 58, 3) := by decide +kernel
theorem dX6_agrees_24 : decode cX6_agrees 24 = .ok (.aload_n 0, 1) := by decide +kernel
theorem dX6_agrees_25 : decode cX6_agrees 25 = .ok (.getfield 71, 3) := by decide +kernel
theorem dX6_agrees_28 : decode cX6_agrees 28 = .ok (.iload_n 3, 1) := by decide +kernel
theorem dX6_agrees_29 : decode cX6_agrees 29 = .ok (.iaload, 1) := by decide +kernel
theorem dX6_agrees_30 : decode cX6_agrees 30 = .ok (.iload_n 2, 1) := by decide +kernel
theorem dX6_agrees_31 : decode cX6_agrees 31 = .ok (.if_icmp .ne 42, 3) := by decide +kernel
theorem dX6_agrees_34 : decode cX6_agrees 34 = .ok (.aload_n 0, 1) := by decide +kernel
theorem dX6_agrees_35 : decode cX6_agrees 35 = .ok (.getfield 46, 3) := by decide +kernel
theorem dX6_agrees_38 : decode cX6_agrees 38 = .ok (.aload_n 0, 1) := by decide +kernel
theorem dX6_agrees_39 : decode cX6_agrees 39 = .ok (.getfield 68, 3) := by decide +kernel
theorem dX6_agrees_42 : decode cX6_agrees 42 = .ok (.iload_n 3, 1) := by decide +kernel
theorem dX6_agrees_43 : decode cX6_agrees 43 = .ok (.iaload, 1) := by decide +kernel
theorem dX6_agrees_44 : decode cX6_agrees 44 = .ok (.iaload, 1) := by decide +kernel
theorem dX6_agrees_45 : decode cX6_agrees 45 = .ok (.ifCond .ne 7, 3) := by decide +kernel
theorem dX6_agrees_48 : decode cX6_agrees 48 = .ok (.iconst 1, 1) := by decide +kernel
theorem dX6_agrees_49 : decode cX6_agrees 49 = .ok (.goto 4, 3) := by decide +kernel
theorem dX6_agrees_52 : decode cX6_agrees 52 = .ok (.iconst 0, 1) := by decide +kernel
theorem dX6_agrees_53 : decode cX6_agrees 53 = .ok (.aload_n 0, 1) := by decide +kernel
theorem dX6_agrees_54 : decode cX6_agrees 54 = .ok (.getfield 74, 3) := by decide +kernel
theorem dX6_agrees_57 : decode cX6_agrees 57 = .ok (.iload_n 3, 1) := by decide +kernel
theorem dX6_agrees_58 : decode cX6_agrees 58 = .ok (.iaload, 1) := by decide +kernel
theorem dX6_agrees_59 : decode cX6_agrees 59 = .ok (.iconst 1, 1) := by decide +kernel
theorem dX6_agrees_60 : decode cX6_agrees 60 = .ok (.if_icmp .ne 7, 3) := by decide +kernel
theorem dX6_agrees_63 : decode cX6_agrees 63 = .ok (.iconst 1, 1) := by decide +kernel
theorem dX6_agrees_64 : decode cX6_agrees 64 = .ok (.goto 4, 3) := by decide +kernel
theorem dX6_agrees_67 : decode cX6_agrees 67 = .ok (.iconst 0, 1) := by decide +kernel
theorem dX6_agrees_68 : decode cX6_agrees 68 = .ok (.if_icmp .eq 5, 3) := by decide +kernel
theorem dX6_agrees_71 : decode cX6_agrees 71 = .ok (.iconst 0, 1) := by decide +kernel
theorem dX6_agrees_72 : decode cX6_agrees 72 = .ok (.ireturn, 1) := by decide +kernel
theorem dX6_agrees_73 : decode cX6_agrees 73 = .ok (.iinc 3 1, 3) := by decide +kernel
theorem dX6_agrees_76 : decode cX6_agrees 76 = .ok (.goto (-60), 3) := by decide +kernel
theorem dX6_agrees_79 : decode cX6_agrees 79 = .ok (.iinc 2 1, 3) := by decide +kernel
theorem dX6_agrees_82 : decode cX6_agrees 82 = .ok (.goto (-80), 3) := by decide +kernel
theorem dX6_agrees_85 : decode cX6_agrees 85 = .ok (.iconst 1, 1) := by decide +kernel
theorem dX6_agrees_86 : decode cX6_agrees 86 = .ok (.ireturn, 1) := by decide +kernel
theorem dX6_findLeft_0 : decode cX6_findLeft 0 = .ok (.aload_n 0, 1) := by decide +kernel
theorem dX6_findLeft_1 : decode cX6_findLeft 1 = .ok (.invokevirtual 229, 3) := by decide +kernel
theorem dX6_findLeft_4 : decode cX6_findLeft 4 = .ok (.istore_n 2, 1) := by decide +kernel
theorem dX6_findLeft_5 : decode cX6_findLeft 5 = .ok (.aload_n 0, 1) := by decide +kernel
theorem dX6_findLeft_6 : decode cX6_findLeft 6 = .ok (.iconst 0, 1) := by decide +kernel
theorem dX6_findLeft_7 : decode cX6_findLeft 7 = .ok (.putfield 232, 3) := by decide +kernel
theorem dX6_findLeft_10 : decode cX6_findLeft 10 = .ok (.iconst 0, 1) := by decide +kernel
theorem dX6_findLeft_11 : decode cX6_findLeft 11 = .ok (.istore_n 3, 1) := by decide +kernel
theorem dX6_findLeft_12 : decode cX6_findLeft 12 = .ok (.iload_n 3, 1) := by decide +kernel
theorem dX6_findLeft_13 : decode cX6_findLeft 13 = .ok (.bipush 64, 2) := by decide +kernel
theorem dX6_findLeft_15 : decode cX6_findLeft 15 = .ok (.if_icmp .ge 66, 3) := by decide +kernel
theorem dX6_findLeft_18 : decode cX6_findLeft 18 = .ok (.aload_n 0, 1) := by decide +kernel
theorem dX6_findLeft_19 : decode cX6_findLeft 19 = .ok (.getfield 77, 3) := by decide +kernel
theorem dX6_findLeft_22 : decode cX6_findLeft 22 = .ok (.iload_n 3, 1) := by decide +kernel
theorem dX6_findLeft_23 : decode cX6_findLeft 23 = .ok (.iconst 0, 1) := by decide +kernel
theorem dX6_findLeft_24 : decode cX6_findLeft 24 = .ok (.bastore, 1) := by decide +kernel
theorem dX6_findLeft_25 : decode cX6_findLeft 25 = .ok (.iload_n 3, 1) := by decide +kernel
theorem dX6_findLeft_26 : decode cX6_findLeft 26 = .ok (.iload_n 2, 1) := by decide +kernel
theorem dX6_findLeft_27 : decode cX6_findLeft 27 = .ok (.iconst (-1), 1) := by decide +kernel
theorem dX6_findLeft_28 : decode cX6_findLeft 28 = .ok (.ixor, 1) := by decide +kernel
theorem dX6_findLeft_29 : decode cX6_findLeft 29 = .ok (.iand, 1) := by decide +kernel
theorem dX6_findLeft_30 : decode cX6_findLeft 30 = .ok (.ifCond .eq 6, 3) := by decide +kernel
theorem dX6_findLeft_33 : decode cX6_findLeft 33 = .ok (.goto 42, 3) := by decide +kernel
theorem dX6_findLeft_36 : decode cX6_findLeft 36 = .ok (.aload_n 0, 1) := by decide +kernel
theorem dX6_findLeft_37 : decode cX6_findLeft 37 = .ok (.iload_n 1, 1) := by decide +kernel
theorem dX6_findLeft_38 : decode cX6_findLeft 38 = .ok (.invokevirtual 215, 3) := by decide +kernel
theorem dX6_findLeft_41 : decode cX6_findLeft 41 = .ok (.aload_n 0, 1) := by decide +kernel
theorem dX6_findLeft_42 : decode cX6_findLeft 42 = .ok (.getfield 77, 3) := by decide +kernel
theorem dX6_findLeft_45 : decode cX6_findLeft 45 = .ok (.iload_n 3, 1) := by decide +kernel
theorem dX6_findLeft_46 : decode cX6_findLeft 46 = .ok (.aload_n 0, 1) := by decide +kernel
theorem dX6_findLeft_47 : decode cX6_findLeft 47 = .ok (.iload_n 3, 1) := by decide +kernel
theorem dX6_findLeft_48 : decode cX6_findLeft 48 = .ok (.invokevirtual 235, 3) := by decide +kernel
theorem dX6_findLeft_51 : decode cX6_findLeft 51 = .ok (.bastore, 1) := by decide +kernel
theorem dX6_findLeft_52 : decode cX6_findLeft 52 = .ok (.aload_n 0, 1) := by decide +kernel
theorem dX6_findLeft_53 : decode cX6_findLeft 53 = .ok (.dup, 1) := by decide +kernel
theorem dX6_findLeft_54 : decode cX6_findLeft 54 = .ok (.getfield 232, 3) := by decide +kernel
theorem dX6_findLeft_57 : decode cX6_findLeft 57 = .ok (.aload_n 0, 1) := by decide +kernel
theorem dX6_findLeft_58 : decode cX6_findLeft 58 = .ok (.getfield 77, 3) := by decide +kernel
theorem dX6_findLeft_61 : decode cX6_findLeft 61 = .ok (.iload_n 3, 1) := by decide +kernel
theorem dX6_findLeft_62 : decode cX6_findLeft 62 = .ok (.baload, 1) := by decide +kernel
theorem dX6_findLeft_63 : decode cX6_findLeft 63 = .ok (.ifCond .eq 7, 3) := by decide +kernel
theorem dX6_findLeft_66 : decode cX6_findLeft 66 = .ok (.iconst 1, 1) := by decide +kernel
theorem dX6_findLeft_67 : decode cX6_findLeft 67 = .ok (.goto 4, 3) := by decide +kernel
theorem dX6_findLeft_70 : decode cX6_findLeft 70 = .ok (.iconst 0, 1) := by decide +kernel
theorem dX6_findLeft_71 : decode cX6_findLeft 71 = .ok (.iadd, 1) := by decide +kernel
theorem dX6_findLeft_72 : decode cX6_findLeft 72 = .ok (.putfield 232, 3) := by decide +kernel
theorem dX6_findLeft_75 : decode cX6_findLeft 75 = .ok (.iinc 3 1, 3) := by decide +kernel
theorem dX6_findLeft_78 : decode cX6_findLeft 78 = .ok (.goto (-66), 3) := by decide +kernel
theorem dX6_findLeft_81 : decode cX6_findLeft 81 = .ok (.aload_n 0, 1) := by decide +kernel
theorem dX6_findLeft_82 : decode cX6_findLeft 82 = .ok (.getfield 232, 3) := by decide +kernel
theorem dX6_findLeft_85 : decode cX6_findLeft 85 = .ok (.ireturn, 1) := by decide +kernel
theorem dX6_bits_0 : decode cX6_bits 0 = .ok (.iconst 0, 1) := by decide +kernel
theorem dX6_bits_1 : decode cX6_bits 1 = .ok (.istore_n 1, 1) := by decide +kernel
theorem dX6_bits_2 : decode cX6_bits 2 = .ok (.iconst 0, 1) := by decide +kernel
theorem dX6_bits_3 : decode cX6_bits 3 = .ok (.istore_n 2, 1) := by decide +kernel
theorem dX6_bits_4 : decode cX6_bits 4 = .ok (.iload_n 2, 1) := by decide +kernel
theorem dX6_bits_5 : decode cX6_bits 5 = .ok (.bipush 31, 2) := by decide +kernel
theorem dX6_bits_7 : decode cX6_bits 7 = .ok (.if_icmp .ge 17, 3) := by decide +kernel
theorem dX6_bits_10 : decode cX6_bits 10 = .ok (.iload_n 1, 1) := by decide +kernel
theorem dX6_bits_11 : decode cX6_bits 11 = .ok (.iload_n 0, 1) := by decide +kernel
theorem dX6_bits_12 : decode cX6_bits 12 = .ok (.iload_n 2, 1) := by decide +kernel
theorem dX6_bits_13 : decode cX6_bits 13 = .ok (.ishr, 1) := by decide +kernel
theorem dX6_bits_14 : decode cX6_bits 14 = .ok (.iconst 1, 1) := by decide +kernel
theorem dX6_bits_15 : decode cX6_bits 15 = .ok (.iand, 1) := by decide +kernel
theorem dX6_bits_16 : decode cX6_bits 16 = .ok (.iadd, 1) := by decide +kernel
theorem dX6_bits_17 : decode cX6_bits 17 = .ok (.istore_n 1, 1) := by decide +kernel
theorem dX6_bits_18 : decode cX6_bits 18 = .ok (.iinc 2 1, 3) := by decide +kernel
theorem dX6_bits_21 : decode cX6_bits 21 = .ok (.goto (-17), 3) := by decide +kernel
theorem dX6_bits_24 : decode cX6_bits 24 = .ok (.iload_n 1, 1) := by decide +kernel
theorem dX6_bits_25 : decode cX6_bits 25 = .ok (.ireturn, 1) := by decide +kernel
theorem dX6_ways_0 : decode cX6_ways 0 = .ok (.iload_n 1, 1) := by decide +kernel
theorem dX6_ways_1 : decode cX6_ways 1 = .ok (.iconst 0, 1) := by decide +kernel
theorem dX6_ways_2 : decode cX6_ways 2 = .ok (.iconst 1, 1) := by decide +kernel
theorem dX6_ways_3 : decode cX6_ways 3 = .ok (.invokestatic 105, 3) := by decide +kernel
theorem dX6_ways_6 : decode cX6_ways 6 = .ok (.ifCond .ne 10, 3) := by decide +kernel
theorem dX6_ways_9 : decode cX6_ways 9 = .ok (.aload_n 0, 1) := by decide +kernel
theorem dX6_ways_10 : decode cX6_ways 10 = .ok (.bipush (-2), 2) := by decide +kernel
theorem dX6_ways_12 : decode cX6_ways 12 = .ok (.invokevirtual 109, 3) := by decide +kernel
theorem dX6_ways_15 : decode cX6_ways 15 = .ok (.ireturn, 1) := by decide +kernel
theorem dX6_ways_16 : decode cX6_ways 16 = .ok (.iload_n 1, 1) := by decide +kernel
theorem dX6_ways_17 : decode cX6_ways 17 = .ok (.ifCond .ne 15, 3) := by decide +kernel
theorem dX6_ways_20 : decode cX6_ways 20 = .ok (.iconst 1, 1) := by decide +kernel
theorem dX6_ways_21 : decode cX6_ways 21 = .ok (.aload_n 0, 1) := by decide +kernel
theorem dX6_ways_22 : decode cX6_ways 22 = .ok (.invokevirtual 229, 3) := by decide +kernel
theorem dX6_ways_25 : decode cX6_ways 25 = .ok (.invokestatic 238, 3) := by decide +kernel
theorem dX6_ways_28 : decode cX6_ways 28 = .ok (.ishl, 1) := by decide +kernel
theorem dX6_ways_29 : decode cX6_ways 29 = .ok (.goto 8, 3) := by decide +kernel
theorem dX6_ways_32 : decode cX6_ways 32 = .ok (.aload_n 0, 1) := by decide +kernel
theorem dX6_ways_33 : decode cX6_ways 33 = .ok (.iconst 0, 1) := by decide +kernel
theorem dX6_ways_34 : decode cX6_ways 34 = .ok (.invokevirtual 241, 3) := by decide +kernel
theorem dX6_ways_37 : decode cX6_ways 37 = .ok (.ireturn, 1) := by decide +kernel
theorem dX6_fact_0 : decode cX6_fact 0 = .ok (.aload_n 0, 1) := by decide +kernel
theorem dX6_fact_1 : decode cX6_fact 1 = .ok (.iload_n 1, 1) := by decide +kernel
theorem dX6_fact_2 : decode cX6_fact 2 = .ok (.iload_n 2, 1) := by decide +kernel
theorem dX6_fact_3 : decode cX6_fact 3 = .ok (.invokevirtual 245, 3) := by decide +kernel
theorem dX6_fact_6 : decode cX6_fact 6 = .ok (.istore 4, 2) := by decide +kernel
theorem dX6_fact_8 : decode cX6_fact 8 = .ok (.iload 4, 2) := by decide +kernel
theorem dX6_fact_10 : decode cX6_fact 10 = .ok (.ifCond .ne 16, 3) := by decide +kernel
theorem dX6_fact_13 : decode cX6_fact 13 = .ok (.aload_n 0, 1) := by decide +kernel
theorem dX6_fact_14 : decode cX6_fact 14 = .ok (.getfield 226, 3) := by decide +kernel
theorem dX6_fact_17 : decode cX6_fact 17 = .ok (.bipush 12, 2) := by decide +kernel
theorem dX6_fact_19 : decode cX6_fact 19 = .ok (.if_icmp .ne 7, 3) := by decide +kernel
theorem dX6_fact_22 : decode cX6_fact 22 = .ok (.bipush (-6), 2) := by decide +kernel
theorem dX6_fact_24 : decode cX6_fact 24 = .ok (.istore 4, 2) := by decide +kernel
theorem dX6_fact_26 : decode cX6_fact 26 = .ok (.iload 4, 2) := by decide +kernel
theorem dX6_fact_28 : decode cX6_fact 28 = .ok (.ifCond .eq 10, 3) := by decide +kernel
theorem dX6_fact_31 : decode cX6_fact 31 = .ok (.aload_n 0, 1) := by decide +kernel
theorem dX6_fact_32 : decode cX6_fact 32 = .ok (.iload 4, 2) := by decide +kernel
theorem dX6_fact_34 : decode cX6_fact 34 = .ok (.invokevirtual 109, 3) := by decide +kernel
theorem dX6_fact_37 : decode cX6_fact 37 = .ok (.ireturn, 1) := by decide +kernel
theorem dX6_fact_38 : decode cX6_fact 38 = .ok (.aload_n 0, 1) := by decide +kernel
theorem dX6_fact_39 : decode cX6_fact 39 = .ok (.getfield 68, 3) := by decide +kernel
theorem dX6_fact_42 : decode cX6_fact 42 = .ok (.aload_n 0, 1) := by decide +kernel
theorem dX6_fact_43 : decode cX6_fact 43 = .ok (.getfield 226, 3) := by decide +kernel
theorem dX6_fact_46 : decode cX6_fact 46 = .ok (.iload_n 1, 1) := by decide +kernel
theorem dX6_fact_47 : decode cX6_fact 47 = .ok (.iastore, 1) := by decide +kernel
theorem dX6_fact_48 : decode cX6_fact 48 = .ok (.aload_n 0, 1) := by decide +kernel
theorem dX6_fact_49 : decode cX6_fact 49 = .ok (.getfield 71, 3) := by decide +kernel
theorem dX6_fact_52 : decode cX6_fact 52 = .ok (.aload_n 0, 1) := by decide +kernel
theorem dX6_fact_53 : decode cX6_fact 53 = .ok (.getfield 226, 3) := by decide +kernel
theorem dX6_fact_56 : decode cX6_fact 56 = .ok (.iload_n 2, 1) := by decide +kernel
theorem dX6_fact_57 : decode cX6_fact 57 = .ok (.iastore, 1) := by decide +kernel
theorem dX6_fact_58 : decode cX6_fact 58 = .ok (.aload_n 0, 1) := by decide +kernel
theorem dX6_fact_59 : decode cX6_fact 59 = .ok (.getfield 74, 3) := by decide +kernel
theorem dX6_fact_62 : decode cX6_fact 62 = .ok (.aload_n 0, 1) := by decide +kernel
theorem dX6_fact_63 : decode cX6_fact 63 = .ok (.getfield 226, 3) := by decide +kernel
theorem dX6_fact_66 : decode cX6_fact 66 = .ok (.iload_n 3, 1) := by decide +kernel
theorem dX6_fact_67 : decode cX6_fact 67 = .ok (.ifCond .eq 7, 3) := by decide +kernel
theorem dX6_fact_70 : decode cX6_fact 70 = .ok (.iconst 1, 1) := by decide +kernel
theorem dX6_fact_71 : decode cX6_fact 71 = .ok (.goto 4, 3) := by decide +kernel
theorem dX6_fact_74 : decode cX6_fact 74 = .ok (.iconst 0, 1) := by decide +kernel
theorem dX6_fact_75 : decode cX6_fact 75 = .ok (.iastore, 1) := by decide +kernel
theorem dX6_fact_76 : decode cX6_fact 76 = .ok (.aload_n 0, 1) := by decide +kernel
theorem dX6_fact_77 : decode cX6_fact 77 = .ok (.dup, 1) := by decide +kernel
theorem dX6_fact_78 : decode cX6_fact 78 = .ok (.getfield 226, 3) := by decide +kernel
theorem dX6_fact_81 : decode cX6_fact 81 = .ok (.iconst 1, 1) := by decide +kernel
theorem dX6_fact_82 : decode cX6_fact 82 = .ok (.iadd, 1) := by decide +kernel
theorem dX6_fact_83 : decode cX6_fact 83 = .ok (.putfield 226, 3) := by decide +kernel
theorem dX6_fact_86 : decode cX6_fact 86 = .ok (.aload_n 0, 1) := by decide +kernel
theorem dX6_fact_87 : decode cX6_fact 87 = .ok (.getfield 226, 3) := by decide +kernel
theorem dX6_fact_90 : decode cX6_fact 90 = .ok (.ireturn, 1) := by decide +kernel
theorem dX6_forget_0 : decode cX6_forget 0 = .ok (.aload_n 0, 1) := by decide +kernel
theorem dX6_forget_1 : decode cX6_forget 1 = .ok (.getfield 226, 3) := by decide +kernel
theorem dX6_forget_4 : decode cX6_forget 4 = .ok (.istore_n 1, 1) := by decide +kernel
theorem dX6_forget_5 : decode cX6_forget 5 = .ok (.aload_n 0, 1) := by decide +kernel
theorem dX6_forget_6 : decode cX6_forget 6 = .ok (.iconst 0, 1) := by decide +kernel
theorem dX6_forget_7 : decode cX6_forget 7 = .ok (.putfield 226, 3) := by decide +kernel
theorem dX6_forget_10 : decode cX6_forget 10 = .ok (.iload_n 1, 1) := by decide +kernel
theorem dX6_forget_11 : decode cX6_forget 11 = .ok (.ireturn, 1) := by decide +kernel
theorem dX6_findClean_0 : decode cX6_findClean 0 = .ok (.iconst 0, 1) := by decide +kernel
theorem dX6_findClean_1 : decode cX6_findClean 1 = .ok (.istore_n 3, 1) := by decide +kernel
theorem dX6_findClean_2 : decode cX6_findClean 2 = .ok (.iload_n 3, 1) := by decide +kernel
theorem dX6_findClean_3 : decode cX6_findClean 3 = .ok (.bipush 64, 2) := by decide +kernel
theorem dX6_findClean_5 : decode cX6_findClean 5 = .ok (.if_icmp .ge 38, 3) := by decide +kernel
theorem dX6_findClean_8 : decode cX6_findClean 8 = .ok (.aload_n 0, 1) := by decide +kernel
theorem dX6_findClean_9 : decode cX6_findClean 9 = .ok (.getfield 77, 3) := by decide +kernel
theorem dX6_findClean_12 : decode cX6_findClean 12 = .ok (.iload_n 3, 1) := by decide +kernel
theorem dX6_findClean_13 : decode cX6_findClean 13 = .ok (.baload, 1) := by decide +kernel
theorem dX6_findClean_14 : decode cX6_findClean 14 = .ok (.ifCond .ne 6, 3) := by decide +kernel
theorem dX6_findClean_17 : decode cX6_findClean 17 = .ok (.goto 20, 3) := by decide +kernel
theorem dX6_findClean_20 : decode cX6_findClean 20 = .ok (.aload_n 0, 1) := by decide +kernel
theorem dX6_findClean_21 : decode cX6_findClean 21 = .ok (.iload_n 3, 1) := by decide +kernel
theorem dX6_findClean_22 : decode cX6_findClean 22 = .ok (.iload_n 1, 1) := by decide +kernel
theorem dX6_findClean_23 : decode cX6_findClean 23 = .ok (.iload_n 2, 1) := by decide +kernel
theorem dX6_findClean_24 : decode cX6_findClean 24 = .ok (.invokevirtual 222, 3) := by decide +kernel
theorem dX6_findClean_27 : decode cX6_findClean 27 = .ok (.aload_n 0, 1) := by decide +kernel
theorem dX6_findClean_28 : decode cX6_findClean 28 = .ok (.getfield 80, 3) := by decide +kernel
theorem dX6_findClean_31 : decode cX6_findClean 31 = .ok (.iload_n 3, 1) := by decide +kernel
theorem dX6_findClean_32 : decode cX6_findClean 32 = .ok (.aload_n 0, 1) := by decide +kernel
theorem dX6_findClean_33 : decode cX6_findClean 33 = .ok (.invokevirtual 248, 3) := by decide +kernel
theorem dX6_findClean_36 : decode cX6_findClean 36 = .ok (.iastore, 1) := by decide +kernel
theorem dX6_findClean_37 : decode cX6_findClean 37 = .ok (.iinc 3 1, 3) := by decide +kernel
theorem dX6_findClean_40 : decode cX6_findClean 40 = .ok (.goto (-38), 3) := by decide +kernel
theorem dX6_findClean_43 : decode cX6_findClean 43 = .ok (.return_, 1) := by decide +kernel
theorem dX6_cleanNow_0 : decode cX6_cleanNow 0 = .ok (.iconst 0, 1) := by decide +kernel
theorem dX6_cleanNow_1 : decode cX6_cleanNow 1 = .ok (.istore_n 1, 1) := by decide +kernel
theorem dX6_cleanNow_2 : decode cX6_cleanNow 2 = .ok (.iconst 0, 1) := by decide +kernel
theorem dX6_cleanNow_3 : decode cX6_cleanNow 3 = .ok (.istore_n 2, 1) := by decide +kernel
theorem dX6_cleanNow_4 : decode cX6_cleanNow 4 = .ok (.iload_n 2, 1) := by decide +kernel
theorem dX6_cleanNow_5 : decode cX6_cleanNow 5 = .ok (.aload_n 0, 1) := by decide +kernel
theorem dX6_cleanNow_6 : decode cX6_cleanNow 6 = .ok (.getfield 101, 3) := by decide +kernel
theorem dX6_cleanNow_9 : decode cX6_cleanNow 9 = .ok (.if_icmp .ge 28, 3) := by decide +kernel
theorem dX6_cleanNow_12 : decode cX6_cleanNow 12 = .ok (.iload_n 1, 1) := by decide +kernel
theorem dX6_cleanNow_13 : decode cX6_cleanNow 13 = .ok (.aload_n 0, 1) := by decide +kernel
theorem dX6_cleanNow_14 : decode cX6_cleanNow 14 = .ok (.getfield 46, 3) := by decide +kernel
theorem dX6_cleanNow_17 : decode cX6_cleanNow 17 = .ok (.iload_n 2, 1) := by decide +kernel
theorem dX6_cleanNow_18 : decode cX6_cleanNow 18 = .ok (.iaload, 1) := by decide +kernel
theorem dX6_cleanNow_19 : decode cX6_cleanNow 19 = .ok (.ifCond .ne 9, 3) := by decide +kernel
theorem dX6_cleanNow_22 : decode cX6_cleanNow 22 = .ok (.iconst 1, 1) := by decide +kernel
theorem dX6_cleanNow_23 : decode cX6_cleanNow 23 = .ok (.iload_n 2, 1) := by decide +kernel
theorem dX6_cleanNow_24 : decode cX6_cleanNow 24 = .ok (.ishl, 1) := by decide +kernel
theorem dX6_cleanNow_25 : decode cX6_cleanNow 25 = .ok (.goto 4, 3) := by decide +kernel
theorem dX6_cleanNow_28 : decode cX6_cleanNow 28 = .ok (.iconst 0, 1) := by decide +kernel
theorem dX6_cleanNow_29 : decode cX6_cleanNow 29 = .ok (.ior, 1) := by decide +kernel
theorem dX6_cleanNow_30 : decode cX6_cleanNow 30 = .ok (.istore_n 1, 1) := by decide +kernel
theorem dX6_cleanNow_31 : decode cX6_cleanNow 31 = .ok (.iinc 2 1, 3) := by decide +kernel
theorem dX6_cleanNow_34 : decode cX6_cleanNow 34 = .ok (.goto (-30), 3) := by decide +kernel
theorem dX6_cleanNow_37 : decode cX6_cleanNow 37 = .ok (.iload_n 1, 1) := by decide +kernel
theorem dX6_cleanNow_38 : decode cX6_cleanNow 38 = .ok (.ireturn, 1) := by decide +kernel
theorem dX6_manyOf_0 : decode cX6_manyOf 0 = .ok (.iconst 0, 1) := by decide +kernel
theorem dX6_manyOf_1 : decode cX6_manyOf 1 = .ok (.istore_n 2, 1) := by decide +kernel
theorem dX6_manyOf_2 : decode cX6_manyOf 2 = .ok (.iconst 0, 1) := by decide +kernel
theorem dX6_manyOf_3 : decode cX6_manyOf 3 = .ok (.istore_n 3, 1) := by decide +kernel
theorem dX6_manyOf_4 : decode cX6_manyOf 4 = .ok (.iload_n 3, 1) := by decide +kernel
theorem dX6_manyOf_5 : decode cX6_manyOf 5 = .ok (.bipush 64, 2) := by decide +kernel
theorem dX6_manyOf_7 : decode cX6_manyOf 7 = .ok (.if_icmp .ge 35, 3) := by decide +kernel
theorem dX6_manyOf_10 : decode cX6_manyOf 10 = .ok (.iload_n 2, 1) := by decide +kernel
theorem dX6_manyOf_11 : decode cX6_manyOf 11 = .ok (.aload_n 0, 1) := by decide +kernel
theorem dX6_manyOf_12 : decode cX6_manyOf 12 = .ok (.getfield 77, 3) := by decide +kernel
theorem dX6_manyOf_15 : decode cX6_manyOf 15 = .ok (.iload_n 3, 1) := by decide +kernel
theorem dX6_manyOf_16 : decode cX6_manyOf 16 = .ok (.baload, 1) := by decide +kernel
theorem dX6_manyOf_17 : decode cX6_manyOf 17 = .ok (.ifCond .eq 16, 3) := by decide +kernel
theorem dX6_manyOf_20 : decode cX6_manyOf 20 = .ok (.aload_n 0, 1) := by decide +kernel
theorem dX6_manyOf_21 : decode cX6_manyOf 21 = .ok (.getfield 80, 3) := by decide +kernel
theorem dX6_manyOf_24 : decode cX6_manyOf 24 = .ok (.iload_n 3, 1) := by decide +kernel
theorem dX6_manyOf_25 : decode cX6_manyOf 25 = .ok (.iaload, 1) := by decide +kernel
theorem dX6_manyOf_26 : decode cX6_manyOf 26 = .ok (.iload_n 1, 1) := by decide +kernel
theorem dX6_manyOf_27 : decode cX6_manyOf 27 = .ok (.ishr, 1) := by decide +kernel
theorem dX6_manyOf_28 : decode cX6_manyOf 28 = .ok (.iconst 1, 1) := by decide +kernel
theorem dX6_manyOf_29 : decode cX6_manyOf 29 = .ok (.iand, 1) := by decide +kernel
theorem dX6_manyOf_30 : decode cX6_manyOf 30 = .ok (.goto 4, 3) := by decide +kernel
theorem dX6_manyOf_33 : decode cX6_manyOf 33 = .ok (.iconst 0, 1) := by decide +kernel
theorem dX6_manyOf_34 : decode cX6_manyOf 34 = .ok (.iadd, 1) := by decide +kernel
theorem dX6_manyOf_35 : decode cX6_manyOf 35 = .ok (.istore_n 2, 1) := by decide +kernel
theorem dX6_manyOf_36 : decode cX6_manyOf 36 = .ok (.iinc 3 1, 3) := by decide +kernel
theorem dX6_manyOf_39 : decode cX6_manyOf 39 = .ok (.goto (-35), 3) := by decide +kernel
theorem dX6_manyOf_42 : decode cX6_manyOf 42 = .ok (.iload_n 2, 1) := by decide +kernel
theorem dX6_manyOf_43 : decode cX6_manyOf 43 = .ok (.ireturn, 1) := by decide +kernel
theorem dX6_sureOf_0 : decode cX6_sureOf 0 = .ok (.aload_n 0, 1) := by decide +kernel
theorem dX6_sureOf_1 : decode cX6_sureOf 1 = .ok (.iload_n 1, 1) := by decide +kernel
theorem dX6_sureOf_2 : decode cX6_sureOf 2 = .ok (.invokevirtual 251, 3) := by decide +kernel
theorem dX6_sureOf_5 : decode cX6_sureOf 5 = .ok (.istore_n 2, 1) := by decide +kernel
theorem dX6_sureOf_6 : decode cX6_sureOf 6 = .ok (.aload_n 0, 1) := by decide +kernel
theorem dX6_sureOf_7 : decode cX6_sureOf 7 = .ok (.getfield 232, 3) := by decide +kernel
theorem dX6_sureOf_10 : decode cX6_sureOf 10 = .ok (.ifCond .ne 8, 3) := by decide +kernel
theorem dX6_sureOf_13 : decode cX6_sureOf 13 = .ok (.bipush (-9), 2) := by decide +kernel
theorem dX6_sureOf_15 : decode cX6_sureOf 15 = .ok (.goto 24, 3) := by decide +kernel
theorem dX6_sureOf_18 : decode cX6_sureOf 18 = .ok (.iload_n 2, 1) := by decide +kernel
theorem dX6_sureOf_19 : decode cX6_sureOf 19 = .ok (.aload_n 0, 1) := by decide +kernel
theorem dX6_sureOf_20 : decode cX6_sureOf 20 = .ok (.getfield 232, 3) := by decide +kernel
theorem dX6_sureOf_23 : decode cX6_sureOf 23 = .ok (.if_icmp .ne 7, 3) := by decide +kernel
theorem dX6_sureOf_26 : decode cX6_sureOf 26 = .ok (.iconst 2, 1) := by decide +kernel
theorem dX6_sureOf_27 : decode cX6_sureOf 27 = .ok (.goto 12, 3) := by decide +kernel
theorem dX6_sureOf_30 : decode cX6_sureOf 30 = .ok (.iload_n 2, 1) := by decide +kernel
theorem dX6_sureOf_31 : decode cX6_sureOf 31 = .ok (.ifCond .ne 7, 3) := by decide +kernel
theorem dX6_sureOf_34 : decode cX6_sureOf 34 = .ok (.iconst 0, 1) := by decide +kernel
theorem dX6_sureOf_35 : decode cX6_sureOf 35 = .ok (.goto 4, 3) := by decide +kernel
theorem dX6_sureOf_38 : decode cX6_sureOf 38 = .ok (.iconst 1, 1) := by decide +kernel
theorem dX6_sureOf_39 : decode cX6_sureOf 39 = .ok (.ireturn, 1) := by decide +kernel
theorem dX6_sure_0 : decode cX6_sure 0 = .ok (.aload_n 0, 1) := by decide +kernel
theorem dX6_sure_1 : decode cX6_sure 1 = .ok (.iload_n 1, 1) := by decide +kernel
theorem dX6_sure_2 : decode cX6_sure 2 = .ok (.iload_n 2, 1) := by decide +kernel
theorem dX6_sure_3 : decode cX6_sure 3 = .ok (.invokevirtual 245, 3) := by decide +kernel
theorem dX6_sure_6 : decode cX6_sure 6 = .ok (.istore_n 3, 1) := by decide +kernel
theorem dX6_sure_7 : decode cX6_sure 7 = .ok (.iload_n 3, 1) := by decide +kernel
theorem dX6_sure_8 : decode cX6_sure 8 = .ok (.ifCond .eq 9, 3) := by decide +kernel
theorem dX6_sure_11 : decode cX6_sure 11 = .ok (.aload_n 0, 1) := by decide +kernel
theorem dX6_sure_12 : decode cX6_sure 12 = .ok (.iload_n 3, 1) := by decide +kernel
theorem dX6_sure_13 : decode cX6_sure 13 = .ok (.invokevirtual 109, 3) := by decide +kernel
theorem dX6_sure_16 : decode cX6_sure 16 = .ok (.ireturn, 1) := by decide +kernel
theorem dX6_sure_17 : decode cX6_sure 17 = .ok (.aload_n 0, 1) := by decide +kernel
theorem dX6_sure_18 : decode cX6_sure 18 = .ok (.iconst 0, 1) := by decide +kernel
theorem dX6_sure_19 : decode cX6_sure 19 = .ok (.invokevirtual 241, 3) := by decide +kernel
theorem dX6_sure_22 : decode cX6_sure 22 = .ok (.pop, 1) := by decide +kernel
theorem dX6_sure_23 : decode cX6_sure 23 = .ok (.aload_n 0, 1) := by decide +kernel
theorem dX6_sure_24 : decode cX6_sure 24 = .ok (.iload_n 2, 1) := by decide +kernel
theorem dX6_sure_25 : decode cX6_sure 25 = .ok (.iconst 0, 1) := by decide +kernel
theorem dX6_sure_26 : decode cX6_sure 26 = .ok (.invokevirtual 254, 3) := by decide +kernel
theorem dX6_sure_29 : decode cX6_sure 29 = .ok (.aload_n 0, 1) := by decide +kernel
theorem dX6_sure_30 : decode cX6_sure 30 = .ok (.iload_n 1, 1) := by decide +kernel
theorem dX6_sure_31 : decode cX6_sure 31 = .ok (.invokevirtual 258, 3) := by decide +kernel
theorem dX6_sure_34 : decode cX6_sure 34 = .ok (.ireturn, 1) := by decide +kernel
theorem dX6_many_0 : decode cX6_many 0 = .ok (.aload_n 0, 1) := by decide +kernel
theorem dX6_many_1 : decode cX6_many 1 = .ok (.iload_n 1, 1) := by decide +kernel
theorem dX6_many_2 : decode cX6_many 2 = .ok (.iload_n 2, 1) := by decide +kernel
theorem dX6_many_3 : decode cX6_many 3 = .ok (.invokevirtual 245, 3) := by decide +kernel
theorem dX6_many_6 : decode cX6_many 6 = .ok (.istore_n 3, 1) := by decide +kernel
theorem dX6_many_7 : decode cX6_many 7 = .ok (.iload_n 3, 1) := by decide +kernel
theorem dX6_many_8 : decode cX6_many 8 = .ok (.ifCond .eq 9, 3) := by decide +kernel
theorem dX6_many_11 : decode cX6_many 11 = .ok (.aload_n 0, 1) := by decide +kernel
theorem dX6_many_12 : decode cX6_many 12 = .ok (.iload_n 3, 1) := by decide +kernel
theorem dX6_many_13 : decode cX6_many 13 = .ok (.invokevirtual 109, 3) := by decide +kernel
theorem dX6_many_16 : decode cX6_many 16 = .ok (.ireturn, 1) := by decide +kernel
theorem dX6_many_17 : decode cX6_many 17 = .ok (.aload_n 0, 1) := by decide +kernel
theorem dX6_many_18 : decode cX6_many 18 = .ok (.iconst 0, 1) := by decide +kernel
theorem dX6_many_19 : decode cX6_many 19 = .ok (.invokevirtual 241, 3) := by decide +kernel
theorem dX6_many_22 : decode cX6_many 22 = .ok (.pop, 1) := by decide +kernel
theorem dX6_many_23 : decode cX6_many 23 = .ok (.aload_n 0, 1) := by decide +kernel
theorem dX6_many_24 : decode cX6_many 24 = .ok (.iload_n 2, 1) := by decide +kernel
theorem dX6_many_25 : decode cX6_many 25 = .ok (.iconst 0, 1) := by decide +kernel
theorem dX6_many_26 : decode cX6_many 26 = .ok (.invokevirtual 254, 3) := by decide +kernel
theorem dX6_many_29 : decode cX6_many 29 = .ok (.aload_n 0, 1) := by decide +kernel
theorem dX6_many_30 : decode cX6_many 30 = .ok (.iload_n 1, 1) := by decide +kernel
theorem dX6_many_31 : decode cX6_many 31 = .ok (.invokevirtual 251, 3) := by decide +kernel
theorem dX6_many_34 : decode cX6_many 34 = .ok (.ireturn, 1) := by decide +kernel
theorem dX6_judged_0 : decode cX6_judged 0 = .ok (.aload_n 0, 1) := by decide +kernel
theorem dX6_judged_1 : decode cX6_judged 1 = .ok (.iload_n 1, 1) := by decide +kernel
theorem dX6_judged_2 : decode cX6_judged 2 = .ok (.iload_n 2, 1) := by decide +kernel
theorem dX6_judged_3 : decode cX6_judged 3 = .ok (.invokevirtual 245, 3) := by decide +kernel
theorem dX6_judged_6 : decode cX6_judged 6 = .ok (.istore_n 3, 1) := by decide +kernel
theorem dX6_judged_7 : decode cX6_judged 7 = .ok (.iload_n 3, 1) := by decide +kernel
theorem dX6_judged_8 : decode cX6_judged 8 = .ok (.ifCond .eq 9, 3) := by decide +kernel
theorem dX6_judged_11 : decode cX6_judged 11 = .ok (.aload_n 0, 1) := by decide +kernel
theorem dX6_judged_12 : decode cX6_judged 12 = .ok (.iload_n 3, 1) := by decide +kernel
theorem dX6_judged_13 : decode cX6_judged 13 = .ok (.invokevirtual 109, 3) := by decide +kernel
theorem dX6_judged_16 : decode cX6_judged 16 = .ok (.ireturn, 1) := by decide +kernel
theorem dX6_judged_17 : decode cX6_judged 17 = .ok (.aload_n 0, 1) := by decide +kernel
theorem dX6_judged_18 : decode cX6_judged 18 = .ok (.iconst 0, 1) := by decide +kernel
theorem dX6_judged_19 : decode cX6_judged 19 = .ok (.invokevirtual 241, 3) := by decide +kernel
theorem dX6_judged_22 : decode cX6_judged 22 = .ok (.ifCond .ne 6, 3) := by decide +kernel
theorem dX6_judged_25 : decode cX6_judged 25 = .ok (.bipush (-9), 2) := by decide +kernel
theorem dX6_judged_27 : decode cX6_judged 27 = .ok (.ireturn, 1) := by decide +kernel
theorem dX6_judged_28 : decode cX6_judged 28 = .ok (.aload_n 0, 1) := by decide +kernel
theorem dX6_judged_29 : decode cX6_judged 29 = .ok (.getfield 25, 3) := by decide +kernel
theorem dX6_judged_32 : decode cX6_judged 32 = .ok (.iconst 1, 1) := by decide +kernel
theorem dX6_judged_33 : decode cX6_judged 33 = .ok (.aload_n 0, 1) := by decide +kernel
theorem dX6_judged_34 : decode cX6_judged 34 = .ok (.getfield 19, 3) := by decide +kernel
theorem dX6_judged_37 : decode cX6_judged 37 = .ok (.iload_n 1, 1) := by decide +kernel
theorem dX6_judged_38 : decode cX6_judged 38 = .ok (.iaload, 1) := by decide +kernel
theorem dX6_judged_39 : decode cX6_judged 39 = .ok (.iadd, 1) := by decide +kernel
theorem dX6_judged_40 : decode cX6_judged 40 = .ok (.iaload, 1) := by decide +kernel
theorem dX6_judged_41 : decode cX6_judged 41 = .ok (.istore 4, 2) := by decide +kernel
theorem dX6_judged_43 : decode cX6_judged 43 = .ok (.iload_n 2, 1) := by decide +kernel
theorem dX6_judged_44 : decode cX6_judged 44 = .ok (.istore 5, 2) := by decide +kernel
theorem dX6_judged_46 : decode cX6_judged 46 = .ok (.iload 5, 2) := by decide +kernel
theorem dX6_judged_48 : decode cX6_judged 48 = .ok (.ifCond .lt 76, 3) := by decide +kernel
theorem dX6_judged_51 : decode cX6_judged 51 = .ok (.aload_n 0, 1) := by decide +kernel
theorem dX6_judged_52 : decode cX6_judged 52 = .ok (.iload 5, 2) := by decide +kernel
theorem dX6_judged_54 : decode cX6_judged 54 = .ok (.iconst 0, 1) := by decide +kernel
theorem dX6_judged_55 : decode cX6_judged 55 = .ok (.invokevirtual 254, 3) := by decide +kernel
theorem dX6_judged_58 : decode cX6_judged 58 = .ok (.aload_n 0, 1) := by decide +kernel
theorem dX6_judged_59 : decode cX6_judged 59 = .ok (.iload_n 1, 1) := by decide +kernel
theorem dX6_judged_60 : decode cX6_judged 60 = .ok (.invokevirtual 258, 3) := by decide +kernel
theorem dX6_judged_63 : decode cX6_judged 63 = .ok (.istore 6, 2) := by decide +kernel
theorem dX6_judged_65 : decode cX6_judged 65 = .ok (.iload 6, 2) := by decide +kernel
theorem dX6_judged_67 : decode cX6_judged 67 = .ok (.iconst 1, 1) := by decide +kernel
theorem dX6_judged_68 : decode cX6_judged 68 = .ok (.if_icmp .eq 15, 3) := by decide +kernel
theorem dX6_judged_71 : decode cX6_judged 71 = .ok (.iload 6, 2) := by decide +kernel
theorem dX6_judged_73 : decode cX6_judged 73 = .ok (.iconst 2, 1) := by decide +kernel
theorem dX6_judged_74 : decode cX6_judged 74 = .ok (.if_icmp .ne 7, 3) := by decide +kernel
theorem dX6_judged_77 : decode cX6_judged 77 = .ok (.iconst 1, 1) := by decide +kernel
theorem dX6_judged_78 : decode cX6_judged 78 = .ok (.goto 4, 3) := by decide +kernel
theorem dX6_judged_81 : decode cX6_judged 81 = .ok (.iconst 0, 1) := by decide +kernel
theorem dX6_judged_82 : decode cX6_judged 82 = .ok (.ireturn, 1) := by decide +kernel
theorem dX6_judged_83 : decode cX6_judged 83 = .ok (.iload 4, 2) := by decide +kernel
theorem dX6_judged_85 : decode cX6_judged 85 = .ok (.iconst 2, 1) := by decide +kernel
theorem dX6_judged_86 : decode cX6_judged 86 = .ok (.if_icmp .ge 6, 3) := by decide +kernel
theorem dX6_judged_89 : decode cX6_judged 89 = .ok (.iload 4, 2) := by decide +kernel
theorem dX6_judged_91 : decode cX6_judged 91 = .ok (.ireturn, 1) := by decide +kernel
theorem dX6_judged_92 : decode cX6_judged 92 = .ok (.iload 4, 2) := by decide +kernel
theorem dX6_judged_94 : decode cX6_judged 94 = .ok (.iconst 2, 1) := by decide +kernel
theorem dX6_judged_95 : decode cX6_judged 95 = .ok (.if_icmp .ne 23, 3) := by decide +kernel
theorem dX6_judged_98 : decode cX6_judged 98 = .ok (.iconst 2, 1) := by decide +kernel
theorem dX6_judged_99 : decode cX6_judged 99 = .ok (.aload_n 0, 1) := by decide +kernel
theorem dX6_judged_100 : decode cX6_judged 100 = .ok (.iload_n 1, 1) := by decide +kernel
theorem dX6_judged_101 : decode cX6_judged 101 = .ok (.invokevirtual 251, 3) := by decide +kernel
theorem dX6_judged_104 : decode cX6_judged 104 = .ok (.imul, 1) := by decide +kernel
theorem dX6_judged_105 : decode cX6_judged 105 = .ok (.aload_n 0, 1) := by decide +kernel
theorem dX6_judged_106 : decode cX6_judged 106 = .ok (.getfield 232, 3) := by decide +kernel
theorem dX6_judged_109 : decode cX6_judged 109 = .ok (.if_icmp .le 7, 3) := by decide +kernel
theorem dX6_judged_112 : decode cX6_judged 112 = .ok (.iconst 1, 1) := by decide +kernel
theorem dX6_judged_113 : decode cX6_judged 113 = .ok (.goto 4, 3) := by decide +kernel
theorem dX6_judged_116 : decode cX6_judged 116 = .ok (.iconst 0, 1) := by decide +kernel
theorem dX6_judged_117 : decode cX6_judged 117 = .ok (.ireturn, 1) := by decide +kernel
theorem dX6_judged_118 : decode cX6_judged 118 = .ok (.iinc 5 (-1), 3) := by decide +kernel
theorem dX6_judged_121 : decode cX6_judged 121 = .ok (.goto (-75), 3) := by decide +kernel
theorem dX6_judged_124 : decode cX6_judged 124 = .ok (.iconst 1, 1) := by decide +kernel
theorem dX6_judged_125 : decode cX6_judged 125 = .ok (.ireturn, 1) := by decide +kernel
theorem dX6_areRivals_0 : decode cX6_areRivals 0 = .ok (.iconst 0, 1) := by decide +kernel
theorem dX6_areRivals_1 : decode cX6_areRivals 1 = .ok (.istore_n 2, 1) := by decide +kernel
theorem dX6_areRivals_2 : decode cX6_areRivals 2 = .ok (.iconst 0, 1) := by decide +kernel
theorem dX6_areRivals_3 : decode cX6_areRivals 3 = .ok (.istore_n 3, 1) := by decide +kernel
theorem dX6_areRivals_4 : decode cX6_areRivals 4 = .ok (.iload_n 3, 1) := by decide +kernel
theorem dX6_areRivals_5 : decode cX6_areRivals 5 = .ok (.bipush 64, 2) := by decide +kernel
theorem dX6_areRivals_7 : decode cX6_areRivals 7 = .ok (.if_icmp .ge 44, 3) := by decide +kernel
theorem dX6_areRivals_10 : decode cX6_areRivals 10 = .ok (.aload_n 0, 1) := by decide +kernel
theorem dX6_areRivals_11 : decode cX6_areRivals 11 = .ok (.getfield 77, 3) := by decide +kernel
theorem dX6_areRivals_14 : decode cX6_areRivals 14 = .ok (.iload_n 3, 1) := by decide +kernel
theorem dX6_areRivals_15 : decode cX6_areRivals 15 = .ok (.baload, 1) := by decide +kernel
theorem dX6_areRivals_16 : decode cX6_areRivals 16 = .ok (.ifCond .ne 6, 3) := by decide +kernel
theorem dX6_areRivals_19 : decode cX6_areRivals 19 = .ok (.goto 26, 3) := by decide +kernel
theorem dX6_areRivals_22 : decode cX6_areRivals 22 = .ok (.iload_n 2, 1) := by decide +kernel
theorem dX6_areRivals_23 : decode cX6_areRivals 23 = .ok (.aload_n 0, 1) := by decide +kernel
theorem dX6_areRivals_24 : decode cX6_areRivals 24 = .ok (.getfield 80, 3) := by decide +kernel
theorem dX6_areRivals_27 : decode cX6_areRivals 27 = .ok (.iload_n 3, 1) := by decide +kernel
theorem dX6_areRivals_28 : decode cX6_areRivals 28 = .ok (.iaload, 1) := by decide +kernel
theorem dX6_areRivals_29 : decode cX6_areRivals 29 = .ok (.ior, 1) := by decide +kernel
theorem dX6_areRivals_30 : decode cX6_areRivals 30 = .ok (.istore_n 2, 1) := by decide +kernel
theorem dX6_areRivals_31 : decode cX6_areRivals 31 = .ok (.aload_n 0, 1) := by decide +kernel
theorem dX6_areRivals_32 : decode cX6_areRivals 32 = .ok (.getfield 80, 3) := by decide +kernel
theorem dX6_areRivals_35 : decode cX6_areRivals 35 = .ok (.iload_n 3, 1) := by decide +kernel
theorem dX6_areRivals_36 : decode cX6_areRivals 36 = .ok (.iaload, 1) := by decide +kernel
theorem dX6_areRivals_37 : decode cX6_areRivals 37 = .ok (.iload_n 1, 1) := by decide +kernel
theorem dX6_areRivals_38 : decode cX6_areRivals 38 = .ok (.iand, 1) := by decide +kernel
theorem dX6_areRivals_39 : decode cX6_areRivals 39 = .ok (.iload_n 1, 1) := by decide +kernel
theorem dX6_areRivals_40 : decode cX6_areRivals 40 = .ok (.if_icmp .ne 5, 3) := by decide +kernel
theorem dX6_areRivals_43 : decode cX6_areRivals 43 = .ok (.iconst 0, 1) := by decide +kernel
theorem dX6_areRivals_44 : decode cX6_areRivals 44 = .ok (.ireturn, 1) := by decide +kernel
theorem dX6_areRivals_45 : decode cX6_areRivals 45 = .ok (.iinc 3 1, 3) := by decide +kernel
theorem dX6_areRivals_48 : decode cX6_areRivals 48 = .ok (.goto (-44), 3) := by decide +kernel
theorem dX6_areRivals_51 : decode cX6_areRivals 51 = .ok (.iload_n 2, 1) := by decide +kernel
theorem dX6_areRivals_52 : decode cX6_areRivals 52 = .ok (.iload_n 1, 1) := by decide +kernel
theorem dX6_areRivals_53 : decode cX6_areRivals 53 = .ok (.iand, 1) := by decide +kernel
theorem dX6_areRivals_54 : decode cX6_areRivals 54 = .ok (.iload_n 1, 1) := by decide +kernel
theorem dX6_areRivals_55 : decode cX6_areRivals 55 = .ok (.if_icmp .ne 7, 3) := by decide +kernel
theorem dX6_areRivals_58 : decode cX6_areRivals 58 = .ok (.iconst 1, 1) := by decide +kernel
theorem dX6_areRivals_59 : decode cX6_areRivals 59 = .ok (.goto 4, 3) := by decide +kernel
theorem dX6_areRivals_62 : decode cX6_areRivals 62 = .ok (.iconst 0, 1) := by decide +kernel
theorem dX6_areRivals_63 : decode cX6_areRivals 63 = .ok (.ireturn, 1) := by decide +kernel
theorem dX6_rivals_0 : decode cX6_rivals 0 = .ok (.iload_n 1, 1) := by decide +kernel
theorem dX6_rivals_1 : decode cX6_rivals 1 = .ok (.iconst 0, 1) := by decide +kernel
theorem dX6_rivals_2 : decode cX6_rivals 2 = .ok (.bipush 47, 2) := by decide +kernel
theorem dX6_rivals_4 : decode cX6_rivals 4 = .ok (.invokestatic 121, 3) := by decide +kernel
theorem dX6_rivals_7 : decode cX6_rivals 7 = .ok (.istore_n 2, 1) := by decide +kernel
theorem dX6_rivals_8 : decode cX6_rivals 8 = .ok (.iload_n 2, 1) := by decide +kernel
theorem dX6_rivals_9 : decode cX6_rivals 9 = .ok (.ifCond .eq 9, 3) := by decide +kernel
theorem dX6_rivals_12 : decode cX6_rivals 12 = .ok (.aload_n 0, 1) := by decide +kernel
theorem dX6_rivals_13 : decode cX6_rivals 13 = .ok (.iload_n 2, 1) := by decide +kernel
theorem dX6_rivals_14 : decode cX6_rivals 14 = .ok (.invokevirtual 109, 3) := by decide +kernel
theorem dX6_rivals_17 : decode cX6_rivals 17 = .ok (.ireturn, 1) := by decide +kernel
theorem dX6_rivals_18 : decode cX6_rivals 18 = .ok (.aload_n 0, 1) := by decide +kernel
theorem dX6_rivals_19 : decode cX6_rivals 19 = .ok (.iconst 0, 1) := by decide +kernel
theorem dX6_rivals_20 : decode cX6_rivals 20 = .ok (.invokevirtual 241, 3) := by decide +kernel
theorem dX6_rivals_23 : decode cX6_rivals 23 = .ok (.ifCond .ne 6, 3) := by decide +kernel
theorem dX6_rivals_26 : decode cX6_rivals 26 = .ok (.bipush (-9), 2) := by decide +kernel
theorem dX6_rivals_28 : decode cX6_rivals 28 = .ok (.ireturn, 1) := by decide +kernel
theorem dX6_rivals_29 : decode cX6_rivals 29 = .ok (.aload_n 0, 1) := by decide +kernel
theorem dX6_rivals_30 : decode cX6_rivals 30 = .ok (.iload_n 1, 1) := by decide +kernel
theorem dX6_rivals_31 : decode cX6_rivals 31 = .ok (.iconst 0, 1) := by decide +kernel
theorem dX6_rivals_32 : decode cX6_rivals 32 = .ok (.invokevirtual 254, 3) := by decide +kernel
theorem dX6_rivals_35 : decode cX6_rivals 35 = .ok (.iconst 2, 1) := by decide +kernel
theorem dX6_rivals_36 : decode cX6_rivals 36 = .ok (.istore_n 3, 1) := by decide +kernel
theorem dX6_rivals_37 : decode cX6_rivals 37 = .ok (.iload_n 3, 1) := by decide +kernel
theorem dX6_rivals_38 : decode cX6_rivals 38 = .ok (.iconst 4, 1) := by decide +kernel
theorem dX6_rivals_39 : decode cX6_rivals 39 = .ok (.if_icmp .ge 50, 3) := by decide +kernel
theorem dX6_rivals_42 : decode cX6_rivals 42 = .ok (.iconst 0, 1) := by decide +kernel
theorem dX6_rivals_43 : decode cX6_rivals 43 = .ok (.istore 4, 2) := by decide +kernel
theorem dX6_rivals_45 : decode cX6_rivals 45 = .ok (.iload 4, 2) := by decide +kernel
theorem dX6_rivals_47 : decode cX6_rivals 47 = .ok (.iconst 1, 1) := by decide +kernel
theorem dX6_rivals_48 : decode cX6_rivals 48 = .ok (.aload_n 0, 1) := by decide +kernel
theorem dX6_rivals_49 : decode cX6_rivals 49 = .ok (.getfield 101, 3) := by decide +kernel
theorem dX6_rivals_52 : decode cX6_rivals 52 = .ok (.ishl, 1) := by decide +kernel
theorem dX6_rivals_53 : decode cX6_rivals 53 = .ok (.if_icmp .ge 30, 3) := by decide +kernel
theorem dX6_rivals_56 : decode cX6_rivals 56 = .ok (.iload 4, 2) := by decide +kernel
theorem dX6_rivals_58 : decode cX6_rivals 58 = .ok (.invokestatic 238, 3) := by decide +kernel
theorem dX6_rivals_61 : decode cX6_rivals 61 = .ok (.iload_n 3, 1) := by decide +kernel
theorem dX6_rivals_62 : decode cX6_rivals 62 = .ok (.if_icmp .ne 15, 3) := by decide +kernel
theorem dX6_rivals_65 : decode cX6_rivals 65 = .ok (.aload_n 0, 1) := by decide +kernel
theorem dX6_rivals_66 : decode cX6_rivals 66 = .ok (.iload 4, 2) := by decide +kernel
theorem dX6_rivals_68 : decode cX6_rivals 68 = .ok (.invokevirtual 261, 3) := by decide +kernel
theorem dX6_rivals_71 : decode cX6_rivals 71 = .ok (.ifCond .eq 6, 3) := by decide +kernel
theorem dX6_rivals_74 : decode cX6_rivals 74 = .ok (.iload 4, 2) := by decide +kernel
theorem dX6_rivals_76 : decode cX6_rivals 76 = .ok (.ireturn, 1) := by decide +kernel
theorem dX6_rivals_77 : decode cX6_rivals 77 = .ok (.iinc 4 1, 3) := by decide +kernel
theorem dX6_rivals_80 : decode cX6_rivals 80 = .ok (.goto (-35), 3) := by decide +kernel
theorem dX6_rivals_83 : decode cX6_rivals 83 = .ok (.iinc 3 1, 3) := by decide +kernel
theorem dX6_rivals_86 : decode cX6_rivals 86 = .ok (.goto (-49), 3) := by decide +kernel
theorem dX6_rivals_89 : decode cX6_rivals 89 = .ok (.bipush (-9), 2) := by decide +kernel
theorem dX6_rivals_91 : decode cX6_rivals 91 = .ok (.ireturn, 1) := by decide +kernel
theorem dX6_doubts_0 : decode cX6_doubts 0 = .ok (.iconst 0, 1) := by decide +kernel
theorem dX6_doubts_1 : decode cX6_doubts 1 = .ok (.istore_n 3, 1) := by decide +kernel
theorem dX6_doubts_2 : decode cX6_doubts 2 = .ok (.iconst 0, 1) := by decide +kernel
theorem dX6_doubts_3 : decode cX6_doubts 3 = .ok (.istore 4, 2) := by decide +kernel
theorem dX6_doubts_5 : decode cX6_doubts 5 = .ok (.iconst 1, 1) := by decide +kernel
theorem dX6_doubts_6 : decode cX6_doubts 6 = .ok (.aload_n 0, 1) := by decide +kernel
theorem dX6_doubts_7 : decode cX6_doubts 7 = .ok (.getfield 101, 3) := by decide +kernel
theorem dX6_doubts_10 : decode cX6_doubts 10 = .ok (.ishl, 1) := by decide +kernel
theorem dX6_doubts_11 : decode cX6_doubts 11 = .ok (.iconst 1, 1) := by decide +kernel
theorem dX6_doubts_12 : decode cX6_doubts 12 = .ok (.isub, 1) := by decide +kernel
theorem dX6_doubts_13 : decode cX6_doubts 13 = .ok (.istore 5, 2) := by decide +kernel
theorem dX6_doubts_15 : decode cX6_doubts 15 = .ok (.iconst 0, 1) := by decide +kernel
theorem dX6_doubts_16 : decode cX6_doubts 16 = .ok (.istore 6, 2) := by decide +kernel
theorem dX6_doubts_18 : decode cX6_doubts 18 = .ok (.iload 6, 2) := by decide +kernel
theorem dX6_doubts_20 : decode cX6_doubts 20 = .ok (.bipush 64, 2) := by decide +kernel
theorem dX6_doubts_22 : decode cX6_doubts 22 = .ok (.if_icmp .ge 59, 3) := by decide +kernel
theorem dX6_doubts_25 : decode cX6_doubts 25 = .ok (.aload_n 0, 1) := by decide +kernel
theorem dX6_doubts_26 : decode cX6_doubts 26 = .ok (.getfield 77, 3) := by decide +kernel
theorem dX6_doubts_29 : decode cX6_doubts 29 = .ok (.iload 6, 2) := by decide +kernel
theorem dX6_doubts_31 : decode cX6_doubts 31 = .ok (.baload, 1) := by decide +kernel
theorem dX6_doubts_32 : decode cX6_doubts 32 = .ok (.ifCond .eq 43, 3) := by decide +kernel
theorem dX6_doubts_35 : decode cX6_doubts 35 = .ok (.iload 6, 2) := by decide +kernel
theorem dX6_doubts_37 : decode cX6_doubts 37 = .ok (.iload_n 1, 1) := by decide +kernel
theorem dX6_doubts_38 : decode cX6_doubts 38 = .ok (.ishr, 1) := by decide +kernel
theorem dX6_doubts_39 : decode cX6_doubts 39 = .ok (.iconst 1, 1) := by decide +kernel
theorem dX6_doubts_40 : decode cX6_doubts 40 = .ok (.iand, 1) := by decide +kernel
theorem dX6_doubts_41 : decode cX6_doubts 41 = .ok (.iload_n 2, 1) := by decide +kernel
theorem dX6_doubts_42 : decode cX6_doubts 42 = .ok (.if_icmp .eq 6, 3) := by decide +kernel
theorem dX6_doubts_45 : decode cX6_doubts 45 = .ok (.goto 30, 3) := by decide +kernel
theorem dX6_doubts_48 : decode cX6_doubts 48 = .ok (.iinc 3 1, 3) := by decide +kernel
theorem dX6_doubts_51 : decode cX6_doubts 51 = .ok (.iload 4, 2) := by decide +kernel
theorem dX6_doubts_53 : decode cX6_doubts 53 = .ok (.aload_n 0, 1) := by decide +kernel
theorem dX6_doubts_54 : decode cX6_doubts 54 = .ok (.getfield 80, 3) := by decide +kernel
theorem dX6_doubts_57 : decode cX6_doubts 57 = .ok (.iload 6, 2) := by decide +kernel
theorem dX6_doubts_59 : decode cX6_doubts 59 = .ok (.iaload, 1) := by decide +kernel
theorem dX6_doubts_60 : decode cX6_doubts 60 = .ok (.ior, 1) := by decide +kernel
theorem dX6_doubts_61 : decode cX6_doubts 61 = .ok (.istore 4, 2) := by decide +kernel
theorem dX6_doubts_63 : decode cX6_doubts 63 = .ok (.iload 5, 2) := by decide +kernel
theorem dX6_doubts_65 : decode cX6_doubts 65 = .ok (.aload_n 0, 1) := by decide +kernel
theorem dX6_doubts_66 : decode cX6_doubts 66 = .ok (.getfield 80, 3) := by decide +kernel
theorem dX6_doubts_69 : decode cX6_doubts 69 = .ok (.iload 6, 2) := by decide +kernel
theorem dX6_doubts_71 : decode cX6_doubts 71 = .ok (.iaload, 1) := by decide +kernel
theorem dX6_doubts_72 : decode cX6_doubts 72 = .ok (.iand, 1) := by decide +kernel
theorem dX6_doubts_73 : decode cX6_doubts 73 = .ok (.istore 5, 2) := by decide +kernel
theorem dX6_doubts_75 : decode cX6_doubts 75 = .ok (.iinc 6 1, 3) := by decide +kernel
theorem dX6_doubts_78 : decode cX6_doubts 78 = .ok (.goto (-60), 3) := by decide +kernel
theorem dX6_doubts_81 : decode cX6_doubts 81 = .ok (.iload_n 3, 1) := by decide +kernel
theorem dX6_doubts_82 : decode cX6_doubts 82 = .ok (.ifCond .ne 7, 3) := by decide +kernel
theorem dX6_doubts_85 : decode cX6_doubts 85 = .ok (.iconst 0, 1) := by decide +kernel
theorem dX6_doubts_86 : decode cX6_doubts 86 = .ok (.goto 13, 3) := by decide +kernel
theorem dX6_doubts_89 : decode cX6_doubts 89 = .ok (.iload 4, 2) := by decide +kernel
theorem dX6_doubts_91 : decode cX6_doubts 91 = .ok (.iload 5, 2) := by decide +kernel
theorem dX6_doubts_93 : decode cX6_doubts 93 = .ok (.iconst (-1), 1) := by decide +kernel
theorem dX6_doubts_94 : decode cX6_doubts 94 = .ok (.ixor, 1) := by decide +kernel
theorem dX6_doubts_95 : decode cX6_doubts 95 = .ok (.iand, 1) := by decide +kernel
theorem dX6_doubts_96 : decode cX6_doubts 96 = .ok (.invokestatic 238, 3) := by decide +kernel
theorem dX6_doubts_99 : decode cX6_doubts 99 = .ok (.ireturn, 1) := by decide +kernel
theorem dX6_question_0 : decode cX6_question 0 = .ok (.iload_n 2, 1) := by decide +kernel
theorem dX6_question_1 : decode cX6_question 1 = .ok (.iconst 0, 1) := by decide +kernel
theorem dX6_question_2 : decode cX6_question 2 = .ok (.iconst 1, 1) := by decide +kernel
theorem dX6_question_3 : decode cX6_question 3 = .ok (.invokestatic 105, 3) := by decide +kernel
theorem dX6_question_6 : decode cX6_question 6 = .ok (.ifCond .ne 10, 3) := by decide +kernel
theorem dX6_question_9 : decode cX6_question 9 = .ok (.aload_n 0, 1) := by decide +kernel
theorem dX6_question_10 : decode cX6_question 10 = .ok (.bipush (-2), 2) := by decide +kernel
theorem dX6_question_12 : decode cX6_question 12 = .ok (.invokevirtual 109, 3) := by decide +kernel
theorem dX6_question_15 : decode cX6_question 15 = .ok (.ireturn, 1) := by decide +kernel
theorem dX6_question_16 : decode cX6_question 16 = .ok (.iload_n 1, 1) := by decide +kernel
theorem dX6_question_17 : decode cX6_question 17 = .ok (.iconst 0, 1) := by decide +kernel
theorem dX6_question_18 : decode cX6_question 18 = .ok (.bipush 47, 2) := by decide +kernel
theorem dX6_question_20 : decode cX6_question 20 = .ok (.invokestatic 121, 3) := by decide +kernel
theorem dX6_question_23 : decode cX6_question 23 = .ok (.istore_n 3, 1) := by decide +kernel
theorem dX6_question_24 : decode cX6_question 24 = .ok (.iload_n 3, 1) := by decide +kernel
theorem dX6_question_25 : decode cX6_question 25 = .ok (.ifCond .eq 9, 3) := by decide +kernel
theorem dX6_question_28 : decode cX6_question 28 = .ok (.aload_n 0, 1) := by decide +kernel
theorem dX6_question_29 : decode cX6_question 29 = .ok (.iload_n 3, 1) := by decide +kernel
theorem dX6_question_30 : decode cX6_question 30 = .ok (.invokevirtual 109, 3) := by decide +kernel
theorem dX6_question_33 : decode cX6_question 33 = .ok (.ireturn, 1) := by decide +kernel
theorem dX6_question_34 : decode cX6_question 34 = .ok (.aload_n 0, 1) := by decide +kernel
theorem dX6_question_35 : decode cX6_question 35 = .ok (.invokevirtual 229, 3) := by decide +kernel
theorem dX6_question_38 : decode cX6_question 38 = .ok (.istore 4, 2) := by decide +kernel
theorem dX6_question_40 : decode cX6_question 40 = .ok (.iload 4, 2) := by decide +kernel
theorem dX6_question_42 : decode cX6_question 42 = .ok (.ifCond .eq 11, 3) := by decide +kernel
theorem dX6_question_45 : decode cX6_question 45 = .ok (.aload_n 0, 1) := by decide +kernel
theorem dX6_question_46 : decode cX6_question 46 = .ok (.iconst 0, 1) := by decide +kernel
theorem dX6_question_47 : decode cX6_question 47 = .ok (.invokevirtual 241, 3) := by decide +kernel
theorem dX6_question_50 : decode cX6_question 50 = .ok (.ifCond .ne 6, 3) := by decide +kernel
theorem dX6_question_53 : decode cX6_question 53 = .ok (.bipush (-9), 2) := by decide +kernel
theorem dX6_question_55 : decode cX6_question 55 = .ok (.ireturn, 1) := by decide +kernel
theorem dX6_question_56 : decode cX6_question 56 = .ok (.aload_n 0, 1) := by decide +kernel
theorem dX6_question_57 : decode cX6_question 57 = .ok (.iload_n 1, 1) := by decide +kernel
theorem dX6_question_58 : decode cX6_question 58 = .ok (.iconst 0, 1) := by decide +kernel
theorem dX6_question_59 : decode cX6_question 59 = .ok (.invokevirtual 254, 3) := by decide +kernel
theorem dX6_question_62 : decode cX6_question 62 = .ok (.bipush (-9), 2) := by decide +kernel
theorem dX6_question_64 : decode cX6_question 64 = .ok (.istore 5, 2) := by decide +kernel
theorem dX6_question_66 : decode cX6_question 66 = .ok (.iconst 0, 1) := by decide +kernel
theorem dX6_question_67 : decode cX6_question 67 = .ok (.istore 6, 2) := by decide +kernel
theorem dX6_question_69 : decode cX6_question 69 = .ok (.iconst 0, 1) := by decide +kernel
theorem dX6_question_70 : decode cX6_question 70 = .ok (.istore 7, 2) := by decide +kernel
theorem dX6_question_72 : decode cX6_question 72 = .ok (.iload 7, 2) := by decide +kernel
theorem dX6_question_74 : decode cX6_question 74 = .ok (.bipush 6, 2) := by decide +kernel
theorem dX6_question_76 : decode cX6_question 76 = .ok (.if_icmp .ge 79, 3) := by decide +kernel
theorem dX6_question_79 : decode cX6_question 79 = .ok (.iload 4, 2) := by decide +kernel
theorem dX6_question_81 : decode cX6_question 81 = .ok (.iload 7, 2) := by decide +kernel
theorem dX6_question_83 : decode cX6_question 83 = .ok (.ishr, 1) := by decide +kernel
theorem dX6_question_84 : decode cX6_question 84 = .ok (.iconst 1, 1) := by decide +kernel
theorem dX6_question_85 : decode cX6_question 85 = .ok (.iand, 1) := by decide +kernel
theorem dX6_question_86 : decode cX6_question 86 = .ok (.ifCond .ne 6, 3) := by decide +kernel
theorem dX6_question_89 : decode cX6_question 89 = .ok (.goto 60, 3) := by decide +kernel
theorem dX6_question_92 : decode cX6_question 92 = .ok (.aload_n 0, 1) := by decide +kernel
theorem dX6_question_93 : decode cX6_question 93 = .ok (.iload 7, 2) := by decide +kernel
theorem dX6_question_95 : decode cX6_question 95 = .ok (.iconst 0, 1) := by decide +kernel
theorem dX6_question_96 : decode cX6_question 96 = .ok (.invokevirtual 264, 3) := by decide +kernel
theorem dX6_question_99 : decode cX6_question 99 = .ok (.istore 8, 2) := by decide +kernel
theorem dX6_question_101 : decode cX6_question 101 = .ok (.aload_n 0, 1) := by decide +kernel
theorem dX6_question_102 : decode cX6_question 102 = .ok (.iload 7, 2) := by decide +kernel
theorem dX6_question_104 : decode cX6_question 104 = .ok (.iconst 1, 1) := by decide +kernel
theorem dX6_question_105 : decode cX6_question 105 = .ok (.invokevirtual 264, 3) := by decide +kernel
theorem dX6_question_108 : decode cX6_question 108 = .ok (.istore 9, 2) := by decide +kernel
theorem dX6_question_110 : decode cX6_question 110 = .ok (.iload 8, 2) := by decide +kernel
theorem dX6_question_112 : decode cX6_question 112 = .ok (.iload 9, 2) := by decide +kernel
theorem dX6_question_114 : decode cX6_question 114 = .ok (.if_icmp .le 8, 3) := by decide +kernel
theorem dX6_question_117 : decode cX6_question 117 = .ok (.iload 8, 2) := by decide +kernel
theorem dX6_question_119 : decode cX6_question 119 = .ok (.goto 5, 3) := by decide +kernel
theorem dX6_question_122 : decode cX6_question 122 = .ok (.iload 9, 2) := by decide +kernel
theorem dX6_question_124 : decode cX6_question 124 = .ok (.istore 10, 2) := by decide +kernel
theorem dX6_question_126 : decode cX6_question 126 = .ok (.iload 5, 2) := by decide +kernel
theorem dX6_question_128 : decode cX6_question 128 = .ok (.ifCond .lt 13, 3) := by decide +kernel
theorem dX6_question_131 : decode cX6_question 131 = .ok (.iload 10, 2) := by decide +kernel
theorem dX6_question_133 : decode cX6_question 133 = .ok (.iload 6, 2) := by decide +kernel
theorem dX6_question_135 : decode cX6_question 135 = .ok (.if_icmp .lt 6, 3) := by decide +kernel
theorem dX6_question_138 : decode cX6_question 138 = .ok (.goto 11, 3) := by decide +kernel
theorem dX6_question_141 : decode cX6_question 141 = .ok (.iload 7, 2) := by decide +kernel
theorem dX6_question_143 : decode cX6_question 143 = .ok (.istore 5, 2) := by decide +kernel
theorem dX6_question_145 : decode cX6_question 145 = .ok (.iload 10, 2) := by decide +kernel
theorem dX6_question_147 : decode cX6_question 147 = .ok (.istore 6, 2) := by decide +kernel
theorem dX6_question_149 : decode cX6_question 149 = .ok (.iinc 7 1, 3) := by decide +kernel
theorem dX6_question_152 : decode cX6_question 152 = .ok (.goto (-80), 3) := by decide +kernel
theorem dX6_question_155 : decode cX6_question 155 = .ok (.iload_n 2, 1) := by decide +kernel
theorem dX6_question_156 : decode cX6_question 156 = .ok (.ifCond .ne 8, 3) := by decide +kernel
theorem dX6_question_159 : decode cX6_question 159 = .ok (.iload 5, 2) := by decide +kernel
theorem dX6_question_161 : decode cX6_question 161 = .ok (.goto 5, 3) := by decide +kernel
theorem dX6_question_164 : decode cX6_question 164 = .ok (.iload 6, 2) := by decide +kernel
theorem dX6_question_166 : decode cX6_question 166 = .ok (.ireturn, 1) := by decide +kernel
theorem dX6_sources_0 : decode cX6_sources 0 = .ok (.aload_n 0, 1) := by decide +kernel
theorem dX6_sources_1 : decode cX6_sources 1 = .ok (.iload_n 1, 1) := by decide +kernel
theorem dX6_sources_2 : decode cX6_sources 2 = .ok (.iload_n 2, 1) := by decide +kernel
theorem dX6_sources_3 : decode cX6_sources 3 = .ok (.invokevirtual 245, 3) := by decide +kernel
theorem dX6_sources_6 : decode cX6_sources 6 = .ok (.istore_n 3, 1) := by decide +kernel
theorem dX6_sources_7 : decode cX6_sources 7 = .ok (.iload_n 3, 1) := by decide +kernel
theorem dX6_sources_8 : decode cX6_sources 8 = .ok (.ifCond .eq 9, 3) := by decide +kernel
theorem dX6_sources_11 : decode cX6_sources 11 = .ok (.aload_n 0, 1) := by decide +kernel
theorem dX6_sources_12 : decode cX6_sources 12 = .ok (.iload_n 3, 1) := by decide +kernel
theorem dX6_sources_13 : decode cX6_sources 13 = .ok (.invokevirtual 109, 3) := by decide +kernel
theorem dX6_sources_16 : decode cX6_sources 16 = .ok (.ireturn, 1) := by decide +kernel
theorem dX6_sources_17 : decode cX6_sources 17 = .ok (.aload_n 0, 1) := by decide +kernel
theorem dX6_sources_18 : decode cX6_sources 18 = .ok (.iconst 0, 1) := by decide +kernel
theorem dX6_sources_19 : decode cX6_sources 19 = .ok (.invokevirtual 241, 3) := by decide +kernel
theorem dX6_sources_22 : decode cX6_sources 22 = .ok (.pop, 1) := by decide +kernel
theorem dX6_sources_23 : decode cX6_sources 23 = .ok (.iconst 0, 1) := by decide +kernel
theorem dX6_sources_24 : decode cX6_sources 24 = .ok (.istore 4, 2) := by decide +kernel
theorem dX6_sources_26 : decode cX6_sources 26 = .ok (.iconst 0, 1) := by decide +kernel
theorem dX6_sources_27 : decode cX6_sources 27 = .ok (.istore 5, 2) := by decide +kernel
theorem dX6_sources_29 : decode cX6_sources 29 = .ok (.iload 5, 2) := by decide +kernel
theorem dX6_sources_31 : decode cX6_sources 31 = .ok (.bipush 64, 2) := by decide +kernel
theorem dX6_sources_33 : decode cX6_sources 33 = .ok (.if_icmp .ge 41, 3) := by decide +kernel
theorem dX6_sources_36 : decode cX6_sources 36 = .ok (.aload_n 0, 1) := by decide +kernel
theorem dX6_sources_37 : decode cX6_sources 37 = .ok (.getfield 77, 3) := by decide +kernel
theorem dX6_sources_40 : decode cX6_sources 40 = .ok (.iload 5, 2) := by decide +kernel
theorem dX6_sources_42 : decode cX6_sources 42 = .ok (.baload, 1) := by decide +kernel
theorem dX6_sources_43 : decode cX6_sources 43 = .ok (.ifCond .ne 6, 3) := by decide +kernel
theorem dX6_sources_46 : decode cX6_sources 46 = .ok (.goto 22, 3) := by decide +kernel
theorem dX6_sources_49 : decode cX6_sources 49 = .ok (.aload_n 0, 1) := by decide +kernel
theorem dX6_sources_50 : decode cX6_sources 50 = .ok (.iload 5, 2) := by decide +kernel
theorem dX6_sources_52 : decode cX6_sources 52 = .ok (.iload_n 2, 1) := by decide +kernel
theorem dX6_sources_53 : decode cX6_sources 53 = .ok (.iconst 0, 1) := by decide +kernel
theorem dX6_sources_54 : decode cX6_sources 54 = .ok (.invokevirtual 222, 3) := by decide +kernel
theorem dX6_sources_57 : decode cX6_sources 57 = .ok (.iload 4, 2) := by decide +kernel
theorem dX6_sources_59 : decode cX6_sources 59 = .ok (.aload_n 0, 1) := by decide +kernel
theorem dX6_sources_60 : decode cX6_sources 60 = .ok (.getfield 49, 3) := by decide +kernel
theorem dX6_sources_63 : decode cX6_sources 63 = .ok (.iload_n 1, 1) := by decide +kernel
theorem dX6_sources_64 : decode cX6_sources 64 = .ok (.iaload, 1) := by decide +kernel
theorem dX6_sources_65 : decode cX6_sources 65 = .ok (.ior, 1) := by decide +kernel
theorem dX6_sources_66 : decode cX6_sources 66 = .ok (.istore 4, 2) := by decide +kernel
theorem dX6_sources_68 : decode cX6_sources 68 = .ok (.iinc 5 1, 3) := by decide +kernel
theorem dX6_sources_71 : decode cX6_sources 71 = .ok (.goto (-42), 3) := by decide +kernel
theorem dX6_sources_74 : decode cX6_sources 74 = .ok (.iload 4, 2) := by decide +kernel
theorem dX6_sources_76 : decode cX6_sources 76 = .ok (.ireturn, 1) := by decide +kernel
theorem dX6_isEnough_0 : decode cX6_isEnough 0 = .ok (.iconst 0, 1) := by decide +kernel
theorem dX6_isEnough_1 : decode cX6_isEnough 1 = .ok (.istore 4, 2) := by decide +kernel
theorem dX6_isEnough_3 : decode cX6_isEnough 3 = .ok (.iload 4, 2) := by decide +kernel
theorem dX6_isEnough_5 : decode cX6_isEnough 5 = .ok (.bipush 64, 2) := by decide +kernel
theorem dX6_isEnough_7 : decode cX6_isEnough 7 = .ok (.if_icmp .ge 104, 3) := by decide +kernel
theorem dX6_isEnough_10 : decode cX6_isEnough 10 = .ok (.aload_n 0, 1) := by decide +kernel
theorem dX6_isEnough_11 : decode cX6_isEnough 11 = .ok (.getfield 77, 3) := by decide +kernel
theorem dX6_isEnough_14 : decode cX6_isEnough 14 = .ok (.iload 4, 2) := by decide +kernel
theorem dX6_isEnough_16 : decode cX6_isEnough 16 = .ok (.baload, 1) := by decide +kernel
theorem dX6_isEnough_17 : decode cX6_isEnough 17 = .ok (.ifCond .ne 6, 3) := by decide +kernel
theorem dX6_isEnough_20 : decode cX6_isEnough 20 = .ok (.goto 85, 3) := by decide +kernel
theorem dX6_isEnough_23 : decode cX6_isEnough 23 = .ok (.aload_n 0, 1) := by decide +kernel
theorem dX6_isEnough_24 : decode cX6_isEnough 24 = .ok (.iload 4, 2) := by decide +kernel
theorem dX6_isEnough_26 : decode cX6_isEnough 26 = .ok (.iload_n 1, 1) := by decide +kernel
theorem dX6_isEnough_27 : decode cX6_isEnough 27 = .ok (.iconst 0, 1) := by decide +kernel
theorem dX6_isEnough_28 : decode cX6_isEnough 28 = .ok (.invokevirtual 222, 3) := by decide +kernel
theorem dX6_isEnough_31 : decode cX6_isEnough 31 = .ok (.iconst 0, 1) := by decide +kernel
theorem dX6_isEnough_32 : decode cX6_isEnough 32 = .ok (.istore 5, 2) := by decide +kernel
theorem dX6_isEnough_34 : decode cX6_isEnough 34 = .ok (.iload 5, 2) := by decide +kernel
theorem dX6_isEnough_36 : decode cX6_isEnough 36 = .ok (.bipush 8, 2) := by decide +kernel
theorem dX6_isEnough_38 : decode cX6_isEnough 38 = .ok (.if_icmp .ge 29, 3) := by decide +kernel
theorem dX6_isEnough_41 : decode cX6_isEnough 41 = .ok (.iload_n 2, 1) := by decide +kernel
theorem dX6_isEnough_42 : decode cX6_isEnough 42 = .ok (.iload 5, 2) := by decide +kernel
theorem dX6_isEnough_44 : decode cX6_isEnough 44 = .ok (.ishr, 1) := by decide +kernel
theorem dX6_isEnough_45 : decode cX6_isEnough 45 = .ok (.iconst 1, 1) := by decide +kernel
theorem dX6_isEnough_46 : decode cX6_isEnough 46 = .ok (.iand, 1) := by decide +kernel
theorem dX6_isEnough_47 : decode cX6_isEnough 47 = .ok (.iconst 1, 1) := by decide +kernel
theorem dX6_isEnough_48 : decode cX6_isEnough 48 = .ok (.if_icmp .ne 13, 3) := by decide +kernel
theorem dX6_isEnough_51 : decode cX6_isEnough 51 = .ok (.aload_n 0, 1) := by decide +kernel
theorem dX6_isEnough_52 : decode cX6_isEnough 52 = .ok (.iconst 5, 1) := by decide +kernel
theorem dX6_isEnough_53 : decode cX6_isEnough 53 = .ok (.iload 5, 2) := by decide +kernel
theorem dX6_isEnough_55 : decode cX6_isEnough 55 = .ok (.bipush (-9), 2) := by decide +kernel
theorem dX6_isEnough_57 : decode cX6_isEnough 57 = .ok (.iconst 0, 1) := by decide +kernel
theorem dX6_isEnough_58 : decode cX6_isEnough 58 = .ok (.invokevirtual 211, 3) := by decide +kernel
theorem dX6_isEnough_61 : decode cX6_isEnough 61 = .ok (.iinc 5 1, 3) := by decide +kernel
theorem dX6_isEnough_64 : decode cX6_isEnough 64 = .ok (.goto (-30), 3) := by decide +kernel
theorem dX6_isEnough_67 : decode cX6_isEnough 67 = .ok (.iload_n 1, 1) := by decide +kernel
theorem dX6_isEnough_68 : decode cX6_isEnough 68 = .ok (.iconst 1, 1) := by decide +kernel
theorem dX6_isEnough_69 : decode cX6_isEnough 69 = .ok (.iadd, 1) := by decide +kernel
theorem dX6_isEnough_70 : decode cX6_isEnough 70 = .ok (.istore 5, 2) := by decide +kernel
theorem dX6_isEnough_72 : decode cX6_isEnough 72 = .ok (.iload 5, 2) := by decide +kernel
theorem dX6_isEnough_74 : decode cX6_isEnough 74 = .ok (.bipush 47, 2) := by decide +kernel
theorem dX6_isEnough_76 : decode cX6_isEnough 76 = .ok (.if_icmp .gt 17, 3) := by decide +kernel
theorem dX6_isEnough_79 : decode cX6_isEnough 79 = .ok (.aload_n 0, 1) := by decide +kernel
theorem dX6_isEnough_80 : decode cX6_isEnough 80 = .ok (.iload 4, 2) := by decide +kernel
theorem dX6_isEnough_82 : decode cX6_isEnough 82 = .ok (.iload 5, 2) := by decide +kernel
theorem dX6_isEnough_84 : decode cX6_isEnough 84 = .ok (.invokevirtual 219, 3) := by decide +kernel
theorem dX6_isEnough_87 : decode cX6_isEnough 87 = .ok (.iinc 5 1, 3) := by decide +kernel
theorem dX6_isEnough_90 : decode cX6_isEnough 90 = .ok (.goto (-18), 3) := by decide +kernel
theorem dX6_isEnough_93 : decode cX6_isEnough 93 = .ok (.aload_n 0, 1) := by decide +kernel
theorem dX6_isEnough_94 : decode cX6_isEnough 94 = .ok (.invokevirtual 248, 3) := by decide +kernel
theorem dX6_isEnough_97 : decode cX6_isEnough 97 = .ok (.iload_n 3, 1) := by decide +kernel
theorem dX6_isEnough_98 : decode cX6_isEnough 98 = .ok (.iand, 1) := by decide +kernel
theorem dX6_isEnough_99 : decode cX6_isEnough 99 = .ok (.iload_n 3, 1) := by decide +kernel
theorem dX6_isEnough_100 : decode cX6_isEnough 100 = .ok (.if_icmp .eq 5, 3) := by decide +kernel
theorem dX6_isEnough_103 : decode cX6_isEnough 103 = .ok (.iconst 0, 1) := by decide +kernel
theorem dX6_isEnough_104 : decode cX6_isEnough 104 = .ok (.ireturn, 1) := by decide +kernel
theorem dX6_isEnough_105 : decode cX6_isEnough 105 = .ok (.iinc 4 1, 3) := by decide +kernel
theorem dX6_isEnough_108 : decode cX6_isEnough 108 = .ok (.goto (-105), 3) := by decide +kernel
theorem dX6_isEnough_111 : decode cX6_isEnough 111 = .ok (.iconst 1, 1) := by decide +kernel
theorem dX6_isEnough_112 : decode cX6_isEnough 112 = .ok (.ireturn, 1) := by decide +kernel
theorem dX6_washing_0 : decode cX6_washing 0 = .ok (.iload_n 1, 1) := by decide +kernel
theorem dX6_washing_1 : decode cX6_washing 1 = .ok (.ifCond .lt 7, 3) := by decide +kernel
theorem dX6_washing_4 : decode cX6_washing 4 = .ok (.iload_n 2, 1) := by decide +kernel
theorem dX6_washing_5 : decode cX6_washing 5 = .ok (.ifCond .ge 8, 3) := by decide +kernel
theorem dX6_washing_8 : decode cX6_washing 8 = .ok (.bipush (-4), 2) := by decide +kernel
theorem dX6_washing_10 : decode cX6_washing 10 = .ok (.goto 28, 3) := by decide +kernel
theorem dX6_washing_13 : decode cX6_washing 13 = .ok (.iload_n 2, 1) := by decide +kernel
theorem dX6_washing_14 : decode cX6_washing 14 = .ok (.aload_n 0, 1) := by decide +kernel
theorem dX6_washing_15 : decode cX6_washing 15 = .ok (.getfield 101, 3) := by decide +kernel
theorem dX6_washing_18 : decode cX6_washing 18 = .ok (.ishr, 1) := by decide +kernel
theorem dX6_washing_19 : decode cX6_washing 19 = .ok (.ifCond .eq 7, 3) := by decide +kernel
theorem dX6_washing_22 : decode cX6_washing 22 = .ok (.iconst (-1), 1) := by decide +kernel
theorem dX6_washing_23 : decode cX6_washing 23 = .ok (.goto 15, 3) := by decide +kernel
theorem dX6_washing_26 : decode cX6_washing 26 = .ok (.iload_n 1, 1) := by decide +kernel
theorem dX6_washing_27 : decode cX6_washing 27 = .ok (.bipush 47, 2) := by decide +kernel
theorem dX6_washing_29 : decode cX6_washing 29 = .ok (.if_icmp .le 8, 3) := by decide +kernel
theorem dX6_washing_32 : decode cX6_washing 32 = .ok (.bipush (-6), 2) := by decide +kernel
theorem dX6_washing_34 : decode cX6_washing 34 = .ok (.goto 4, 3) := by decide +kernel
theorem dX6_washing_37 : decode cX6_washing 37 = .ok (.iconst 0, 1) := by decide +kernel
theorem dX6_washing_38 : decode cX6_washing 38 = .ok (.istore_n 3, 1) := by decide +kernel
theorem dX6_washing_39 : decode cX6_washing 39 = .ok (.iload_n 3, 1) := by decide +kernel
theorem dX6_washing_40 : decode cX6_washing 40 = .ok (.ifCond .eq 9, 3) := by decide +kernel
theorem dX6_washing_43 : decode cX6_washing 43 = .ok (.aload_n 0, 1) := by decide +kernel
theorem dX6_washing_44 : decode cX6_washing 44 = .ok (.iload_n 3, 1) := by decide +kernel
theorem dX6_washing_45 : decode cX6_washing 45 = .ok (.invokevirtual 109, 3) := by decide +kernel
theorem dX6_washing_48 : decode cX6_washing 48 = .ok (.ireturn, 1) := by decide +kernel
theorem dX6_washing_49 : decode cX6_washing 49 = .ok (.aload_n 0, 1) := by decide +kernel
theorem dX6_washing_50 : decode cX6_washing 50 = .ok (.iconst 0, 1) := by decide +kernel
theorem dX6_washing_51 : decode cX6_washing 51 = .ok (.invokevirtual 241, 3) := by decide +kernel
theorem dX6_washing_54 : decode cX6_washing 54 = .ok (.ifCond .ne 6, 3) := by decide +kernel
theorem dX6_washing_57 : decode cX6_washing 57 = .ok (.bipush (-9), 2) := by decide +kernel
theorem dX6_washing_59 : decode cX6_washing 59 = .ok (.ireturn, 1) := by decide +kernel
theorem dX6_washing_60 : decode cX6_washing 60 = .ok (.bipush (-9), 2) := by decide +kernel
theorem dX6_washing_62 : decode cX6_washing 62 = .ok (.istore 4, 2) := by decide +kernel
theorem dX6_washing_64 : decode cX6_washing 64 = .ok (.aload_n 0, 1) := by decide +kernel
theorem dX6_washing_65 : decode cX6_washing 65 = .ok (.getfield 101, 3) := by decide +kernel
theorem dX6_washing_68 : decode cX6_washing 68 = .ok (.bipush 8, 2) := by decide +kernel
theorem dX6_washing_70 : decode cX6_washing 70 = .ok (.if_icmp .ge 10, 3) := by decide +kernel
theorem dX6_washing_73 : decode cX6_washing 73 = .ok (.aload_n 0, 1) := by decide +kernel
theorem dX6_washing_74 : decode cX6_washing 74 = .ok (.getfield 101, 3) := by decide +kernel
theorem dX6_washing_77 : decode cX6_washing 77 = .ok (.goto 5, 3) := by decide +kernel
theorem dX6_washing_80 : decode cX6_washing 80 = .ok (.bipush 8, 2) := by decide +kernel
theorem dX6_washing_82 : decode cX6_washing 82 = .ok (.istore 5, 2) := by decide +kernel
theorem dX6_washing_84 : decode cX6_washing 84 = .ok (.iconst 0, 1) := by decide +kernel
theorem dX6_washing_85 : decode cX6_washing 85 = .ok (.istore 6, 2) := by decide +kernel
theorem dX6_washing_87 : decode cX6_washing 87 = .ok (.iload 6, 2) := by decide +kernel
theorem dX6_washing_89 : decode cX6_washing 89 = .ok (.iconst 1, 1) := by decide +kernel
theorem dX6_washing_90 : decode cX6_washing 90 = .ok (.iload 5, 2) := by decide +kernel
theorem dX6_washing_92 : decode cX6_washing 92 = .ok (.ishl, 1) := by decide +kernel
theorem dX6_washing_93 : decode cX6_washing 93 = .ok (.if_icmp .ge 42, 3) := by decide +kernel
theorem dX6_washing_96 : decode cX6_washing 96 = .ok (.iload 4, 2) := by decide +kernel
theorem dX6_washing_98 : decode cX6_washing 98 = .ok (.ifCond .lt 16, 3) := by decide +kernel
theorem dX6_washing_101 : decode cX6_washing 101 = .ok (.iload 6, 2) := by decide +kernel
theorem dX6_washing_103 : decode cX6_washing 103 = .ok (.invokestatic 238, 3) := by decide +kernel
theorem dX6_washing_106 : decode cX6_washing 106 = .ok (.iload 4, 2) := by decide +kernel
theorem dX6_washing_108 : decode cX6_washing 108 = .ok (.invokestatic 238, 3) := by decide +kernel
theorem dX6_washing_111 : decode cX6_washing 111 = .ok (.if_icmp .ge 18, 3) := by decide +kernel
theorem dX6_washing_114 : decode cX6_washing 114 = .ok (.aload_n 0, 1) := by decide +kernel
theorem dX6_washing_115 : decode cX6_washing 115 = .ok (.iload_n 1, 1) := by decide +kernel
theorem dX6_washing_116 : decode cX6_washing 116 = .ok (.iload 6, 2) := by decide +kernel
theorem dX6_washing_118 : decode cX6_washing 118 = .ok (.iload_n 2, 1) := by decide +kernel
theorem dX6_washing_119 : decode cX6_washing 119 = .ok (.invokevirtual 267, 3) := by decide +kernel
theorem dX6_washing_122 : decode cX6_washing 122 = .ok (.ifCond .eq 7, 3) := by decide +kernel
theorem dX6_washing_125 : decode cX6_washing 125 = .ok (.iload 6, 2) := by decide +kernel
theorem dX6_washing_127 : decode cX6_washing 127 = .ok (.istore 4, 2) := by decide +kernel
theorem dX6_washing_129 : decode cX6_washing 129 = .ok (.iinc 6 1, 3) := by decide +kernel
theorem dX6_washing_132 : decode cX6_washing 132 = .ok (.goto (-45), 3) := by decide +kernel
theorem dX6_washing_135 : decode cX6_washing 135 = .ok (.iload 4, 2) := by decide +kernel
theorem dX6_washing_137 : decode cX6_washing 137 = .ok (.ireturn, 1) := by decide +kernel
theorem dX6_step_0 : decode cX6_step 0 = .ok (.iload_n 1, 1) := by decide +kernel
theorem dX6_step_1 : decode cX6_step 1 = .ok (.iconst 0, 1) := by decide +kernel
theorem dX6_step_2 : decode cX6_step 2 = .ok (.iconst 4, 1) := by decide +kernel
theorem dX6_step_3 : decode cX6_step 3 = .ok (.invokestatic 105, 3) := by decide +kernel
theorem dX6_step_6 : decode cX6_step 6 = .ok (.ifCond .ne 10, 3) := by decide +kernel
theorem dX6_step_9 : decode cX6_step 9 = .ok (.aload_n 0, 1) := by decide +kernel
theorem dX6_step_10 : decode cX6_step 10 = .ok (.bipush (-2), 2) := by decide +kernel
theorem dX6_step_12 : decode cX6_step 12 = .ok (.invokevirtual 109, 3) := by decide +kernel
theorem dX6_step_15 : decode cX6_step 15 = .ok (.ireturn, 1) := by decide +kernel
theorem dX6_step_16 : decode cX6_step 16 = .ok (.aload_n 0, 1) := by decide +kernel
theorem dX6_step_17 : decode cX6_step 17 = .ok (.iload_n 2, 1) := by decide +kernel
theorem dX6_step_18 : decode cX6_step 18 = .ok (.invokevirtual 132, 3) := by decide +kernel
theorem dX6_step_21 : decode cX6_step 21 = .ok (.ifCond .eq 16, 3) := by decide +kernel
theorem dX6_step_24 : decode cX6_step 24 = .ok (.aload_n 0, 1) := by decide +kernel
theorem dX6_step_25 : decode cX6_step 25 = .ok (.iload_n 3, 1) := by decide +kernel
theorem dX6_step_26 : decode cX6_step 26 = .ok (.invokevirtual 132, 3) := by decide +kernel
theorem dX6_step_29 : decode cX6_step 29 = .ok (.ifCond .eq 8, 3) := by decide +kernel
theorem dX6_step_32 : decode cX6_step 32 = .ok (.iload_n 2, 1) := by decide +kernel
theorem dX6_step_33 : decode cX6_step 33 = .ok (.iload_n 3, 1) := by decide +kernel
theorem dX6_step_34 : decode cX6_step 34 = .ok (.if_icmp .ne 9, 3) := by decide +kernel
theorem dX6_step_37 : decode cX6_step 37 = .ok (.aload_n 0, 1) := by decide +kernel
theorem dX6_step_38 : decode cX6_step 38 = .ok (.iconst (-1), 1) := by decide +kernel
theorem dX6_step_39 : decode cX6_step 39 = .ok (.invokevirtual 109, 3) := by decide +kernel
theorem dX6_step_42 : decode cX6_step 42 = .ok (.ireturn, 1) := by decide +kernel
theorem dX6_step_43 : decode cX6_step 43 = .ok (.aload_n 0, 1) := by decide +kernel
theorem dX6_step_44 : decode cX6_step 44 = .ok (.getfield 270, 3) := by decide +kernel
theorem dX6_step_47 : decode cX6_step 47 = .ok (.iconst 5, 1) := by decide +kernel
theorem dX6_step_48 : decode cX6_step 48 = .ok (.if_icmp .ne 10, 3) := by decide +kernel
theorem dX6_step_51 : decode cX6_step 51 = .ok (.aload_n 0, 1) := by decide +kernel
theorem dX6_step_52 : decode cX6_step 52 = .ok (.bipush (-6), 2) := by decide +kernel
theorem dX6_step_54 : decode cX6_step 54 = .ok (.invokevirtual 109, 3) := by decide +kernel
theorem dX6_step_57 : decode cX6_step 57 = .ok (.ireturn, 1) := by decide +kernel
theorem dX6_step_58 : decode cX6_step 58 = .ok (.aload_n 0, 1) := by decide +kernel
theorem dX6_step_59 : decode cX6_step 59 = .ok (.getfield 83, 3) := by decide +kernel
theorem dX6_step_62 : decode cX6_step 62 = .ok (.aload_n 0, 1) := by decide +kernel
theorem dX6_step_63 : decode cX6_step 63 = .ok (.getfield 270, 3) := by decide +kernel
theorem dX6_step_66 : decode cX6_step 66 = .ok (.iload_n 1, 1) := by decide +kernel
theorem dX6_step_67 : decode cX6_step 67 = .ok (.iastore, 1) := by decide +kernel
theorem dX6_step_68 : decode cX6_step 68 = .ok (.aload_n 0, 1) := by decide +kernel
theorem dX6_step_69 : decode cX6_step 69 = .ok (.getfield 86, 3) := by decide +kernel
theorem dX6_step_72 : decode cX6_step 72 = .ok (.aload_n 0, 1) := by decide +kernel
theorem dX6_step_73 : decode cX6_step 73 = .ok (.getfield 270, 3) := by decide +kernel
theorem dX6_step_76 : decode cX6_step 76 = .ok (.iload_n 2, 1) := by decide +kernel
theorem dX6_step_77 : decode cX6_step 77 = .ok (.iastore, 1) := by decide +kernel
theorem dX6_step_78 : decode cX6_step 78 = .ok (.aload_n 0, 1) := by decide +kernel
theorem dX6_step_79 : decode cX6_step 79 = .ok (.getfield 89, 3) := by decide +kernel
theorem dX6_step_82 : decode cX6_step 82 = .ok (.aload_n 0, 1) := by decide +kernel
theorem dX6_step_83 : decode cX6_step 83 = .ok (.getfield 270, 3) := by decide +kernel
theorem dX6_step_86 : decode cX6_step 86 = .ok (.iload_n 3, 1) := by decide +kernel
theorem dX6_step_87 : decode cX6_step 87 = .ok (.iastore, 1) := by decide +kernel
theorem dX6_step_88 : decode cX6_step 88 = .ok (.aload_n 0, 1) := by decide +kernel
theorem dX6_step_89 : decode cX6_step 89 = .ok (.dup, 1) := by decide +kernel
theorem dX6_step_90 : decode cX6_step 90 = .ok (.getfield 270, 3) := by decide +kernel
theorem dX6_step_93 : decode cX6_step 93 = .ok (.iconst 1, 1) := by decide +kernel
theorem dX6_step_94 : decode cX6_step 94 = .ok (.iadd, 1) := by decide +kernel
theorem dX6_step_95 : decode cX6_step 95 = .ok (.putfield 270, 3) := by decide +kernel
theorem dX6_step_98 : decode cX6_step 98 = .ok (.aload_n 0, 1) := by decide +kernel
theorem dX6_step_99 : decode cX6_step 99 = .ok (.getfield 270, 3) := by decide +kernel
theorem dX6_step_102 : decode cX6_step 102 = .ok (.ireturn, 1) := by decide +kernel
theorem dX6_clear_0 : decode cX6_clear 0 = .ok (.aload_n 0, 1) := by decide +kernel
theorem dX6_clear_1 : decode cX6_clear 1 = .ok (.getfield 270, 3) := by decide +kernel
theorem dX6_clear_4 : decode cX6_clear 4 = .ok (.istore_n 1, 1) := by decide +kernel
theorem dX6_clear_5 : decode cX6_clear 5 = .ok (.aload_n 0, 1) := by decide +kernel
theorem dX6_clear_6 : decode cX6_clear 6 = .ok (.iconst 0, 1) := by decide +kernel
theorem dX6_clear_7 : decode cX6_clear 7 = .ok (.putfield 270, 3) := by decide +kernel
theorem dX6_clear_10 : decode cX6_clear 10 = .ok (.iload_n 1, 1) := by decide +kernel
theorem dX6_clear_11 : decode cX6_clear 11 = .ok (.ireturn, 1) := by decide +kernel
theorem dX6_cooks_0 : decode cX6_cooks 0 = .ok (.iconst 0, 1) := by decide +kernel
theorem dX6_cooks_1 : decode cX6_cooks 1 = .ok (.istore_n 2, 1) := by decide +kernel
theorem dX6_cooks_2 : decode cX6_cooks 2 = .ok (.iload_n 2, 1) := by decide +kernel
theorem dX6_cooks_3 : decode cX6_cooks 3 = .ok (.bipush 64, 2) := by decide +kernel
theorem dX6_cooks_5 : decode cX6_cooks 5 = .ok (.if_icmp .ge 95, 3) := by decide +kernel
theorem dX6_cooks_8 : decode cX6_cooks 8 = .ok (.aload_n 0, 1) := by decide +kernel
theorem dX6_cooks_9 : decode cX6_cooks 9 = .ok (.getfield 77, 3) := by decide +kernel
theorem dX6_cooks_12 : decode cX6_cooks 12 = .ok (.iload_n 2, 1) := by decide +kernel
theorem dX6_cooks_13 : decode cX6_cooks 13 = .ok (.baload, 1) := by decide +kernel
theorem dX6_cooks_14 : decode cX6_cooks 14 = .ok (.ifCond .ne 6, 3) := by decide +kernel
theorem dX6_cooks_17 : decode cX6_cooks 17 = .ok (.goto 77, 3) := by decide +kernel
theorem dX6_cooks_20 : decode cX6_cooks 20 = .ok (.aload_n 0, 1) := by decide +kernel
theorem dX6_cooks_21 : decode cX6_cooks 21 = .ok (.iload_n 2, 1) := by decide +kernel
theorem dX6_cooks_22 : decode cX6_cooks 22 = .ok (.bipush 47, 2) := by decide +kernel
theorem dX6_cooks_24 : decode cX6_cooks 24 = .ok (.iconst 0, 1) := by decide +kernel
theorem dX6_cooks_25 : decode cX6_cooks 25 = .ok (.invokevirtual 222, 3) := by decide +kernel
theorem dX6_cooks_28 : decode cX6_cooks 28 = .ok (.iconst 0, 1) := by decide +kernel
theorem dX6_cooks_29 : decode cX6_cooks 29 = .ok (.istore_n 3, 1) := by decide +kernel
theorem dX6_cooks_30 : decode cX6_cooks 30 = .ok (.iload_n 3, 1) := by decide +kernel
theorem dX6_cooks_31 : decode cX6_cooks 31 = .ok (.aload_n 0, 1) := by decide +kernel
theorem dX6_cooks_32 : decode cX6_cooks 32 = .ok (.getfield 270, 3) := by decide +kernel
theorem dX6_cooks_35 : decode cX6_cooks 35 = .ok (.if_icmp .ge 59, 3) := by decide +kernel
theorem dX6_cooks_38 : decode cX6_cooks 38 = .ok (.aload_n 0, 1) := by decide +kernel
theorem dX6_cooks_39 : decode cX6_cooks 39 = .ok (.aload_n 0, 1) := by decide +kernel
theorem dX6_cooks_40 : decode cX6_cooks 40 = .ok (.getfield 83, 3) := by decide +kernel
theorem dX6_cooks_43 : decode cX6_cooks 43 = .ok (.aload_n 0, 1) := by decide +kernel
theorem dX6_cooks_44 : decode cX6_cooks 44 = .ok (.getfield 92, 3) := by decide +kernel
theorem dX6_cooks_47 : decode cX6_cooks 47 = .ok (.iload_n 3, 1) := by decide +kernel
theorem dX6_cooks_48 : decode cX6_cooks 48 = .ok (.iaload, 1) := by decide +kernel
theorem dX6_cooks_49 : decode cX6_cooks 49 = .ok (.iaload, 1) := by decide +kernel
theorem dX6_cooks_50 : decode cX6_cooks 50 = .ok (.aload_n 0, 1) := by decide +kernel
theorem dX6_cooks_51 : decode cX6_cooks 51 = .ok (.getfield 86, 3) := by decide +kernel
theorem dX6_cooks_54 : decode cX6_cooks 54 = .ok (.aload_n 0, 1) := by decide +kernel
theorem dX6_cooks_55 : decode cX6_cooks 55 = .ok (.getfield 92, 3) := by decide +kernel
theorem dX6_cooks_58 : decode cX6_cooks 58 = .ok (.iload_n 3, 1) := by decide +kernel
theorem dX6_cooks_59 : decode cX6_cooks 59 = .ok (.iaload, 1) := by decide +kernel
theorem dX6_cooks_60 : decode cX6_cooks 60 = .ok (.iaload, 1) := by decide +kernel
theorem dX6_cooks_61 : decode cX6_cooks 61 = .ok (.aload_n 0, 1) := by decide +kernel
theorem dX6_cooks_62 : decode cX6_cooks 62 = .ok (.getfield 89, 3) := by decide +kernel
theorem dX6_cooks_65 : decode cX6_cooks 65 = .ok (.aload_n 0, 1) := by decide +kernel
theorem dX6_cooks_66 : decode cX6_cooks 66 = .ok (.getfield 92, 3) := by decide +kernel
theorem dX6_cooks_69 : decode cX6_cooks 69 = .ok (.iload_n 3, 1) := by decide +kernel
theorem dX6_cooks_70 : decode cX6_cooks 70 = .ok (.iaload, 1) := by decide +kernel
theorem dX6_cooks_71 : decode cX6_cooks 71 = .ok (.iaload, 1) := by decide +kernel
theorem dX6_cooks_72 : decode cX6_cooks 72 = .ok (.iconst 0, 1) := by decide +kernel
theorem dX6_cooks_73 : decode cX6_cooks 73 = .ok (.invokevirtual 211, 3) := by decide +kernel
theorem dX6_cooks_76 : decode cX6_cooks 76 = .ok (.aload_n 0, 1) := by decide +kernel
theorem dX6_cooks_77 : decode cX6_cooks 77 = .ok (.invokevirtual 248, 3) := by decide +kernel
theorem dX6_cooks_80 : decode cX6_cooks 80 = .ok (.iload_n 1, 1) := by decide +kernel
theorem dX6_cooks_81 : decode cX6_cooks 81 = .ok (.iand, 1) := by decide +kernel
theorem dX6_cooks_82 : decode cX6_cooks 82 = .ok (.iload_n 1, 1) := by decide +kernel
theorem dX6_cooks_83 : decode cX6_cooks 83 = .ok (.if_icmp .eq 5, 3) := by decide +kernel
theorem dX6_cooks_86 : decode cX6_cooks 86 = .ok (.iconst 0, 1) := by decide +kernel
theorem dX6_cooks_87 : decode cX6_cooks 87 = .ok (.ireturn, 1) := by decide +kernel
theorem dX6_cooks_88 : decode cX6_cooks 88 = .ok (.iinc 3 1, 3) := by decide +kernel
theorem dX6_cooks_91 : decode cX6_cooks 91 = .ok (.goto (-61), 3) := by decide +kernel
theorem dX6_cooks_94 : decode cX6_cooks 94 = .ok (.iinc 2 1, 3) := by decide +kernel
theorem dX6_cooks_97 : decode cX6_cooks 97 = .ok (.goto (-95), 3) := by decide +kernel
theorem dX6_cooks_100 : decode cX6_cooks 100 = .ok (.iconst 1, 1) := by decide +kernel
theorem dX6_cooks_101 : decode cX6_cooks 101 = .ok (.ireturn, 1) := by decide +kernel
theorem dX6_nextLine_0 : decode cX6_nextLine 0 = .ok (.aload_n 0, 1) := by decide +kernel
theorem dX6_nextLine_1 : decode cX6_nextLine 1 = .ok (.getfield 270, 3) := by decide +kernel
theorem dX6_nextLine_4 : decode cX6_nextLine 4 = .ok (.iconst 2, 1) := by decide +kernel
theorem dX6_nextLine_5 : decode cX6_nextLine 5 = .ok (.isub, 1) := by decide +kernel
theorem dX6_nextLine_6 : decode cX6_nextLine 6 = .ok (.istore_n 1, 1) := by decide +kernel
theorem dX6_nextLine_7 : decode cX6_nextLine 7 = .ok (.iload_n 1, 1) := by decide +kernel
theorem dX6_nextLine_8 : decode cX6_nextLine 8 = .ok (.ifCond .lt 26, 3) := by decide +kernel
theorem dX6_nextLine_11 : decode cX6_nextLine 11 = .ok (.aload_n 0, 1) := by decide +kernel
theorem dX6_nextLine_12 : decode cX6_nextLine 12 = .ok (.getfield 92, 3) := by decide +kernel
theorem dX6_nextLine_15 : decode cX6_nextLine 15 = .ok (.iload_n 1, 1) := by decide +kernel
theorem dX6_nextLine_16 : decode cX6_nextLine 16 = .ok (.iaload, 1) := by decide +kernel
theorem dX6_nextLine_17 : decode cX6_nextLine 17 = .ok (.aload_n 0, 1) := by decide +kernel
theorem dX6_nextLine_18 : decode cX6_nextLine 18 = .ok (.getfield 92, 3) := by decide +kernel
theorem dX6_nextLine_21 : decode cX6_nextLine 21 = .ok (.iload_n 1, 1) := by decide +kernel
theorem dX6_nextLine_22 : decode cX6_nextLine 22 = .ok (.iconst 1, 1) := by decide +kernel
theorem dX6_nextLine_23 : decode cX6_nextLine 23 = .ok (.iadd, 1) := by decide +kernel
theorem dX6_nextLine_24 : decode cX6_nextLine 24 = .ok (.iaload, 1) := by decide +kernel
theorem dX6_nextLine_25 : decode cX6_nextLine 25 = .ok (.if_icmp .le 9, 3) := by decide +kernel
theorem dX6_nextLine_28 : decode cX6_nextLine 28 = .ok (.iinc 1 (-1), 3) := by decide +kernel
theorem dX6_nextLine_31 : decode cX6_nextLine 31 = .ok (.goto (-24), 3) := by decide +kernel
theorem dX6_nextLine_34 : decode cX6_nextLine 34 = .ok (.iload_n 1, 1) := by decide +kernel
theorem dX6_nextLine_35 : decode cX6_nextLine 35 = .ok (.ifCond .ge 5, 3) := by decide +kernel
theorem dX6_nextLine_38 : decode cX6_nextLine 38 = .ok (.iconst 0, 1) := by decide +kernel
theorem dX6_nextLine_39 : decode cX6_nextLine 39 = .ok (.ireturn, 1) := by decide +kernel
theorem dX6_nextLine_40 : decode cX6_nextLine 40 = .ok (.aload_n 0, 1) := by decide +kernel
theorem dX6_nextLine_41 : decode cX6_nextLine 41 = .ok (.getfield 270, 3) := by decide +kernel
theorem dX6_nextLine_44 : decode cX6_nextLine 44 = .ok (.iconst 1, 1) := by decide +kernel
theorem dX6_nextLine_45 : decode cX6_nextLine 45 = .ok (.isub, 1) := by decide +kernel
theorem dX6_nextLine_46 : decode cX6_nextLine 46 = .ok (.istore_n 2, 1) := by decide +kernel
theorem dX6_nextLine_47 : decode cX6_nextLine 47 = .ok (.aload_n 0, 1) := by decide +kernel
theorem dX6_nextLine_48 : decode cX6_nextLine 48 = .ok (.getfield 92, 3) := by decide +kernel
theorem dX6_nextLine_51 : decode cX6_nextLine 51 = .ok (.iload_n 2, 1) := by decide +kernel
theorem dX6_nextLine_52 : decode cX6_nextLine 52 = .ok (.iaload, 1) := by decide +kernel
theorem dX6_nextLine_53 : decode cX6_nextLine 53 = .ok (.aload_n 0, 1) := by decide +kernel
theorem dX6_nextLine_54 : decode cX6_nextLine 54 = .ok (.getfield 92, 3) := by decide +kernel
theorem dX6_nextLine_57 : decode cX6_nextLine 57 = .ok (.iload_n 1, 1) := by decide +kernel
theorem dX6_nextLine_58 : decode cX6_nextLine 58 = .ok (.iaload, 1) := by decide +kernel
theorem dX6_nextLine_59 : decode cX6_nextLine 59 = .ok (.if_icmp .ge 9, 3) := by decide +kernel
theorem dX6_nextLine_62 : decode cX6_nextLine 62 = .ok (.iinc 2 (-1), 3) := by decide +kernel
theorem dX6_nextLine_65 : decode cX6_nextLine 65 = .ok (.goto (-18), 3) := by decide +kernel
theorem dX6_nextLine_68 : decode cX6_nextLine 68 = .ok (.aload_n 0, 1) := by decide +kernel
theorem dX6_nextLine_69 : decode cX6_nextLine 69 = .ok (.getfield 92, 3) := by decide +kernel
theorem dX6_nextLine_72 : decode cX6_nextLine 72 = .ok (.iload_n 1, 1) := by decide +kernel
theorem dX6_nextLine_73 : decode cX6_nextLine 73 = .ok (.iaload, 1) := by decide +kernel
theorem dX6_nextLine_74 : decode cX6_nextLine 74 = .ok (.istore_n 3, 1) := by decide +kernel
theorem dX6_nextLine_75 : decode cX6_nextLine 75 = .ok (.aload_n 0, 1) := by decide +kernel
theorem dX6_nextLine_76 : decode cX6_nextLine 76 = .ok (.getfield 92, 3) := by decide +kernel
theorem dX6_nextLine_79 : decode cX6_nextLine 79 = .ok (.iload_n 1, 1) := by decide +kernel
theorem dX6_nextLine_80 : decode cX6_nextLine 80 = .ok (.aload_n 0, 1) := by decide +kernel
theorem dX6_nextLine_81 : decode cX6_nextLine 81 = .ok (.getfield 92, 3) := by decide +kernel
theorem dX6_nextLine_84 : decode cX6_nextLine 84 = .ok (.iload_n 2, 1) := by decide +kernel
theorem dX6_nextLine_85 : decode cX6_nextLine 85 = .ok (.iaload, 1) := by decide +kernel
theorem dX6_nextLine_86 : decode cX6_nextLine 86 = .ok (.iastore, 1) := by decide +kernel
theorem dX6_nextLine_87 : decode cX6_nextLine 87 = .ok (.aload_n 0, 1) := by decide +kernel
theorem dX6_nextLine_88 : decode cX6_nextLine 88 = .ok (.getfield 92, 3) := by decide +kernel
theorem dX6_nextLine_91 : decode cX6_nextLine 91 = .ok (.iload_n 2, 1) := by decide +kernel
theorem dX6_nextLine_92 : decode cX6_nextLine 92 = .ok (.iload_n 3, 1) := by decide +kernel
theorem dX6_nextLine_93 : decode cX6_nextLine 93 = .ok (.iastore, 1) := by decide +kernel
theorem dX6_nextLine_94 : decode cX6_nextLine 94 = .ok (.iload_n 1, 1) := by decide +kernel
theorem dX6_nextLine_95 : decode cX6_nextLine 95 = .ok (.iconst 1, 1) := by decide +kernel
theorem dX6_nextLine_96 : decode cX6_nextLine 96 = .ok (.iadd, 1) := by decide +kernel
theorem dX6_nextLine_97 : decode cX6_nextLine 97 = .ok (.istore 4, 2) := by decide +kernel
theorem dX6_nextLine_99 : decode cX6_nextLine 99 = .ok (.aload_n 0, 1) := by decide +kernel
theorem dX6_nextLine_100 : decode cX6_nextLine 100 = .ok (.getfield 270, 3) := by decide +kernel
theorem dX6_nextLine_103 : decode cX6_nextLine 103 = .ok (.iconst 1, 1) := by decide +kernel
theorem dX6_nextLine_104 : decode cX6_nextLine 104 = .ok (.isub, 1) := by decide +kernel
theorem dX6_nextLine_105 : decode cX6_nextLine 105 = .ok (.istore 5, 2) := by decide +kernel
theorem dX6_nextLine_107 : decode cX6_nextLine 107 = .ok (.iload 4, 2) := by decide +kernel
theorem dX6_nextLine_109 : decode cX6_nextLine 109 = .ok (.iload 5, 2) := by decide +kernel
theorem dX6_nextLine_111 : decode cX6_nextLine 111 = .ok (.if_icmp .ge 42, 3) := by decide +kernel
theorem dX6_nextLine_114 : decode cX6_nextLine 114 = .ok (.aload_n 0, 1) := by decide +kernel
theorem dX6_nextLine_115 : decode cX6_nextLine 115 = .ok (.getfield 92, 3) := by decide +kernel
theorem dX6_nextLine_118 : decode cX6_nextLine 118 = .ok (.iload 4, 2) := by decide +kernel
theorem dX6_nextLine_120 : decode cX6_nextLine 120 = .ok (.iaload, 1) := by decide +kernel
theorem dX6_nextLine_121 : decode cX6_nextLine 121 = .ok (.istore_n 3, 1) := by decide +kernel
theorem dX6_nextLine_122 : decode cX6_nextLine 122 = .ok (.aload_n 0, 1) := by decide +kernel
theorem dX6_nextLine_123 : decode cX6_nextLine 123 = .ok (.getfield 92, 3) := by decide +kernel
theorem dX6_nextLine_126 : decode cX6_nextLine 126 = .ok (.iload 4, 2) := by decide +kernel
theorem dX6_nextLine_128 : decode cX6_nextLine 128 = .ok (.aload_n 0, 1) := by decide +kernel
theorem dX6_nextLine_129 : decode cX6_nextLine 129 = .ok (.getfield 92, 3) := by decide +kernel
theorem dX6_nextLine_132 : decode cX6_nextLine 132 = .ok (.iload 5, 2) := by decide +kernel
theorem dX6_nextLine_134 : decode cX6_nextLine 134 = .ok (.iaload, 1) := by decide +kernel
theorem dX6_nextLine_135 : decode cX6_nextLine 135 = .ok (.iastore, 1) := by decide +kernel
theorem dX6_nextLine_136 : decode cX6_nextLine 136 = .ok (.aload_n 0, 1) := by decide +kernel
theorem dX6_nextLine_137 : decode cX6_nextLine 137 = .ok (.getfield 92, 3) := by decide +kernel
theorem dX6_nextLine_140 : decode cX6_nextLine 140 = .ok (.iload 5, 2) := by decide +kernel
theorem dX6_nextLine_142 : decode cX6_nextLine 142 = .ok (.iload_n 3, 1) := by decide +kernel
theorem dX6_nextLine_143 : decode cX6_nextLine 143 = .ok (.iastore, 1) := by decide +kernel
theorem dX6_nextLine_144 : decode cX6_nextLine 144 = .ok (.iinc 4 1, 3) := by decide +kernel
theorem dX6_nextLine_147 : decode cX6_nextLine 147 = .ok (.iinc 5 (-1), 3) := by decide +kernel
theorem dX6_nextLine_150 : decode cX6_nextLine 150 = .ok (.goto (-43), 3) := by decide +kernel
theorem dX6_nextLine_153 : decode cX6_nextLine 153 = .ok (.iconst 1, 1) := by decide +kernel
theorem dX6_nextLine_154 : decode cX6_nextLine 154 = .ok (.ireturn, 1) := by decide +kernel
theorem dX6_cooking_0 : decode cX6_cooking 0 = .ok (.iload_n 1, 1) := by decide +kernel
theorem dX6_cooking_1 : decode cX6_cooking 1 = .ok (.ifCond .ge 8, 3) := by decide +kernel
theorem dX6_cooking_4 : decode cX6_cooking 4 = .ok (.bipush (-4), 2) := by decide +kernel
theorem dX6_cooking_6 : decode cX6_cooking 6 = .ok (.goto 17, 3) := by decide +kernel
theorem dX6_cooking_9 : decode cX6_cooking 9 = .ok (.iload_n 1, 1) := by decide +kernel
theorem dX6_cooking_10 : decode cX6_cooking 10 = .ok (.aload_n 0, 1) := by decide +kernel
theorem dX6_cooking_11 : decode cX6_cooking 11 = .ok (.getfield 101, 3) := by decide +kernel
theorem dX6_cooking_14 : decode cX6_cooking 14 = .ok (.ishr, 1) := by decide +kernel
theorem dX6_cooking_15 : decode cX6_cooking 15 = .ok (.ifCond .eq 7, 3) := by decide +kernel
theorem dX6_cooking_18 : decode cX6_cooking 18 = .ok (.iconst (-1), 1) := by decide +kernel
theorem dX6_cooking_19 : decode cX6_cooking 19 = .ok (.goto 4, 3) := by decide +kernel
theorem dX6_cooking_22 : decode cX6_cooking 22 = .ok (.iconst 0, 1) := by decide +kernel
theorem dX6_cooking_23 : decode cX6_cooking 23 = .ok (.istore_n 2, 1) := by decide +kernel
theorem dX6_cooking_24 : decode cX6_cooking 24 = .ok (.iload_n 2, 1) := by decide +kernel
theorem dX6_cooking_25 : decode cX6_cooking 25 = .ok (.ifCond .eq 9, 3) := by decide +kernel
theorem dX6_cooking_28 : decode cX6_cooking 28 = .ok (.aload_n 0, 1) := by decide +kernel
theorem dX6_cooking_29 : decode cX6_cooking 29 = .ok (.iload_n 2, 1) := by decide +kernel
theorem dX6_cooking_30 : decode cX6_cooking 30 = .ok (.invokevirtual 109, 3) := by decide +kernel
theorem dX6_cooking_33 : decode cX6_cooking 33 = .ok (.ireturn, 1) := by decide +kernel
theorem dX6_cooking_34 : decode cX6_cooking 34 = .ok (.aload_n 0, 1) := by decide +kernel
theorem dX6_cooking_35 : decode cX6_cooking 35 = .ok (.iconst 0, 1) := by decide +kernel
theorem dX6_cooking_36 : decode cX6_cooking 36 = .ok (.invokevirtual 241, 3) := by decide +kernel
theorem dX6_cooking_39 : decode cX6_cooking 39 = .ok (.ifCond .ne 6, 3) := by decide +kernel
theorem dX6_cooking_42 : decode cX6_cooking 42 = .ok (.bipush (-9), 2) := by decide +kernel
theorem dX6_cooking_44 : decode cX6_cooking 44 = .ok (.ireturn, 1) := by decide +kernel
theorem dX6_cooking_45 : decode cX6_cooking 45 = .ok (.iconst 0, 1) := by decide +kernel
theorem dX6_cooking_46 : decode cX6_cooking 46 = .ok (.istore_n 3, 1) := by decide +kernel
theorem dX6_cooking_47 : decode cX6_cooking 47 = .ok (.iload_n 3, 1) := by decide +kernel
theorem dX6_cooking_48 : decode cX6_cooking 48 = .ok (.aload_n 0, 1) := by decide +kernel
theorem dX6_cooking_49 : decode cX6_cooking 49 = .ok (.getfield 270, 3) := by decide +kernel
theorem dX6_cooking_52 : decode cX6_cooking 52 = .ok (.if_icmp .ge 16, 3) := by decide +kernel
theorem dX6_cooking_55 : decode cX6_cooking 55 = .ok (.aload_n 0, 1) := by decide +kernel
theorem dX6_cooking_56 : decode cX6_cooking 56 = .ok (.getfield 92, 3) := by decide +kernel
theorem dX6_cooking_59 : decode cX6_cooking 59 = .ok (.iload_n 3, 1) := by decide +kernel
theorem dX6_cooking_60 : decode cX6_cooking 60 = .ok (.iload_n 3, 1) := by decide +kernel
theorem dX6_cooking_61 : decode cX6_cooking 61 = .ok (.iastore, 1) := by decide +kernel
theorem dX6_cooking_62 : decode cX6_cooking 62 = .ok (.iinc 3 1, 3) := by decide +kernel
theorem dX6_cooking_65 : decode cX6_cooking 65 = .ok (.goto (-18), 3) := by decide +kernel
theorem dX6_cooking_68 : decode cX6_cooking 68 = .ok (.iconst 1, 1) := by decide +kernel
theorem dX6_cooking_69 : decode cX6_cooking 69 = .ok (.istore_n 3, 1) := by decide +kernel
theorem dX6_cooking_70 : decode cX6_cooking 70 = .ok (.iload_n 3, 1) := by decide +kernel
theorem dX6_cooking_71 : decode cX6_cooking 71 = .ok (.ifCond .eq 61, 3) := by decide +kernel
theorem dX6_cooking_74 : decode cX6_cooking 74 = .ok (.aload_n 0, 1) := by decide +kernel
theorem dX6_cooking_75 : decode cX6_cooking 75 = .ok (.iload_n 1, 1) := by decide +kernel
theorem dX6_cooking_76 : decode cX6_cooking 76 = .ok (.invokevirtual 273, 3) := by decide +kernel
theorem dX6_cooking_79 : decode cX6_cooking 79 = .ok (.ifCond .eq 45, 3) := by decide +kernel
theorem dX6_cooking_82 : decode cX6_cooking 82 = .ok (.iconst 0, 1) := by decide +kernel
theorem dX6_cooking_83 : decode cX6_cooking 83 = .ok (.istore 4, 2) := by decide +kernel
theorem dX6_cooking_85 : decode cX6_cooking 85 = .ok (.aload_n 0, 1) := by decide +kernel
theorem dX6_cooking_86 : decode cX6_cooking 86 = .ok (.getfield 270, 3) := by decide +kernel
theorem dX6_cooking_89 : decode cX6_cooking 89 = .ok (.iconst 1, 1) := by decide +kernel
theorem dX6_cooking_90 : decode cX6_cooking 90 = .ok (.isub, 1) := by decide +kernel
theorem dX6_cooking_91 : decode cX6_cooking 91 = .ok (.istore 5, 2) := by decide +kernel
theorem dX6_cooking_93 : decode cX6_cooking 93 = .ok (.iload 5, 2) := by decide +kernel
theorem dX6_cooking_95 : decode cX6_cooking 95 = .ok (.ifCond .lt 26, 3) := by decide +kernel
theorem dX6_cooking_98 : decode cX6_cooking 98 = .ok (.bipush 6, 2) := by decide +kernel
theorem dX6_cooking_100 : decode cX6_cooking 100 = .ok (.iload 4, 2) := by decide +kernel
theorem dX6_cooking_102 : decode cX6_cooking 102 = .ok (.imul, 1) := by decide +kernel
theorem dX6_cooking_103 : decode cX6_cooking 103 = .ok (.aload_n 0, 1) := by decide +kernel
theorem dX6_cooking_104 : decode cX6_cooking 104 = .ok (.getfield 92, 3) := by decide +kernel
theorem dX6_cooking_107 : decode cX6_cooking 107 = .ok (.iload 5, 2) := by decide +kernel
theorem dX6_cooking_109 : decode cX6_cooking 109 = .ok (.iaload, 1) := by decide +kernel
theorem dX6_cooking_110 : decode cX6_cooking 110 = .ok (.iadd, 1) := by decide +kernel
theorem dX6_cooking_111 : decode cX6_cooking 111 = .ok (.iconst 1, 1) := by decide +kernel
theorem dX6_cooking_112 : decode cX6_cooking 112 = .ok (.iadd, 1) := by decide +kernel
theorem dX6_cooking_113 : decode cX6_cooking 113 = .ok (.istore 4, 2) := by decide +kernel
theorem dX6_cooking_115 : decode cX6_cooking 115 = .ok (.iinc 5 (-1), 3) := by decide +kernel
theorem dX6_cooking_118 : decode cX6_cooking 118 = .ok (.goto (-25), 3) := by decide +kernel
theorem dX6_cooking_121 : decode cX6_cooking 121 = .ok (.iload 4, 2) := by decide +kernel
theorem dX6_cooking_123 : decode cX6_cooking 123 = .ok (.ireturn, 1) := by decide +kernel
theorem dX6_cooking_124 : decode cX6_cooking 124 = .ok (.aload_n 0, 1) := by decide +kernel
theorem dX6_cooking_125 : decode cX6_cooking 125 = .ok (.invokevirtual 276, 3) := by decide +kernel
theorem dX6_cooking_128 : decode cX6_cooking 128 = .ok (.istore_n 3, 1) := by decide +kernel
theorem dX6_cooking_129 : decode cX6_cooking 129 = .ok (.goto (-59), 3) := by decide +kernel
theorem dX6_cooking_132 : decode cX6_cooking 132 = .ok (.bipush (-9), 2) := by decide +kernel
theorem dX6_cooking_134 : decode cX6_cooking 134 = .ok (.ireturn, 1) := by decide +kernel
theorem dX6_beside_0 : decode cX6_beside 0 = .ok (.iload_n 1, 1) := by decide +kernel
theorem dX6_beside_1 : decode cX6_beside 1 = .ok (.iconst 0, 1) := by decide +kernel
theorem dX6_beside_2 : decode cX6_beside 2 = .ok (.bipush 47, 2) := by decide +kernel
theorem dX6_beside_4 : decode cX6_beside 4 = .ok (.invokestatic 121, 3) := by decide +kernel
theorem dX6_beside_7 : decode cX6_beside 7 = .ok (.istore_n 2, 1) := by decide +kernel
theorem dX6_beside_8 : decode cX6_beside 8 = .ok (.iload_n 2, 1) := by decide +kernel
theorem dX6_beside_9 : decode cX6_beside 9 = .ok (.ifCond .eq 9, 3) := by decide +kernel
theorem dX6_beside_12 : decode cX6_beside 12 = .ok (.aload_n 0, 1) := by decide +kernel
theorem dX6_beside_13 : decode cX6_beside 13 = .ok (.iload_n 2, 1) := by decide +kernel
theorem dX6_beside_14 : decode cX6_beside 14 = .ok (.invokevirtual 109, 3) := by decide +kernel
theorem dX6_beside_17 : decode cX6_beside 17 = .ok (.ireturn, 1) := by decide +kernel
theorem dX6_beside_18 : decode cX6_beside 18 = .ok (.aload_n 0, 1) := by decide +kernel
theorem dX6_beside_19 : decode cX6_beside 19 = .ok (.iconst 0, 1) := by decide +kernel
theorem dX6_beside_20 : decode cX6_beside 20 = .ok (.invokevirtual 241, 3) := by decide +kernel
theorem dX6_beside_23 : decode cX6_beside 23 = .ok (.pop, 1) := by decide +kernel
theorem dX6_beside_24 : decode cX6_beside 24 = .ok (.aload_n 0, 1) := by decide +kernel
theorem dX6_beside_25 : decode cX6_beside 25 = .ok (.iload_n 1, 1) := by decide +kernel
theorem dX6_beside_26 : decode cX6_beside 26 = .ok (.iconst 0, 1) := by decide +kernel
theorem dX6_beside_27 : decode cX6_beside 27 = .ok (.invokevirtual 254, 3) := by decide +kernel
theorem dX6_beside_30 : decode cX6_beside 30 = .ok (.iconst 0, 1) := by decide +kernel
theorem dX6_beside_31 : decode cX6_beside 31 = .ok (.istore_n 3, 1) := by decide +kernel
theorem dX6_beside_32 : decode cX6_beside 32 = .ok (.iload_n 3, 1) := by decide +kernel
theorem dX6_beside_33 : decode cX6_beside 33 = .ok (.aload_n 0, 1) := by decide +kernel
theorem dX6_beside_34 : decode cX6_beside 34 = .ok (.getfield 101, 3) := by decide +kernel
theorem dX6_beside_37 : decode cX6_beside 37 = .ok (.if_icmp .ge 20, 3) := by decide +kernel
theorem dX6_beside_40 : decode cX6_beside 40 = .ok (.aload_n 0, 1) := by decide +kernel
theorem dX6_beside_41 : decode cX6_beside 41 = .ok (.getfield 95, 3) := by decide +kernel
theorem dX6_beside_44 : decode cX6_beside 44 = .ok (.iload_n 3, 1) := by decide +kernel
theorem dX6_beside_45 : decode cX6_beside 45 = .ok (.aload_n 0, 1) := by decide +kernel
theorem dX6_beside_46 : decode cX6_beside 46 = .ok (.iload_n 3, 1) := by decide +kernel
theorem dX6_beside_47 : decode cX6_beside 47 = .ok (.invokevirtual 258, 3) := by decide +kernel
theorem dX6_beside_50 : decode cX6_beside 50 = .ok (.iastore, 1) := by decide +kernel
theorem dX6_beside_51 : decode cX6_beside 51 = .ok (.iinc 3 1, 3) := by decide +kernel
theorem dX6_beside_54 : decode cX6_beside 54 = .ok (.goto (-22), 3) := by decide +kernel
theorem dX6_beside_57 : decode cX6_beside 57 = .ok (.aload_n 0, 1) := by decide +kernel
theorem dX6_beside_58 : decode cX6_beside 58 = .ok (.iconst 1, 1) := by decide +kernel
theorem dX6_beside_59 : decode cX6_beside 59 = .ok (.invokevirtual 241, 3) := by decide +kernel
theorem dX6_beside_62 : decode cX6_beside 62 = .ok (.pop, 1) := by decide +kernel
theorem dX6_beside_63 : decode cX6_beside 63 = .ok (.aload_n 0, 1) := by decide +kernel
theorem dX6_beside_64 : decode cX6_beside 64 = .ok (.iload_n 1, 1) := by decide +kernel
theorem dX6_beside_65 : decode cX6_beside 65 = .ok (.iconst 1, 1) := by decide +kernel
theorem dX6_beside_66 : decode cX6_beside 66 = .ok (.invokevirtual 254, 3) := by decide +kernel
theorem dX6_beside_69 : decode cX6_beside 69 = .ok (.iconst 0, 1) := by decide +kernel
theorem dX6_beside_70 : decode cX6_beside 70 = .ok (.istore_n 3, 1) := by decide +kernel
theorem dX6_beside_71 : decode cX6_beside 71 = .ok (.iconst 0, 1) := by decide +kernel
theorem dX6_beside_72 : decode cX6_beside 72 = .ok (.istore 4, 2) := by decide +kernel
theorem dX6_beside_74 : decode cX6_beside 74 = .ok (.iload 4, 2) := by decide +kernel
theorem dX6_beside_76 : decode cX6_beside 76 = .ok (.aload_n 0, 1) := by decide +kernel
theorem dX6_beside_77 : decode cX6_beside 77 = .ok (.getfield 101, 3) := by decide +kernel
theorem dX6_beside_80 : decode cX6_beside 80 = .ok (.if_icmp .ge 36, 3) := by decide +kernel
theorem dX6_beside_83 : decode cX6_beside 83 = .ok (.iload_n 3, 1) := by decide +kernel
theorem dX6_beside_84 : decode cX6_beside 84 = .ok (.aload_n 0, 1) := by decide +kernel
theorem dX6_beside_85 : decode cX6_beside 85 = .ok (.iload 4, 2) := by decide +kernel
theorem dX6_beside_87 : decode cX6_beside 87 = .ok (.invokevirtual 258, 3) := by decide +kernel
theorem dX6_beside_90 : decode cX6_beside 90 = .ok (.aload_n 0, 1) := by decide +kernel
theorem dX6_beside_91 : decode cX6_beside 91 = .ok (.getfield 95, 3) := by decide +kernel
theorem dX6_beside_94 : decode cX6_beside 94 = .ok (.iload 4, 2) := by decide +kernel
theorem dX6_beside_96 : decode cX6_beside 96 = .ok (.iaload, 1) := by decide +kernel
theorem dX6_beside_97 : decode cX6_beside 97 = .ok (.if_icmp .eq 10, 3) := by decide +kernel
theorem dX6_beside_100 : decode cX6_beside 100 = .ok (.iconst 1, 1) := by decide +kernel
theorem dX6_beside_101 : decode cX6_beside 101 = .ok (.iload 4, 2) := by decide +kernel
theorem dX6_beside_103 : decode cX6_beside 103 = .ok (.ishl, 1) := by decide +kernel
theorem dX6_beside_104 : decode cX6_beside 104 = .ok (.goto 4, 3) := by decide +kernel
theorem dX6_beside_107 : decode cX6_beside 107 = .ok (.iconst 0, 1) := by decide +kernel
theorem dX6_beside_108 : decode cX6_beside 108 = .ok (.ior, 1) := by decide +kernel
theorem dX6_beside_109 : decode cX6_beside 109 = .ok (.istore_n 3, 1) := by decide +kernel
theorem dX6_beside_110 : decode cX6_beside 110 = .ok (.iinc 4 1, 3) := by decide +kernel
theorem dX6_beside_113 : decode cX6_beside 113 = .ok (.goto (-39), 3) := by decide +kernel
theorem dX6_beside_116 : decode cX6_beside 116 = .ok (.iload_n 3, 1) := by decide +kernel
theorem dX6_beside_117 : decode cX6_beside 117 = .ok (.ireturn, 1) := by decide +kernel
theorem dX6_passes_0 : decode cX6_passes 0 = .ok (.iconst 0, 1) := by decide +kernel
theorem dX6_passes_1 : decode cX6_passes 1 = .ok (.istore_n 2, 1) := by decide +kernel
theorem dX6_passes_2 : decode cX6_passes 2 = .ok (.iload_n 2, 1) := by decide +kernel
theorem dX6_passes_3 : decode cX6_passes 3 = .ok (.aload_n 1, 1) := by decide +kernel
theorem dX6_passes_4 : decode cX6_passes 4 = .ok (.arraylength, 1) := by decide +kernel
theorem dX6_passes_5 : decode cX6_passes 5 = .ok (.if_icmp .ge 53, 3) := by decide +kernel
theorem dX6_passes_8 : decode cX6_passes 8 = .ok (.aload_n 0, 1) := by decide +kernel
theorem dX6_passes_9 : decode cX6_passes 9 = .ok (.getfield 279, 3) := by decide +kernel
theorem dX6_passes_12 : decode cX6_passes 12 = .ok (.ifCond .eq 18, 3) := by decide +kernel
theorem dX6_passes_15 : decode cX6_passes 15 = .ok (.aload_n 0, 1) := by decide +kernel
theorem dX6_passes_16 : decode cX6_passes 16 = .ok (.getfield 98, 3) := by decide +kernel
theorem dX6_passes_19 : decode cX6_passes 19 = .ok (.aload_n 0, 1) := by decide +kernel
theorem dX6_passes_20 : decode cX6_passes 20 = .ok (.getfield 282, 3) := by decide +kernel
theorem dX6_passes_23 : decode cX6_passes 23 = .ok (.aload_n 1, 1) := by decide +kernel
theorem dX6_passes_24 : decode cX6_passes 24 = .ok (.iload_n 2, 1) := by decide +kernel
theorem dX6_passes_25 : decode cX6_passes 25 = .ok (.iaload, 1) := by decide +kernel
theorem dX6_passes_26 : decode cX6_passes 26 = .ok (.iastore, 1) := by decide +kernel
theorem dX6_passes_27 : decode cX6_passes 27 = .ok (.goto 15, 3) := by decide +kernel
theorem dX6_passes_30 : decode cX6_passes 30 = .ok (.aload_n 1, 1) := by decide +kernel
theorem dX6_passes_31 : decode cX6_passes 31 = .ok (.iload_n 2, 1) := by decide +kernel
theorem dX6_passes_32 : decode cX6_passes 32 = .ok (.aload_n 0, 1) := by decide +kernel
theorem dX6_passes_33 : decode cX6_passes 33 = .ok (.getfield 98, 3) := by decide +kernel
theorem dX6_passes_36 : decode cX6_passes 36 = .ok (.aload_n 0, 1) := by decide +kernel
theorem dX6_passes_37 : decode cX6_passes 37 = .ok (.getfield 282, 3) := by decide +kernel
theorem dX6_passes_40 : decode cX6_passes 40 = .ok (.iaload, 1) := by decide +kernel
theorem dX6_passes_41 : decode cX6_passes 41 = .ok (.iastore, 1) := by decide +kernel
theorem dX6_passes_42 : decode cX6_passes 42 = .ok (.aload_n 0, 1) := by decide +kernel
theorem dX6_passes_43 : decode cX6_passes 43 = .ok (.dup, 1) := by decide +kernel
theorem dX6_passes_44 : decode cX6_passes 44 = .ok (.getfield 282, 3) := by decide +kernel
theorem dX6_passes_47 : decode cX6_passes 47 = .ok (.iconst 1, 1) := by decide +kernel
theorem dX6_passes_48 : decode cX6_passes 48 = .ok (.iadd, 1) := by decide +kernel
theorem dX6_passes_49 : decode cX6_passes 49 = .ok (.putfield 282, 3) := by decide +kernel
theorem dX6_passes_52 : decode cX6_passes 52 = .ok (.iinc 2 1, 3) := by decide +kernel
theorem dX6_passes_55 : decode cX6_passes 55 = .ok (.goto (-53), 3) := by decide +kernel
theorem dX6_passes_58 : decode cX6_passes 58 = .ok (.return_, 1) := by decide +kernel
theorem dX6_passOne_0 : decode cX6_passOne 0 = .ok (.aload_n 0, 1) := by decide +kernel
theorem dX6_passOne_1 : decode cX6_passOne 1 = .ok (.getfield 279, 3) := by decide +kernel
theorem dX6_passOne_4 : decode cX6_passOne 4 = .ok (.ifCond .eq 7, 3) := by decide +kernel
theorem dX6_passOne_7 : decode cX6_passOne 7 = .ok (.iload_n 1, 1) := by decide +kernel
theorem dX6_passOne_8 : decode cX6_passOne 8 = .ok (.goto 12, 3) := by decide +kernel
theorem dX6_passOne_11 : decode cX6_passOne 11 = .ok (.aload_n 0, 1) := by decide +kernel
theorem dX6_passOne_12 : decode cX6_passOne 12 = .ok (.getfield 98, 3) := by decide +kernel
theorem dX6_passOne_15 : decode cX6_passOne 15 = .ok (.aload_n 0, 1) := by decide +kernel
theorem dX6_passOne_16 : decode cX6_passOne 16 = .ok (.getfield 282, 3) := by decide +kernel
theorem dX6_passOne_19 : decode cX6_passOne 19 = .ok (.iaload, 1) := by decide +kernel
theorem dX6_passOne_20 : decode cX6_passOne 20 = .ok (.istore_n 2, 1) := by decide +kernel
theorem dX6_passOne_21 : decode cX6_passOne 21 = .ok (.aload_n 0, 1) := by decide +kernel
theorem dX6_passOne_22 : decode cX6_passOne 22 = .ok (.getfield 279, 3) := by decide +kernel
theorem dX6_passOne_25 : decode cX6_passOne 25 = .ok (.ifCond .eq 13, 3) := by decide +kernel
theorem dX6_passOne_28 : decode cX6_passOne 28 = .ok (.aload_n 0, 1) := by decide +kernel
theorem dX6_passOne_29 : decode cX6_passOne 29 = .ok (.getfield 98, 3) := by decide +kernel
theorem dX6_passOne_32 : decode cX6_passOne 32 = .ok (.aload_n 0, 1) := by decide +kernel
theorem dX6_passOne_33 : decode cX6_passOne 33 = .ok (.getfield 282, 3) := by decide +kernel
theorem dX6_passOne_36 : decode cX6_passOne 36 = .ok (.iload_n 1, 1) := by decide +kernel
theorem dX6_passOne_37 : decode cX6_passOne 37 = .ok (.iastore, 1) := by decide +kernel
theorem dX6_passOne_38 : decode cX6_passOne 38 = .ok (.aload_n 0, 1) := by decide +kernel
theorem dX6_passOne_39 : decode cX6_passOne 39 = .ok (.dup, 1) := by decide +kernel
theorem dX6_passOne_40 : decode cX6_passOne 40 = .ok (.getfield 282, 3) := by decide +kernel
theorem dX6_passOne_43 : decode cX6_passOne 43 = .ok (.iconst 1, 1) := by decide +kernel
theorem dX6_passOne_44 : decode cX6_passOne 44 = .ok (.iadd, 1) := by decide +kernel
theorem dX6_passOne_45 : decode cX6_passOne 45 = .ok (.putfield 282, 3) := by decide +kernel
theorem dX6_passOne_48 : decode cX6_passOne 48 = .ok (.iload_n 2, 1) := by decide +kernel
theorem dX6_passOne_49 : decode cX6_passOne 49 = .ok (.ireturn, 1) := by decide +kernel
theorem dX6_passesAll_0 : decode cX6_passesAll 0 = .ok (.aload_n 0, 1) := by decide +kernel
theorem dX6_passesAll_1 : decode cX6_passesAll 1 = .ok (.iconst 0, 1) := by decide +kernel
theorem dX6_passesAll_2 : decode cX6_passesAll 2 = .ok (.putfield 282, 3) := by decide +kernel
theorem dX6_passesAll_5 : decode cX6_passesAll 5 = .ok (.aload_n 0, 1) := by decide +kernel
theorem dX6_passesAll_6 : decode cX6_passesAll 6 = .ok (.aload_n 0, 1) := by decide +kernel
theorem dX6_passesAll_7 : decode cX6_passesAll 7 = .ok (.getfield 13, 3) := by decide +kernel
theorem dX6_passesAll_10 : decode cX6_passesAll 10 = .ok (.invokevirtual 285, 3) := by decide +kernel
theorem dX6_passesAll_13 : decode cX6_passesAll 13 = .ok (.aload_n 0, 1) := by decide +kernel
theorem dX6_passesAll_14 : decode cX6_passesAll 14 = .ok (.aload_n 0, 1) := by decide +kernel
theorem dX6_passesAll_15 : decode cX6_passesAll 15 = .ok (.getfield 16, 3) := by decide +kernel
theorem dX6_passesAll_18 : decode cX6_passesAll 18 = .ok (.invokevirtual 285, 3) := by decide +kernel
theorem dX6_passesAll_21 : decode cX6_passesAll 21 = .ok (.aload_n 0, 1) := by decide +kernel
theorem dX6_passesAll_22 : decode cX6_passesAll 22 = .ok (.aload_n 0, 1) := by decide +kernel
theorem dX6_passesAll_23 : decode cX6_passesAll 23 = .ok (.getfield 19, 3) := by decide +kernel
theorem dX6_passesAll_26 : decode cX6_passesAll 26 = .ok (.invokevirtual 285, 3) := by decide +kernel
theorem dX6_passesAll_29 : decode cX6_passesAll 29 = .ok (.aload_n 0, 1) := by decide +kernel
theorem dX6_passesAll_30 : decode cX6_passesAll 30 = .ok (.aload_n 0, 1) := by decide +kernel
theorem dX6_passesAll_31 : decode cX6_passesAll 31 = .ok (.getfield 22, 3) := by decide +kernel
theorem dX6_passesAll_34 : decode cX6_passesAll 34 = .ok (.invokevirtual 285, 3) := by decide +kernel
theorem dX6_passesAll_37 : decode cX6_passesAll 37 = .ok (.aload_n 0, 1) := by decide +kernel
theorem dX6_passesAll_38 : decode cX6_passesAll 38 = .ok (.aload_n 0, 1) := by decide +kernel
theorem dX6_passesAll_39 : decode cX6_passesAll 39 = .ok (.getfield 25, 3) := by decide +kernel
theorem dX6_passesAll_42 : decode cX6_passesAll 42 = .ok (.invokevirtual 285, 3) := by decide +kernel
theorem dX6_passesAll_45 : decode cX6_passesAll 45 = .ok (.aload_n 0, 1) := by decide +kernel
theorem dX6_passesAll_46 : decode cX6_passesAll 46 = .ok (.aload_n 0, 1) := by decide +kernel
theorem dX6_passesAll_47 : decode cX6_passesAll 47 = .ok (.getfield 28, 3) := by decide +kernel
theorem dX6_passesAll_50 : decode cX6_passesAll 50 = .ok (.invokevirtual 285, 3) := by decide +kernel
theorem dX6_passesAll_53 : decode cX6_passesAll 53 = .ok (.aload_n 0, 1) := by decide +kernel
theorem dX6_passesAll_54 : decode cX6_passesAll 54 = .ok (.aload_n 0, 1) := by decide +kernel
theorem dX6_passesAll_55 : decode cX6_passesAll 55 = .ok (.getfield 31, 3) := by decide +kernel
theorem dX6_passesAll_58 : decode cX6_passesAll 58 = .ok (.invokevirtual 285, 3) := by decide +kernel
theorem dX6_passesAll_61 : decode cX6_passesAll 61 = .ok (.aload_n 0, 1) := by decide +kernel
theorem dX6_passesAll_62 : decode cX6_passesAll 62 = .ok (.aload_n 0, 1) := by decide +kernel
theorem dX6_passesAll_63 : decode cX6_passesAll 63 = .ok (.getfield 34, 3) := by decide +kernel
theorem dX6_passesAll_66 : decode cX6_passesAll 66 = .ok (.invokevirtual 285, 3) := by decide +kernel
theorem dX6_passesAll_69 : decode cX6_passesAll 69 = .ok (.aload_n 0, 1) := by decide +kernel
theorem dX6_passesAll_70 : decode cX6_passesAll 70 = .ok (.aload_n 0, 1) := by decide +kernel
theorem dX6_passesAll_71 : decode cX6_passesAll 71 = .ok (.getfield 37, 3) := by decide +kernel
theorem dX6_passesAll_74 : decode cX6_passesAll 74 = .ok (.invokevirtual 285, 3) := by decide +kernel
theorem dX6_passesAll_77 : decode cX6_passesAll 77 = .ok (.aload_n 0, 1) := by decide +kernel
theorem dX6_passesAll_78 : decode cX6_passesAll 78 = .ok (.aload_n 0, 1) := by decide +kernel
theorem dX6_passesAll_79 : decode cX6_passesAll 79 = .ok (.getfield 40, 3) := by decide +kernel
theorem dX6_passesAll_82 : decode cX6_passesAll 82 = .ok (.invokevirtual 285, 3) := by decide +kernel
theorem dX6_passesAll_85 : decode cX6_passesAll 85 = .ok (.aload_n 0, 1) := by decide +kernel
theorem dX6_passesAll_86 : decode cX6_passesAll 86 = .ok (.aload_n 0, 1) := by decide +kernel
theorem dX6_passesAll_87 : decode cX6_passesAll 87 = .ok (.getfield 68, 3) := by decide +kernel
theorem dX6_passesAll_90 : decode cX6_passesAll 90 = .ok (.invokevirtual 285, 3) := by decide +kernel
theorem dX6_passesAll_93 : decode cX6_passesAll 93 = .ok (.aload_n 0, 1) := by decide +kernel
theorem dX6_passesAll_94 : decode cX6_passesAll 94 = .ok (.aload_n 0, 1) := by decide +kernel
theorem dX6_passesAll_95 : decode cX6_passesAll 95 = .ok (.getfield 71, 3) := by decide +kernel
theorem dX6_passesAll_98 : decode cX6_passesAll 98 = .ok (.invokevirtual 285, 3) := by decide +kernel
theorem dX6_passesAll_101 : decode cX6_passesAll 101 = .ok (.aload_n 0, 1) := by decide +kernel
theorem dX6_passesAll_102 : decode cX6_passesAll 102 = .ok (.aload_n 0, 1) := by decide +kernel
theorem dX6_passesAll_103 : decode cX6_passesAll 103 = .ok (.getfield 74, 3) := by decide +kernel
theorem dX6_passesAll_106 : decode cX6_passesAll 106 = .ok (.invokevirtual 285, 3) := by decide +kernel
theorem dX6_passesAll_109 : decode cX6_passesAll 109 = .ok (.aload_n 0, 1) := by decide +kernel
theorem dX6_passesAll_110 : decode cX6_passesAll 110 = .ok (.aload_n 0, 1) := by decide +kernel
theorem dX6_passesAll_111 : decode cX6_passesAll 111 = .ok (.getfield 83, 3) := by decide +kernel
theorem dX6_passesAll_114 : decode cX6_passesAll 114 = .ok (.invokevirtual 285, 3) := by decide +kernel
theorem dX6_passesAll_117 : decode cX6_passesAll 117 = .ok (.aload_n 0, 1) := by decide +kernel
theorem dX6_passesAll_118 : decode cX6_passesAll 118 = .ok (.aload_n 0, 1) := by decide +kernel
theorem dX6_passesAll_119 : decode cX6_passesAll 119 = .ok (.getfield 86, 3) := by decide +kernel
theorem dX6_passesAll_122 : decode cX6_passesAll 122 = .ok (.invokevirtual 285, 3) := by decide +kernel
theorem dX6_passesAll_125 : decode cX6_passesAll 125 = .ok (.aload_n 0, 1) := by decide +kernel
theorem dX6_passesAll_126 : decode cX6_passesAll 126 = .ok (.aload_n 0, 1) := by decide +kernel
theorem dX6_passesAll_127 : decode cX6_passesAll 127 = .ok (.getfield 89, 3) := by decide +kernel
theorem dX6_passesAll_130 : decode cX6_passesAll 130 = .ok (.invokevirtual 285, 3) := by decide +kernel
theorem dX6_passesAll_133 : decode cX6_passesAll 133 = .ok (.aload_n 0, 1) := by decide +kernel
theorem dX6_passesAll_134 : decode cX6_passesAll 134 = .ok (.aload_n 0, 1) := by decide +kernel
theorem dX6_passesAll_135 : decode cX6_passesAll 135 = .ok (.aload_n 0, 1) := by decide +kernel
theorem dX6_passesAll_136 : decode cX6_passesAll 136 = .ok (.getfield 101, 3) := by decide +kernel
theorem dX6_passesAll_139 : decode cX6_passesAll 139 = .ok (.invokevirtual 289, 3) := by decide +kernel
theorem dX6_passesAll_142 : decode cX6_passesAll 142 = .ok (.putfield 101, 3) := by decide +kernel
theorem dX6_passesAll_145 : decode cX6_passesAll 145 = .ok (.aload_n 0, 1) := by decide +kernel
theorem dX6_passesAll_146 : decode cX6_passesAll 146 = .ok (.aload_n 0, 1) := by decide +kernel
theorem dX6_passesAll_147 : decode cX6_passesAll 147 = .ok (.aload_n 0, 1) := by decide +kernel
theorem dX6_passesAll_148 : decode cX6_passesAll 148 = .ok (.getfield 125, 3) := by decide +kernel
theorem dX6_passesAll_151 : decode cX6_passesAll 151 = .ok (.invokevirtual 289, 3) := by decide +kernel
theorem dX6_passesAll_154 : decode cX6_passesAll 154 = .ok (.putfield 125, 3) := by decide +kernel
theorem dX6_passesAll_157 : decode cX6_passesAll 157 = .ok (.aload_n 0, 1) := by decide +kernel
theorem dX6_passesAll_158 : decode cX6_passesAll 158 = .ok (.aload_n 0, 1) := by decide +kernel
theorem dX6_passesAll_159 : decode cX6_passesAll 159 = .ok (.aload_n 0, 1) := by decide +kernel
theorem dX6_passesAll_160 : decode cX6_passesAll 160 = .ok (.getfield 226, 3) := by decide +kernel
theorem dX6_passesAll_163 : decode cX6_passesAll 163 = .ok (.invokevirtual 289, 3) := by decide +kernel
theorem dX6_passesAll_166 : decode cX6_passesAll 166 = .ok (.putfield 226, 3) := by decide +kernel
theorem dX6_passesAll_169 : decode cX6_passesAll 169 = .ok (.aload_n 0, 1) := by decide +kernel
theorem dX6_passesAll_170 : decode cX6_passesAll 170 = .ok (.aload_n 0, 1) := by decide +kernel
theorem dX6_passesAll_171 : decode cX6_passesAll 171 = .ok (.aload_n 0, 1) := by decide +kernel
theorem dX6_passesAll_172 : decode cX6_passesAll 172 = .ok (.getfield 270, 3) := by decide +kernel
theorem dX6_passesAll_175 : decode cX6_passesAll 175 = .ok (.invokevirtual 289, 3) := by decide +kernel
theorem dX6_passesAll_178 : decode cX6_passesAll 178 = .ok (.putfield 270, 3) := by decide +kernel
theorem dX6_passesAll_181 : decode cX6_passesAll 181 = .ok (.return_, 1) := by decide +kernel
theorem dX6_image_0 : decode cX6_image 0 = .ok (.aload_n 0, 1) := by decide +kernel
theorem dX6_image_1 : decode cX6_image 1 = .ok (.iconst 1, 1) := by decide +kernel
theorem dX6_image_2 : decode cX6_image 2 = .ok (.putfield 279, 3) := by decide +kernel
theorem dX6_image_5 : decode cX6_image 5 = .ok (.aload_n 0, 1) := by decide +kernel
theorem dX6_image_6 : decode cX6_image 6 = .ok (.iconst 1, 1) := by decide +kernel
theorem dX6_image_7 : decode cX6_image 7 = .ok (.putfield 292, 3) := by decide +kernel
theorem dX6_image_10 : decode cX6_image 10 = .ok (.aload_n 0, 1) := by decide +kernel
theorem dX6_image_11 : decode cX6_image 11 = .ok (.invokevirtual 295, 3) := by decide +kernel
theorem dX6_image_14 : decode cX6_image 14 = .ok (.aload_n 0, 1) := by decide +kernel
theorem dX6_image_15 : decode cX6_image 15 = .ok (.getfield 125, 3) := by decide +kernel
theorem dX6_image_18 : decode cX6_image 18 = .ok (.ireturn, 1) := by decide +kernel
theorem dX6_restore_0 : decode cX6_restore 0 = .ok (.aload_n 0, 1) := by decide +kernel
theorem dX6_restore_1 : decode cX6_restore 1 = .ok (.getfield 292, 3) := by decide +kernel
theorem dX6_restore_4 : decode cX6_restore 4 = .ok (.ifCond .ne 10, 3) := by decide +kernel
theorem dX6_restore_7 : decode cX6_restore 7 = .ok (.aload_n 0, 1) := by decide +kernel
theorem dX6_restore_8 : decode cX6_restore 8 = .ok (.bipush (-3), 2) := by decide +kernel
theorem dX6_restore_10 : decode cX6_restore 10 = .ok (.invokevirtual 109, 3) := by decide +kernel
theorem dX6_restore_13 : decode cX6_restore 13 = .ok (.ireturn, 1) := by decide +kernel
theorem dX6_restore_14 : decode cX6_restore 14 = .ok (.aload_n 0, 1) := by decide +kernel
theorem dX6_restore_15 : decode cX6_restore 15 = .ok (.iconst 0, 1) := by decide +kernel
theorem dX6_restore_16 : decode cX6_restore 16 = .ok (.putfield 279, 3) := by decide +kernel
theorem dX6_restore_19 : decode cX6_restore 19 = .ok (.aload_n 0, 1) := by decide +kernel
theorem dX6_restore_20 : decode cX6_restore 20 = .ok (.invokevirtual 295, 3) := by decide +kernel
theorem dX6_restore_23 : decode cX6_restore 23 = .ok (.aload_n 0, 1) := by decide +kernel
theorem dX6_restore_24 : decode cX6_restore 24 = .ok (.getfield 125, 3) := by decide +kernel
theorem dX6_restore_27 : decode cX6_restore 27 = .ok (.ireturn, 1) := by decide +kernel
theorem dX6_count_0 : decode cX6_count 0 = .ok (.iload_n 1, 1) := by decide +kernel
theorem dX6_count_1 : decode cX6_count 1 = .ok (.bipush 11, 2) := by decide +kernel
theorem dX6_count_3 : decode cX6_count 3 = .ok (.bipush 16, 2) := by decide +kernel
theorem dX6_count_5 : decode cX6_count 5 = .ok (.invokestatic 105, 3) := by decide +kernel
theorem dX6_count_8 : decode cX6_count 8 = .ok (.ifCond .eq 13, 3) := by decide +kernel
theorem dX6_count_11 : decode cX6_count 11 = .ok (.aload_n 0, 1) := by decide +kernel
theorem dX6_count_12 : decode cX6_count 12 = .ok (.getfield 7, 3) := by decide +kernel
theorem dX6_count_15 : decode cX6_count 15 = .ok (.iload_n 1, 1) := by decide +kernel
theorem dX6_count_16 : decode cX6_count 16 = .ok (.bipush 10, 2) := by decide +kernel
theorem dX6_count_18 : decode cX6_count 18 = .ok (.isub, 1) := by decide +kernel
theorem dX6_count_19 : decode cX6_count 19 = .ok (.iaload, 1) := by decide +kernel
theorem dX6_count_20 : decode cX6_count 20 = .ok (.ireturn, 1) := by decide +kernel
theorem dX6_count_21 : decode cX6_count 21 = .ok (.iload_n 1, 1) := by decide +kernel
theorem dX6_count_22 : decode cX6_count 22 = .ok (.tableswitch 71 0 5 #[38, 43, 48, 56, 61, 66], 38) := by decide +kernel
theorem dX6_count_60 : decode cX6_count 60 = .ok (.aload_n 0, 1) := by decide +kernel
theorem dX6_count_61 : decode cX6_count 61 = .ok (.getfield 101, 3) := by decide +kernel
theorem dX6_count_64 : decode cX6_count 64 = .ok (.ireturn, 1) := by decide +kernel
theorem dX6_count_65 : decode cX6_count 65 = .ok (.aload_n 0, 1) := by decide +kernel
theorem dX6_count_66 : decode cX6_count 66 = .ok (.getfield 125, 3) := by decide +kernel
theorem dX6_count_69 : decode cX6_count 69 = .ok (.ireturn, 1) := by decide +kernel
theorem dX6_count_70 : decode cX6_count 70 = .ok (.aload_n 0, 1) := by decide +kernel
theorem dX6_count_71 : decode cX6_count 71 = .ok (.invokevirtual 229, 3) := by decide +kernel
theorem dX6_count_74 : decode cX6_count 74 = .ok (.invokestatic 238, 3) := by decide +kernel
theorem dX6_count_77 : decode cX6_count 77 = .ok (.ireturn, 1) := by decide +kernel
theorem dX6_count_78 : decode cX6_count 78 = .ok (.aload_n 0, 1) := by decide +kernel
theorem dX6_count_79 : decode cX6_count 79 = .ok (.getfield 226, 3) := by decide +kernel
theorem dX6_count_82 : decode cX6_count 82 = .ok (.ireturn, 1) := by decide +kernel
theorem dX6_count_83 : decode cX6_count 83 = .ok (.aload_n 0, 1) := by decide +kernel
theorem dX6_count_84 : decode cX6_count 84 = .ok (.getfield 270, 3) := by decide +kernel
theorem dX6_count_87 : decode cX6_count 87 = .ok (.ireturn, 1) := by decide +kernel
theorem dX6_count_88 : decode cX6_count 88 = .ok (.aload_n 0, 1) := by decide +kernel
theorem dX6_count_89 : decode cX6_count 89 = .ok (.getfield 139, 3) := by decide +kernel
theorem dX6_count_92 : decode cX6_count 92 = .ok (.ireturn, 1) := by decide +kernel
theorem dX6_count_93 : decode cX6_count 93 = .ok (.bipush (-9), 2) := by decide +kernel
theorem dX6_count_95 : decode cX6_count 95 = .ok (.ireturn, 1) := by decide +kernel
theorem dJ6_bitCount_0f7a4_0 : decode cJ6_bitCount_0f7a4 0 = .ok (.iload_n 0, 1) := by decide +kernel
theorem dJ6_bitCount_0f7a4_1 : decode cJ6_bitCount_0f7a4 1 = .ok (.iload_n 0, 1) := by decide +kernel
theorem dJ6_bitCount_0f7a4_2 : decode cJ6_bitCount_0f7a4 2 = .ok (.iconst 1, 1) := by decide +kernel
theorem dJ6_bitCount_0f7a4_3 : decode cJ6_bitCount_0f7a4 3 = .ok (.iushr, 1) := by decide +kernel
theorem dJ6_bitCount_0f7a4_4 : decode cJ6_bitCount_0f7a4 4 = .ok (.ldc_w 265, 3) := by decide +kernel
theorem dJ6_bitCount_0f7a4_7 : decode cJ6_bitCount_0f7a4 7 = .ok (.iand, 1) := by decide +kernel
theorem dJ6_bitCount_0f7a4_8 : decode cJ6_bitCount_0f7a4 8 = .ok (.isub, 1) := by decide +kernel
theorem dJ6_bitCount_0f7a4_9 : decode cJ6_bitCount_0f7a4 9 = .ok (.istore_n 0, 1) := by decide +kernel
theorem dJ6_bitCount_0f7a4_10 : decode cJ6_bitCount_0f7a4 10 = .ok (.iload_n 0, 1) := by decide +kernel
theorem dJ6_bitCount_0f7a4_11 : decode cJ6_bitCount_0f7a4 11 = .ok (.ldc_w 266, 3) := by decide +kernel
theorem dJ6_bitCount_0f7a4_14 : decode cJ6_bitCount_0f7a4 14 = .ok (.iand, 1) := by decide +kernel
theorem dJ6_bitCount_0f7a4_15 : decode cJ6_bitCount_0f7a4 15 = .ok (.iload_n 0, 1) := by decide +kernel
theorem dJ6_bitCount_0f7a4_16 : decode cJ6_bitCount_0f7a4 16 = .ok (.iconst 2, 1) := by decide +kernel
theorem dJ6_bitCount_0f7a4_17 : decode cJ6_bitCount_0f7a4 17 = .ok (.iushr, 1) := by decide +kernel
theorem dJ6_bitCount_0f7a4_18 : decode cJ6_bitCount_0f7a4 18 = .ok (.ldc_w 266, 3) := by decide +kernel
theorem dJ6_bitCount_0f7a4_21 : decode cJ6_bitCount_0f7a4 21 = .ok (.iand, 1) := by decide +kernel
theorem dJ6_bitCount_0f7a4_22 : decode cJ6_bitCount_0f7a4 22 = .ok (.iadd, 1) := by decide +kernel
theorem dJ6_bitCount_0f7a4_23 : decode cJ6_bitCount_0f7a4 23 = .ok (.istore_n 0, 1) := by decide +kernel
theorem dJ6_bitCount_0f7a4_24 : decode cJ6_bitCount_0f7a4 24 = .ok (.iload_n 0, 1) := by decide +kernel
theorem dJ6_bitCount_0f7a4_25 : decode cJ6_bitCount_0f7a4 25 = .ok (.iload_n 0, 1) := by decide +kernel
theorem dJ6_bitCount_0f7a4_26 : decode cJ6_bitCount_0f7a4 26 = .ok (.iconst 4, 1) := by decide +kernel
theorem dJ6_bitCount_0f7a4_27 : decode cJ6_bitCount_0f7a4 27 = .ok (.iushr, 1) := by decide +kernel
theorem dJ6_bitCount_0f7a4_28 : decode cJ6_bitCount_0f7a4 28 = .ok (.iadd, 1) := by decide +kernel
theorem dJ6_bitCount_0f7a4_29 : decode cJ6_bitCount_0f7a4 29 = .ok (.ldc_w 267, 3) := by decide +kernel
theorem dJ6_bitCount_0f7a4_32 : decode cJ6_bitCount_0f7a4 32 = .ok (.iand, 1) := by decide +kernel
theorem dJ6_bitCount_0f7a4_33 : decode cJ6_bitCount_0f7a4 33 = .ok (.istore_n 0, 1) := by decide +kernel
theorem dJ6_bitCount_0f7a4_34 : decode cJ6_bitCount_0f7a4 34 = .ok (.iload_n 0, 1) := by decide +kernel
theorem dJ6_bitCount_0f7a4_35 : decode cJ6_bitCount_0f7a4 35 = .ok (.iload_n 0, 1) := by decide +kernel
theorem dJ6_bitCount_0f7a4_36 : decode cJ6_bitCount_0f7a4 36 = .ok (.bipush 8, 2) := by decide +kernel
theorem dJ6_bitCount_0f7a4_38 : decode cJ6_bitCount_0f7a4 38 = .ok (.iushr, 1) := by decide +kernel
theorem dJ6_bitCount_0f7a4_39 : decode cJ6_bitCount_0f7a4 39 = .ok (.iadd, 1) := by decide +kernel
theorem dJ6_bitCount_0f7a4_40 : decode cJ6_bitCount_0f7a4 40 = .ok (.istore_n 0, 1) := by decide +kernel
theorem dJ6_bitCount_0f7a4_41 : decode cJ6_bitCount_0f7a4 41 = .ok (.iload_n 0, 1) := by decide +kernel
theorem dJ6_bitCount_0f7a4_42 : decode cJ6_bitCount_0f7a4 42 = .ok (.iload_n 0, 1) := by decide +kernel
theorem dJ6_bitCount_0f7a4_43 : decode cJ6_bitCount_0f7a4 43 = .ok (.bipush 16, 2) := by decide +kernel
theorem dJ6_bitCount_0f7a4_45 : decode cJ6_bitCount_0f7a4 45 = .ok (.iushr, 1) := by decide +kernel
theorem dJ6_bitCount_0f7a4_46 : decode cJ6_bitCount_0f7a4 46 = .ok (.iadd, 1) := by decide +kernel
theorem dJ6_bitCount_0f7a4_47 : decode cJ6_bitCount_0f7a4 47 = .ok (.istore_n 0, 1) := by decide +kernel
theorem dJ6_bitCount_0f7a4_48 : decode cJ6_bitCount_0f7a4 48 = .ok (.iload_n 0, 1) := by decide +kernel
theorem dJ6_bitCount_0f7a4_49 : decode cJ6_bitCount_0f7a4 49 = .ok (.bipush 63, 2) := by decide +kernel
theorem dJ6_bitCount_0f7a4_51 : decode cJ6_bitCount_0f7a4 51 = .ok (.iand, 1) := by decide +kernel
theorem dJ6_bitCount_0f7a4_52 : decode cJ6_bitCount_0f7a4 52 = .ok (.ireturn, 1) := by decide +kernel
theorem dJ13_bitCount_95d88_0 : decode cJ13_bitCount_95d88 0 = .ok (.lload_n 0, 1) := by decide +kernel
theorem dJ13_bitCount_95d88_1 : decode cJ13_bitCount_95d88 1 = .ok (.lload_n 0, 1) := by decide +kernel
theorem dJ13_bitCount_95d88_2 : decode cJ13_bitCount_95d88 2 = .ok (.iconst 1, 1) := by decide +kernel
theorem dJ13_bitCount_95d88_3 : decode cJ13_bitCount_95d88 3 = .ok (.lushr, 1) := by decide +kernel
theorem dJ13_bitCount_95d88_4 : decode cJ13_bitCount_95d88 4 = .ok (.ldc2_w 314, 3) := by decide +kernel
theorem dJ13_bitCount_95d88_7 : decode cJ13_bitCount_95d88 7 = .ok (.land, 1) := by decide +kernel
theorem dJ13_bitCount_95d88_8 : decode cJ13_bitCount_95d88 8 = .ok (.lsub, 1) := by decide +kernel
theorem dJ13_bitCount_95d88_9 : decode cJ13_bitCount_95d88 9 = .ok (.lstore_n 0, 1) := by decide +kernel
theorem dJ13_bitCount_95d88_10 : decode cJ13_bitCount_95d88 10 = .ok (.lload_n 0, 1) := by decide +kernel
theorem dJ13_bitCount_95d88_11 : decode cJ13_bitCount_95d88 11 = .ok (.ldc2_w 316, 3) := by decide +kernel
theorem dJ13_bitCount_95d88_14 : decode cJ13_bitCount_95d88 14 = .ok (.land, 1) := by decide +kernel
theorem dJ13_bitCount_95d88_15 : decode cJ13_bitCount_95d88 15 = .ok (.lload_n 0, 1) := by decide +kernel
theorem dJ13_bitCount_95d88_16 : decode cJ13_bitCount_95d88 16 = .ok (.iconst 2, 1) := by decide +kernel
theorem dJ13_bitCount_95d88_17 : decode cJ13_bitCount_95d88 17 = .ok (.lushr, 1) := by decide +kernel
theorem dJ13_bitCount_95d88_18 : decode cJ13_bitCount_95d88 18 = .ok (.ldc2_w 316, 3) := by decide +kernel
theorem dJ13_bitCount_95d88_21 : decode cJ13_bitCount_95d88 21 = .ok (.land, 1) := by decide +kernel
theorem dJ13_bitCount_95d88_22 : decode cJ13_bitCount_95d88 22 = .ok (.ladd, 1) := by decide +kernel
theorem dJ13_bitCount_95d88_23 : decode cJ13_bitCount_95d88 23 = .ok (.lstore_n 0, 1) := by decide +kernel
theorem dJ13_bitCount_95d88_24 : decode cJ13_bitCount_95d88 24 = .ok (.lload_n 0, 1) := by decide +kernel
theorem dJ13_bitCount_95d88_25 : decode cJ13_bitCount_95d88 25 = .ok (.lload_n 0, 1) := by decide +kernel
theorem dJ13_bitCount_95d88_26 : decode cJ13_bitCount_95d88 26 = .ok (.iconst 4, 1) := by decide +kernel
theorem dJ13_bitCount_95d88_27 : decode cJ13_bitCount_95d88 27 = .ok (.lushr, 1) := by decide +kernel
theorem dJ13_bitCount_95d88_28 : decode cJ13_bitCount_95d88 28 = .ok (.ladd, 1) := by decide +kernel
theorem dJ13_bitCount_95d88_29 : decode cJ13_bitCount_95d88 29 = .ok (.ldc2_w 318, 3) := by decide +kernel
theorem dJ13_bitCount_95d88_32 : decode cJ13_bitCount_95d88 32 = .ok (.land, 1) := by decide +kernel
theorem dJ13_bitCount_95d88_33 : decode cJ13_bitCount_95d88 33 = .ok (.lstore_n 0, 1) := by decide +kernel
theorem dJ13_bitCount_95d88_34 : decode cJ13_bitCount_95d88 34 = .ok (.lload_n 0, 1) := by decide +kernel
theorem dJ13_bitCount_95d88_35 : decode cJ13_bitCount_95d88 35 = .ok (.lload_n 0, 1) := by decide +kernel
theorem dJ13_bitCount_95d88_36 : decode cJ13_bitCount_95d88 36 = .ok (.bipush 8, 2) := by decide +kernel
theorem dJ13_bitCount_95d88_38 : decode cJ13_bitCount_95d88 38 = .ok (.lushr, 1) := by decide +kernel
theorem dJ13_bitCount_95d88_39 : decode cJ13_bitCount_95d88 39 = .ok (.ladd, 1) := by decide +kernel
theorem dJ13_bitCount_95d88_40 : decode cJ13_bitCount_95d88 40 = .ok (.lstore_n 0, 1) := by decide +kernel
theorem dJ13_bitCount_95d88_41 : decode cJ13_bitCount_95d88 41 = .ok (.lload_n 0, 1) := by decide +kernel
theorem dJ13_bitCount_95d88_42 : decode cJ13_bitCount_95d88 42 = .ok (.lload_n 0, 1) := by decide +kernel
theorem dJ13_bitCount_95d88_43 : decode cJ13_bitCount_95d88 43 = .ok (.bipush 16, 2) := by decide +kernel
theorem dJ13_bitCount_95d88_45 : decode cJ13_bitCount_95d88 45 = .ok (.lushr, 1) := by decide +kernel
theorem dJ13_bitCount_95d88_46 : decode cJ13_bitCount_95d88 46 = .ok (.ladd, 1) := by decide +kernel
theorem dJ13_bitCount_95d88_47 : decode cJ13_bitCount_95d88 47 = .ok (.lstore_n 0, 1) := by decide +kernel
theorem dJ13_bitCount_95d88_48 : decode cJ13_bitCount_95d88 48 = .ok (.lload_n 0, 1) := by decide +kernel
theorem dJ13_bitCount_95d88_49 : decode cJ13_bitCount_95d88 49 = .ok (.lload_n 0, 1) := by decide +kernel
theorem dJ13_bitCount_95d88_50 : decode cJ13_bitCount_95d88 50 = .ok (.bipush 32, 2) := by decide +kernel
theorem dJ13_bitCount_95d88_52 : decode cJ13_bitCount_95d88 52 = .ok (.lushr, 1) := by decide +kernel
theorem dJ13_bitCount_95d88_53 : decode cJ13_bitCount_95d88 53 = .ok (.ladd, 1) := by decide +kernel
theorem dJ13_bitCount_95d88_54 : decode cJ13_bitCount_95d88 54 = .ok (.lstore_n 0, 1) := by decide +kernel
theorem dJ13_bitCount_95d88_55 : decode cJ13_bitCount_95d88 55 = .ok (.lload_n 0, 1) := by decide +kernel
theorem dJ13_bitCount_95d88_56 : decode cJ13_bitCount_95d88 56 = .ok (.l2i, 1) := by decide +kernel
theorem dJ13_bitCount_95d88_57 : decode cJ13_bitCount_95d88 57 = .ok (.bipush 127, 2) := by decide +kernel
theorem dJ13_bitCount_95d88_59 : decode cJ13_bitCount_95d88 59 = .ok (.iand, 1) := by decide +kernel
theorem dJ13_bitCount_95d88_60 : decode cJ13_bitCount_95d88 60 = .ok (.ireturn, 1) := by decide +kernel
theorem dJ9_max_7cf53_0 : decode cJ9_max_7cf53 0 = .ok (.iload_n 0, 1) := by decide +kernel
theorem dJ9_max_7cf53_1 : decode cJ9_max_7cf53 1 = .ok (.iload_n 1, 1) := by decide +kernel
theorem dJ9_max_7cf53_2 : decode cJ9_max_7cf53 2 = .ok (.if_icmp .lt 7, 3) := by decide +kernel
theorem dJ9_max_7cf53_5 : decode cJ9_max_7cf53 5 = .ok (.iload_n 0, 1) := by decide +kernel
theorem dJ9_max_7cf53_6 : decode cJ9_max_7cf53 6 = .ok (.goto 4, 3) := by decide +kernel
theorem dJ9_max_7cf53_9 : decode cJ9_max_7cf53 9 = .ok (.iload_n 1, 1) := by decide +kernel
theorem dJ9_max_7cf53_10 : decode cJ9_max_7cf53 10 = .ok (.ireturn, 1) := by decide +kernel
theorem dJ9_min_7cf53_0 : decode cJ9_min_7cf53 0 = .ok (.iload_n 0, 1) := by decide +kernel
theorem dJ9_min_7cf53_1 : decode cJ9_min_7cf53 1 = .ok (.iload_n 1, 1) := by decide +kernel
theorem dJ9_min_7cf53_2 : decode cJ9_min_7cf53 2 = .ok (.if_icmp .gt 7, 3) := by decide +kernel
theorem dJ9_min_7cf53_5 : decode cJ9_min_7cf53 5 = .ok (.iload_n 0, 1) := by decide +kernel
theorem dJ9_min_7cf53_6 : decode cJ9_min_7cf53 6 = .ok (.goto 4, 3) := by decide +kernel
theorem dJ9_min_7cf53_9 : decode cJ9_min_7cf53 9 = .ok (.iload_n 1, 1) := by decide +kernel
theorem dJ9_min_7cf53_10 : decode cJ9_min_7cf53 10 = .ok (.ireturn, 1) := by decide +kernel
theorem dJ7_fill_d0a16_0 : decode cJ7_fill_d0a16 0 = .ok (.iconst 0, 1) := by decide +kernel
theorem dJ7_fill_d0a16_1 : decode cJ7_fill_d0a16 1 = .ok (.istore_n 3, 1) := by decide +kernel
theorem dJ7_fill_d0a16_2 : decode cJ7_fill_d0a16 2 = .ok (.aload_n 0, 1) := by decide +kernel
theorem dJ7_fill_d0a16_3 : decode cJ7_fill_d0a16 3 = .ok (.arraylength, 1) := by decide +kernel
theorem dJ7_fill_d0a16_4 : decode cJ7_fill_d0a16 4 = .ok (.istore 4, 2) := by decide +kernel
theorem dJ7_fill_d0a16_6 : decode cJ7_fill_d0a16 6 = .ok (.iload_n 3, 1) := by decide +kernel
theorem dJ7_fill_d0a16_7 : decode cJ7_fill_d0a16 7 = .ok (.iload 4, 2) := by decide +kernel
theorem dJ7_fill_d0a16_9 : decode cJ7_fill_d0a16 9 = .ok (.if_icmp .ge 13, 3) := by decide +kernel
theorem dJ7_fill_d0a16_12 : decode cJ7_fill_d0a16 12 = .ok (.aload_n 0, 1) := by decide +kernel
theorem dJ7_fill_d0a16_13 : decode cJ7_fill_d0a16 13 = .ok (.iload_n 3, 1) := by decide +kernel
theorem dJ7_fill_d0a16_14 : decode cJ7_fill_d0a16 14 = .ok (.lload_n 1, 1) := by decide +kernel
theorem dJ7_fill_d0a16_15 : decode cJ7_fill_d0a16 15 = .ok (.lastore, 1) := by decide +kernel
theorem dJ7_fill_d0a16_16 : decode cJ7_fill_d0a16 16 = .ok (.iinc 3 1, 3) := by decide +kernel
theorem dJ7_fill_d0a16_19 : decode cJ7_fill_d0a16 19 = .ok (.goto (-13), 3) := by decide +kernel
theorem dJ7_fill_d0a16_22 : decode cJ7_fill_d0a16 22 = .ok (.return_, 1) := by decide +kernel
theorem dJ7_fill_53178_0 : decode cJ7_fill_53178 0 = .ok (.iconst 0, 1) := by decide +kernel
theorem dJ7_fill_53178_1 : decode cJ7_fill_53178 1 = .ok (.istore_n 2, 1) := by decide +kernel
theorem dJ7_fill_53178_2 : decode cJ7_fill_53178 2 = .ok (.aload_n 0, 1) := by decide +kernel
theorem dJ7_fill_53178_3 : decode cJ7_fill_53178 3 = .ok (.arraylength, 1) := by decide +kernel
theorem dJ7_fill_53178_4 : decode cJ7_fill_53178 4 = .ok (.istore_n 3, 1) := by decide +kernel
theorem dJ7_fill_53178_5 : decode cJ7_fill_53178 5 = .ok (.iload_n 2, 1) := by decide +kernel
theorem dJ7_fill_53178_6 : decode cJ7_fill_53178 6 = .ok (.iload_n 3, 1) := by decide +kernel
theorem dJ7_fill_53178_7 : decode cJ7_fill_53178 7 = .ok (.if_icmp .ge 13, 3) := by decide +kernel
theorem dJ7_fill_53178_10 : decode cJ7_fill_53178 10 = .ok (.aload_n 0, 1) := by decide +kernel
theorem dJ7_fill_53178_11 : decode cJ7_fill_53178 11 = .ok (.iload_n 2, 1) := by decide +kernel
theorem dJ7_fill_53178_12 : decode cJ7_fill_53178 12 = .ok (.iload_n 1, 1) := by decide +kernel
theorem dJ7_fill_53178_13 : decode cJ7_fill_53178 13 = .ok (.iastore, 1) := by decide +kernel
theorem dJ7_fill_53178_14 : decode cJ7_fill_53178 14 = .ok (.iinc 2 1, 3) := by decide +kernel
theorem dJ7_fill_53178_17 : decode cJ7_fill_53178 17 = .ok (.goto (-12), 3) := by decide +kernel
theorem dJ7_fill_53178_20 : decode cJ7_fill_53178 20 = .ok (.return_, 1) := by decide +kernel
theorem dL_law_0 : decode cL_law 0 = .ok (.new 7, 3) := by decide +kernel
theorem dL_law_3 : decode cL_law 3 = .ok (.dup, 1) := by decide +kernel
theorem dL_law_4 : decode cL_law 4 = .ok (.invokespecial 9, 3) := by decide +kernel
theorem dL_law_7 : decode cL_law 7 = .ok (.astore_n 1, 1) := by decide +kernel
theorem dL_law_8 : decode cL_law 8 = .ok (.new 10, 3) := by decide +kernel
theorem dL_law_11 : decode cL_law 11 = .ok (.dup, 1) := by decide +kernel
theorem dL_law_12 : decode cL_law 12 = .ok (.invokespecial 12, 3) := by decide +kernel
theorem dL_law_15 : decode cL_law 15 = .ok (.astore_n 2, 1) := by decide +kernel
theorem dL_law_16 : decode cL_law 16 = .ok (.iconst 0, 1) := by decide +kernel
theorem dL_law_17 : decode cL_law 17 = .ok (.istore_n 3, 1) := by decide +kernel
theorem dL_law_18 : decode cL_law 18 = .ok (.iload_n 3, 1) := by decide +kernel
theorem dL_law_19 : decode cL_law 19 = .ok (.aload_n 0, 1) := by decide +kernel
theorem dL_law_20 : decode cL_law 20 = .ok (.arraylength, 1) := by decide +kernel
theorem dL_law_21 : decode cL_law 21 = .ok (.bipush 6, 2) := by decide +kernel
theorem dL_law_23 : decode cL_law 23 = .ok (.isub, 1) := by decide +kernel
theorem dL_law_24 : decode cL_law 24 = .ok (.if_icmp .gt 1033, 3) := by decide +kernel
theorem dL_law_27 : decode cL_law 27 = .ok (.aload_n 0, 1) := by decide +kernel
theorem dL_law_28 : decode cL_law 28 = .ok (.iload_n 3, 1) := by decide +kernel
theorem dL_law_29 : decode cL_law 29 = .ok (.iaload, 1) := by decide +kernel
theorem dL_law_30 : decode cL_law 30 = .ok (.bipush 31, 2) := by decide +kernel
theorem dL_law_32 : decode cL_law 32 = .ok (.iand, 1) := by decide +kernel
theorem dL_law_33 : decode cL_law 33 = .ok (.tableswitch 1018 0 26 #[123, 198, 257, 290, 353, 386, 399, 462, 475, 518, 551, 574, 633, 646, 679, 712, 745, 768, 801, 834, 867, 910, 923, 946, 969, 982, 995], 123) := by decide +kernel
theorem dL_law_156 : decode cL_law 156 = .ok (.aload_n 1, 1) := by decide +kernel
theorem dL_law_157 : decode cL_law 157 = .ok (.aload_n 0, 1) := by decide +kernel
theorem dL_law_158 : decode cL_law 158 = .ok (.iload_n 3, 1) := by decide +kernel
theorem dL_law_159 : decode cL_law 159 = .ok (.iconst 1, 1) := by decide +kernel
theorem dL_law_160 : decode cL_law 160 = .ok (.iadd, 1) := by decide +kernel
theorem dL_law_161 : decode cL_law 161 = .ok (.iaload, 1) := by decide +kernel
theorem dL_law_162 : decode cL_law 162 = .ok (.aload_n 0, 1) := by decide +kernel
theorem dL_law_163 : decode cL_law 163 = .ok (.iload_n 3, 1) := by decide +kernel
theorem dL_law_164 : decode cL_law 164 = .ok (.iconst 2, 1) := by decide +kernel
theorem dL_law_165 : decode cL_law 165 = .ok (.iadd, 1) := by decide +kernel
theorem dL_law_166 : decode cL_law 166 = .ok (.iaload, 1) := by decide +kernel
theorem dL_law_167 : decode cL_law 167 = .ok (.ifCond .eq 7, 3) := by decide +kernel
theorem dL_law_170 : decode cL_law 170 = .ok (.iconst 1, 1) := by decide +kernel
theorem dL_law_171 : decode cL_law 171 = .ok (.goto 4, 3) := by decide +kernel
theorem dL_law_174 : decode cL_law 174 = .ok (.iconst 0, 1) := by decide +kernel
theorem dL_law_175 : decode cL_law 175 = .ok (.aload_n 0, 1) := by decide +kernel
theorem dL_law_176 : decode cL_law 176 = .ok (.iload_n 3, 1) := by decide +kernel
theorem dL_law_177 : decode cL_law 177 = .ok (.iconst 3, 1) := by decide +kernel
theorem dL_law_178 : decode cL_law 178 = .ok (.iadd, 1) := by decide +kernel
theorem dL_law_179 : decode cL_law 179 = .ok (.iaload, 1) := by decide +kernel
theorem dL_law_180 : decode cL_law 180 = .ok (.ifCond .eq 7, 3) := by decide +kernel
theorem dL_law_183 : decode cL_law 183 = .ok (.iconst 1, 1) := by decide +kernel
theorem dL_law_184 : decode cL_law 184 = .ok (.goto 4, 3) := by decide +kernel
theorem dL_law_187 : decode cL_law 187 = .ok (.iconst 0, 1) := by decide +kernel
theorem dL_law_188 : decode cL_law 188 = .ok (.invokevirtual 13, 3) := by decide +kernel
theorem dL_law_191 : decode cL_law 191 = .ok (.aload_n 2, 1) := by decide +kernel
theorem dL_law_192 : decode cL_law 192 = .ok (.aload_n 0, 1) := by decide +kernel
theorem dL_law_193 : decode cL_law 193 = .ok (.iload_n 3, 1) := by decide +kernel
theorem dL_law_194 : decode cL_law 194 = .ok (.iconst 1, 1) := by decide +kernel
theorem dL_law_195 : decode cL_law 195 = .ok (.iadd, 1) := by decide +kernel
theorem dL_law_196 : decode cL_law 196 = .ok (.iaload, 1) := by decide +kernel
theorem dL_law_197 : decode cL_law 197 = .ok (.aload_n 0, 1) := by decide +kernel
theorem dL_law_198 : decode cL_law 198 = .ok (.iload_n 3, 1) := by decide +kernel
theorem dL_law_199 : decode cL_law 199 = .ok (.iconst 2, 1) := by decide +kernel
theorem dL_law_200 : decode cL_law 200 = .ok (.iadd, 1) := by decide +kernel
theorem dL_law_201 : decode cL_law 201 = .ok (.iaload, 1) := by decide +kernel
theorem dL_law_202 : decode cL_law 202 = .ok (.ifCond .eq 7, 3) := by decide +kernel
theorem dL_law_205 : decode cL_law 205 = .ok (.iconst 1, 1) := by decide +kernel
theorem dL_law_206 : decode cL_law 206 = .ok (.goto 4, 3) := by decide +kernel
theorem dL_law_209 : decode cL_law 209 = .ok (.iconst 0, 1) := by decide +kernel
theorem dL_law_210 : decode cL_law 210 = .ok (.aload_n 0, 1) := by decide +kernel
theorem dL_law_211 : decode cL_law 211 = .ok (.iload_n 3, 1) := by decide +kernel
theorem dL_law_212 : decode cL_law 212 = .ok (.iconst 3, 1) := by decide +kernel
theorem dL_law_213 : decode cL_law 213 = .ok (.iadd, 1) := by decide +kernel
theorem dL_law_214 : decode cL_law 214 = .ok (.iaload, 1) := by decide +kernel
theorem dL_law_215 : decode cL_law 215 = .ok (.ifCond .eq 7, 3) := by decide +kernel
theorem dL_law_218 : decode cL_law 218 = .ok (.iconst 1, 1) := by decide +kernel
theorem dL_law_219 : decode cL_law 219 = .ok (.goto 4, 3) := by decide +kernel
theorem dL_law_222 : decode cL_law 222 = .ok (.iconst 0, 1) := by decide +kernel
theorem dL_law_223 : decode cL_law 223 = .ok (.invokevirtual 17, 3) := by decide +kernel
theorem dL_law_226 : decode cL_law 226 = .ok (.if_icmp .eq 825, 3) := by decide +kernel
theorem dL_law_229 : decode cL_law 229 = .ok (.iconst 0, 1) := by decide +kernel
theorem dL_law_230 : decode cL_law 230 = .ok (.ireturn, 1) := by decide +kernel
theorem dL_law_231 : decode cL_law 231 = .ok (.aload_n 1, 1) := by decide +kernel
theorem dL_law_232 : decode cL_law 232 = .ok (.aload_n 0, 1) := by decide +kernel
theorem dL_law_233 : decode cL_law 233 = .ok (.iload_n 3, 1) := by decide +kernel
theorem dL_law_234 : decode cL_law 234 = .ok (.iconst 1, 1) := by decide +kernel
theorem dL_law_235 : decode cL_law 235 = .ok (.iadd, 1) := by decide +kernel
theorem dL_law_236 : decode cL_law 236 = .ok (.iaload, 1) := by decide +kernel
theorem dL_law_237 : decode cL_law 237 = .ok (.aload_n 0, 1) := by decide +kernel
theorem dL_law_238 : decode cL_law 238 = .ok (.iload_n 3, 1) := by decide +kernel
theorem dL_law_239 : decode cL_law 239 = .ok (.iconst 2, 1) := by decide +kernel
theorem dL_law_240 : decode cL_law 240 = .ok (.iadd, 1) := by decide +kernel
theorem dL_law_241 : decode cL_law 241 = .ok (.iaload, 1) := by decide +kernel
theorem dL_law_242 : decode cL_law 242 = .ok (.aload_n 0, 1) := by decide +kernel
theorem dL_law_243 : decode cL_law 243 = .ok (.iload_n 3, 1) := by decide +kernel
theorem dL_law_244 : decode cL_law 244 = .ok (.iconst 3, 1) := by decide +kernel
theorem dL_law_245 : decode cL_law 245 = .ok (.iadd, 1) := by decide +kernel
theorem dL_law_246 : decode cL_law 246 = .ok (.iaload, 1) := by decide +kernel
theorem dL_law_247 : decode cL_law 247 = .ok (.ifCond .eq 7, 3) := by decide +kernel
theorem dL_law_250 : decode cL_law 250 = .ok (.iconst 1, 1) := by decide +kernel
theorem dL_law_251 : decode cL_law 251 = .ok (.goto 4, 3) := by decide +kernel
theorem dL_law_254 : decode cL_law 254 = .ok (.iconst 0, 1) := by decide +kernel
theorem dL_law_255 : decode cL_law 255 = .ok (.invokevirtual 18, 3) := by decide +kernel
theorem dL_law_258 : decode cL_law 258 = .ok (.aload_n 2, 1) := by decide +kernel
theorem dL_law_259 : decode cL_law 259 = .ok (.aload_n 0, 1) := by decide +kernel
theorem dL_law_260 : decode cL_law 260 = .ok (.iload_n 3, 1) := by decide +kernel
theorem dL_law_261 : decode cL_law 261 = .ok (.iconst 1, 1) := by decide +kernel
theorem dL_law_262 : decode cL_law 262 = .ok (.iadd, 1) := by decide +kernel
theorem dL_law_263 : decode cL_law 263 = .ok (.iaload, 1) := by decide +kernel
theorem dL_law_264 : decode cL_law 264 = .ok (.aload_n 0, 1) := by decide +kernel
theorem dL_law_265 : decode cL_law 265 = .ok (.iload_n 3, 1) := by decide +kernel
theorem dL_law_266 : decode cL_law 266 = .ok (.iconst 2, 1) := by decide +kernel
theorem dL_law_267 : decode cL_law 267 = .ok (.iadd, 1) := by decide +kernel
theorem dL_law_268 : decode cL_law 268 = .ok (.iaload, 1) := by decide +kernel
theorem dL_law_269 : decode cL_law 269 = .ok (.aload_n 0, 1) := by decide +kernel
theorem dL_law_270 : decode cL_law 270 = .ok (.iload_n 3, 1) := by decide +kernel
theorem dL_law_271 : decode cL_law 271 = .ok (.iconst 3, 1) := by decide +kernel
theorem dL_law_272 : decode cL_law 272 = .ok (.iadd, 1) := by decide +kernel
theorem dL_law_273 : decode cL_law 273 = .ok (.iaload, 1) := by decide +kernel
theorem dL_law_274 : decode cL_law 274 = .ok (.ifCond .eq 7, 3) := by decide +kernel
theorem dL_law_277 : decode cL_law 277 = .ok (.iconst 1, 1) := by decide +kernel
theorem dL_law_278 : decode cL_law 278 = .ok (.goto 4, 3) := by decide +kernel
theorem dL_law_281 : decode cL_law 281 = .ok (.iconst 0, 1) := by decide +kernel
theorem dL_law_282 : decode cL_law 282 = .ok (.invokevirtual 22, 3) := by decide +kernel
theorem dL_law_285 : decode cL_law 285 = .ok (.if_icmp .eq 766, 3) := by decide +kernel
theorem dL_law_288 : decode cL_law 288 = .ok (.iconst 0, 1) := by decide +kernel
theorem dL_law_289 : decode cL_law 289 = .ok (.ireturn, 1) := by decide +kernel
theorem dL_law_290 : decode cL_law 290 = .ok (.aload_n 1, 1) := by decide +kernel
theorem dL_law_291 : decode cL_law 291 = .ok (.aload_n 0, 1) := by decide +kernel
theorem dL_law_292 : decode cL_law 292 = .ok (.iload_n 3, 1) := by decide +kernel
theorem dL_law_293 : decode cL_law 293 = .ok (.iconst 1, 1) := by decide +kernel
theorem dL_law_294 : decode cL_law 294 = .ok (.iadd, 1) := by decide +kernel
theorem dL_law_295 : decode cL_law 295 = .ok (.iaload, 1) := by decide +kernel
theorem dL_law_296 : decode cL_law 296 = .ok (.aload_n 0, 1) := by decide +kernel
theorem dL_law_297 : decode cL_law 297 = .ok (.iload_n 3, 1) := by decide +kernel
theorem dL_law_298 : decode cL_law 298 = .ok (.iconst 2, 1) := by decide +kernel
theorem dL_law_299 : decode cL_law 299 = .ok (.iadd, 1) := by decide +kernel
theorem dL_law_300 : decode cL_law 300 = .ok (.iaload, 1) := by decide +kernel
theorem dL_law_301 : decode cL_law 301 = .ok (.invokevirtual 23, 3) := by decide +kernel
theorem dL_law_304 : decode cL_law 304 = .ok (.aload_n 2, 1) := by decide +kernel
theorem dL_law_305 : decode cL_law 305 = .ok (.aload_n 0, 1) := by decide +kernel
theorem dL_law_306 : decode cL_law 306 = .ok (.iload_n 3, 1) := by decide +kernel
theorem dL_law_307 : decode cL_law 307 = .ok (.iconst 1, 1) := by decide +kernel
theorem dL_law_308 : decode cL_law 308 = .ok (.iadd, 1) := by decide +kernel
theorem dL_law_309 : decode cL_law 309 = .ok (.iaload, 1) := by decide +kernel
theorem dL_law_310 : decode cL_law 310 = .ok (.aload_n 0, 1) := by decide +kernel
theorem dL_law_311 : decode cL_law 311 = .ok (.iload_n 3, 1) := by decide +kernel
theorem dL_law_312 : decode cL_law 312 = .ok (.iconst 2, 1) := by decide +kernel
theorem dL_law_313 : decode cL_law 313 = .ok (.iadd, 1) := by decide +kernel
theorem dL_law_314 : decode cL_law 314 = .ok (.iaload, 1) := by decide +kernel
theorem dL_law_315 : decode cL_law 315 = .ok (.invokevirtual 27, 3) := by decide +kernel
theorem dL_law_318 : decode cL_law 318 = .ok (.if_icmp .eq 733, 3) := by decide +kernel
theorem dL_law_321 : decode cL_law 321 = .ok (.iconst 0, 1) := by decide +kernel
theorem dL_law_322 : decode cL_law 322 = .ok (.ireturn, 1) := by decide +kernel
theorem dL_law_323 : decode cL_law 323 = .ok (.aload_n 1, 1) := by decide +kernel
theorem dL_law_324 : decode cL_law 324 = .ok (.aload_n 0, 1) := by decide +kernel
theorem dL_law_325 : decode cL_law 325 = .ok (.iload_n 3, 1) := by decide +kernel
theorem dL_law_326 : decode cL_law 326 = .ok (.iconst 1, 1) := by decide +kernel
theorem dL_law_327 : decode cL_law 327 = .ok (.iadd, 1) := by decide +kernel
theorem dL_law_328 : decode cL_law 328 = .ok (.iaload, 1) := by decide +kernel
theorem dL_law_329 : decode cL_law 329 = .ok (.aload_n 0, 1) := by decide +kernel
theorem dL_law_330 : decode cL_law 330 = .ok (.iload_n 3, 1) := by decide +kernel
theorem dL_law_331 : decode cL_law 331 = .ok (.iconst 2, 1) := by decide +kernel
theorem dL_law_332 : decode cL_law 332 = .ok (.iadd, 1) := by decide +kernel
theorem dL_law_333 : decode cL_law 333 = .ok (.iaload, 1) := by decide +kernel
theorem dL_law_334 : decode cL_law 334 = .ok (.aload_n 0, 1) := by decide +kernel
theorem dL_law_335 : decode cL_law 335 = .ok (.iload_n 3, 1) := by decide +kernel
theorem dL_law_336 : decode cL_law 336 = .ok (.iconst 3, 1) := by decide +kernel
theorem dL_law_337 : decode cL_law 337 = .ok (.iadd, 1) := by decide +kernel
theorem dL_law_338 : decode cL_law 338 = .ok (.iaload, 1) := by decide +kernel
theorem dL_law_339 : decode cL_law 339 = .ok (.aload_n 0, 1) := by decide +kernel
theorem dL_law_340 : decode cL_law 340 = .ok (.iload_n 3, 1) := by decide +kernel
theorem dL_law_341 : decode cL_law 341 = .ok (.iconst 4, 1) := by decide +kernel
theorem dL_law_342 : decode cL_law 342 = .ok (.iadd, 1) := by decide +kernel
theorem dL_law_343 : decode cL_law 343 = .ok (.iaload, 1) := by decide +kernel
theorem dL_law_344 : decode cL_law 344 = .ok (.aload_n 0, 1) := by decide +kernel
theorem dL_law_345 : decode cL_law 345 = .ok (.iload_n 3, 1) := by decide +kernel
theorem dL_law_346 : decode cL_law 346 = .ok (.iconst 5, 1) := by decide +kernel
theorem dL_law_347 : decode cL_law 347 = .ok (.iadd, 1) := by decide +kernel
theorem dL_law_348 : decode cL_law 348 = .ok (.iaload, 1) := by decide +kernel
theorem dL_law_349 : decode cL_law 349 = .ok (.invokevirtual 28, 3) := by decide +kernel
theorem dL_law_352 : decode cL_law 352 = .ok (.aload_n 2, 1) := by decide +kernel
theorem dL_law_353 : decode cL_law 353 = .ok (.aload_n 0, 1) := by decide +kernel
theorem dL_law_354 : decode cL_law 354 = .ok (.iload_n 3, 1) := by decide +kernel
theorem dL_law_355 : decode cL_law 355 = .ok (.iconst 1, 1) := by decide +kernel
theorem dL_law_356 : decode cL_law 356 = .ok (.iadd, 1) := by decide +kernel
theorem dL_law_357 : decode cL_law 357 = .ok (.iaload, 1) := by decide +kernel
theorem dL_law_358 : decode cL_law 358 = .ok (.aload_n 0, 1) := by decide +kernel
theorem dL_law_359 : decode cL_law 359 = .ok (.iload_n 3, 1) := by decide +kernel
theorem dL_law_360 : decode cL_law 360 = .ok (.iconst 2, 1) := by decide +kernel
theorem dL_law_361 : decode cL_law 361 = .ok (.iadd, 1) := by decide +kernel
theorem dL_law_362 : decode cL_law 362 = .ok (.iaload, 1) := by decide +kernel
theorem dL_law_363 : decode cL_law 363 = .ok (.aload_n 0, 1) := by decide +kernel
theorem dL_law_364 : decode cL_law 364 = .ok (.iload_n 3, 1) := by decide +kernel
theorem dL_law_365 : decode cL_law 365 = .ok (.iconst 3, 1) := by decide +kernel
theorem dL_law_366 : decode cL_law 366 = .ok (.iadd, 1) := by decide +kernel
theorem dL_law_367 : decode cL_law 367 = .ok (.iaload, 1) := by decide +kernel
theorem dL_law_368 : decode cL_law 368 = .ok (.aload_n 0, 1) := by decide +kernel
theorem dL_law_369 : decode cL_law 369 = .ok (.iload_n 3, 1) := by decide +kernel
theorem dL_law_370 : decode cL_law 370 = .ok (.iconst 4, 1) := by decide +kernel
theorem dL_law_371 : decode cL_law 371 = .ok (.iadd, 1) := by decide +kernel
theorem dL_law_372 : decode cL_law 372 = .ok (.iaload, 1) := by decide +kernel
theorem dL_law_373 : decode cL_law 373 = .ok (.aload_n 0, 1) := by decide +kernel
theorem dL_law_374 : decode cL_law 374 = .ok (.iload_n 3, 1) := by decide +kernel
theorem dL_law_375 : decode cL_law 375 = .ok (.iconst 5, 1) := by decide +kernel
theorem dL_law_376 : decode cL_law 376 = .ok (.iadd, 1) := by decide +kernel
theorem dL_law_377 : decode cL_law 377 = .ok (.iaload, 1) := by decide +kernel
theorem dL_law_378 : decode cL_law 378 = .ok (.invokevirtual 32, 3) := by decide +kernel
theorem dL_law_381 : decode cL_law 381 = .ok (.if_icmp .eq 670, 3) := by decide +kernel
theorem dL_law_384 : decode cL_law 384 = .ok (.iconst 0, 1) := by decide +kernel
theorem dL_law_385 : decode cL_law 385 = .ok (.ireturn, 1) := by decide +kernel
theorem dL_law_386 : decode cL_law 386 = .ok (.aload_n 1, 1) := by decide +kernel
theorem dL_law_387 : decode cL_law 387 = .ok (.aload_n 0, 1) := by decide +kernel
theorem dL_law_388 : decode cL_law 388 = .ok (.iload_n 3, 1) := by decide +kernel
theorem dL_law_389 : decode cL_law 389 = .ok (.iconst 1, 1) := by decide +kernel
theorem dL_law_390 : decode cL_law 390 = .ok (.iadd, 1) := by decide +kernel
theorem dL_law_391 : decode cL_law 391 = .ok (.iaload, 1) := by decide +kernel
theorem dL_law_392 : decode cL_law 392 = .ok (.aload_n 0, 1) := by decide +kernel
theorem dL_law_393 : decode cL_law 393 = .ok (.iload_n 3, 1) := by decide +kernel
theorem dL_law_394 : decode cL_law 394 = .ok (.iconst 2, 1) := by decide +kernel
theorem dL_law_395 : decode cL_law 395 = .ok (.iadd, 1) := by decide +kernel
theorem dL_law_396 : decode cL_law 396 = .ok (.iaload, 1) := by decide +kernel
theorem dL_law_397 : decode cL_law 397 = .ok (.invokevirtual 33, 3) := by decide +kernel
theorem dL_law_400 : decode cL_law 400 = .ok (.aload_n 2, 1) := by decide +kernel
theorem dL_law_401 : decode cL_law 401 = .ok (.aload_n 0, 1) := by decide +kernel
theorem dL_law_402 : decode cL_law 402 = .ok (.iload_n 3, 1) := by decide +kernel
theorem dL_law_403 : decode cL_law 403 = .ok (.iconst 1, 1) := by decide +kernel
theorem dL_law_404 : decode cL_law 404 = .ok (.iadd, 1) := by decide +kernel
theorem dL_law_405 : decode cL_law 405 = .ok (.iaload, 1) := by decide +kernel
theorem dL_law_406 : decode cL_law 406 = .ok (.aload_n 0, 1) := by decide +kernel
theorem dL_law_407 : decode cL_law 407 = .ok (.iload_n 3, 1) := by decide +kernel
theorem dL_law_408 : decode cL_law 408 = .ok (.iconst 2, 1) := by decide +kernel
theorem dL_law_409 : decode cL_law 409 = .ok (.iadd, 1) := by decide +kernel
theorem dL_law_410 : decode cL_law 410 = .ok (.iaload, 1) := by decide +kernel
theorem dL_law_411 : decode cL_law 411 = .ok (.invokevirtual 36, 3) := by decide +kernel
theorem dL_law_414 : decode cL_law 414 = .ok (.if_icmp .eq 637, 3) := by decide +kernel
theorem dL_law_417 : decode cL_law 417 = .ok (.iconst 0, 1) := by decide +kernel
theorem dL_law_418 : decode cL_law 418 = .ok (.ireturn, 1) := by decide +kernel
theorem dL_law_419 : decode cL_law 419 = .ok (.aload_n 1, 1) := by decide +kernel
theorem dL_law_420 : decode cL_law 420 = .ok (.invokevirtual 37, 3) := by decide +kernel
theorem dL_law_423 : decode cL_law 423 = .ok (.aload_n 2, 1) := by decide +kernel
theorem dL_law_424 : decode cL_law 424 = .ok (.invokevirtual 41, 3) := by decide +kernel
theorem dL_law_427 : decode cL_law 427 = .ok (.if_icmp .eq 624, 3) := by decide +kernel
theorem dL_law_430 : decode cL_law 430 = .ok (.iconst 0, 1) := by decide +kernel
theorem dL_law_431 : decode cL_law 431 = .ok (.ireturn, 1) := by decide +kernel
theorem dL_law_432 : decode cL_law 432 = .ok (.aload_n 1, 1) := by decide +kernel
theorem dL_law_433 : decode cL_law 433 = .ok (.aload_n 0, 1) := by decide +kernel
theorem dL_law_434 : decode cL_law 434 = .ok (.iload_n 3, 1) := by decide +kernel
theorem dL_law_435 : decode cL_law 435 = .ok (.iconst 1, 1) := by decide +kernel
theorem dL_law_436 : decode cL_law 436 = .ok (.iadd, 1) := by decide +kernel
theorem dL_law_437 : decode cL_law 437 = .ok (.iaload, 1) := by decide +kernel
theorem dL_law_438 : decode cL_law 438 = .ok (.aload_n 0, 1) := by decide +kernel
theorem dL_law_439 : decode cL_law 439 = .ok (.iload_n 3, 1) := by decide +kernel
theorem dL_law_440 : decode cL_law 440 = .ok (.iconst 2, 1) := by decide +kernel
theorem dL_law_441 : decode cL_law 441 = .ok (.iadd, 1) := by decide +kernel
theorem dL_law_442 : decode cL_law 442 = .ok (.iaload, 1) := by decide +kernel
theorem dL_law_443 : decode cL_law 443 = .ok (.i2l, 1) := by decide +kernel
theorem dL_law_444 : decode cL_law 444 = .ok (.bipush 32, 2) := by decide +kernel
theorem dL_law_446 : decode cL_law 446 = .ok (.lshl, 1) := by decide +kernel
theorem dL_law_447 : decode cL_law 447 = .ok (.aload_n 0, 1) := by decide +kernel
theorem dL_law_448 : decode cL_law 448 = .ok (.iload_n 3, 1) := by decide +kernel
theorem dL_law_449 : decode cL_law 449 = .ok (.iconst 3, 1) := by decide +kernel
theorem dL_law_450 : decode cL_law 450 = .ok (.iadd, 1) := by decide +kernel
theorem dL_law_451 : decode cL_law 451 = .ok (.iaload, 1) := by decide +kernel
theorem dL_law_452 : decode cL_law 452 = .ok (.i2l, 1) := by decide +kernel
theorem dL_law_453 : decode cL_law 453 = .ok (.ldc2_w 42, 3) := by decide +kernel
theorem dL_law_456 : decode cL_law 456 = .ok (.land, 1) := by decide +kernel
theorem dL_law_457 : decode cL_law 457 = .ok (.lor, 1) := by decide +kernel
theorem dL_law_458 : decode cL_law 458 = .ok (.invokevirtual 44, 3) := by decide +kernel
theorem dL_law_461 : decode cL_law 461 = .ok (.aload_n 2, 1) := by decide +kernel
theorem dL_law_462 : decode cL_law 462 = .ok (.aload_n 0, 1) := by decide +kernel
theorem dL_law_463 : decode cL_law 463 = .ok (.iload_n 3, 1) := by decide +kernel
theorem dL_law_464 : decode cL_law 464 = .ok (.iconst 1, 1) := by decide +kernel
theorem dL_law_465 : decode cL_law 465 = .ok (.iadd, 1) := by decide +kernel
theorem dL_law_466 : decode cL_law 466 = .ok (.iaload, 1) := by decide +kernel
theorem dL_law_467 : decode cL_law 467 = .ok (.aload_n 0, 1) := by decide +kernel
theorem dL_law_468 : decode cL_law 468 = .ok (.iload_n 3, 1) := by decide +kernel
theorem dL_law_469 : decode cL_law 469 = .ok (.iconst 2, 1) := by decide +kernel
theorem dL_law_470 : decode cL_law 470 = .ok (.iadd, 1) := by decide +kernel
theorem dL_law_471 : decode cL_law 471 = .ok (.iaload, 1) := by decide +kernel
theorem dL_law_472 : decode cL_law 472 = .ok (.i2l, 1) := by decide +kernel
theorem dL_law_473 : decode cL_law 473 = .ok (.bipush 32, 2) := by decide +kernel
theorem dL_law_475 : decode cL_law 475 = .ok (.lshl, 1) := by decide +kernel
theorem dL_law_476 : decode cL_law 476 = .ok (.aload_n 0, 1) := by decide +kernel
theorem dL_law_477 : decode cL_law 477 = .ok (.iload_n 3, 1) := by decide +kernel
theorem dL_law_478 : decode cL_law 478 = .ok (.iconst 3, 1) := by decide +kernel
theorem dL_law_479 : decode cL_law 479 = .ok (.iadd, 1) := by decide +kernel
theorem dL_law_480 : decode cL_law 480 = .ok (.iaload, 1) := by decide +kernel
theorem dL_law_481 : decode cL_law 481 = .ok (.i2l, 1) := by decide +kernel
theorem dL_law_482 : decode cL_law 482 = .ok (.ldc2_w 42, 3) := by decide +kernel
theorem dL_law_485 : decode cL_law 485 = .ok (.land, 1) := by decide +kernel
theorem dL_law_486 : decode cL_law 486 = .ok (.lor, 1) := by decide +kernel
theorem dL_law_487 : decode cL_law 487 = .ok (.invokevirtual 48, 3) := by decide +kernel
theorem dL_law_490 : decode cL_law 490 = .ok (.if_icmp .eq 561, 3) := by decide +kernel
theorem dL_law_493 : decode cL_law 493 = .ok (.iconst 0, 1) := by decide +kernel
theorem dL_law_494 : decode cL_law 494 = .ok (.ireturn, 1) := by decide +kernel
theorem dL_law_495 : decode cL_law 495 = .ok (.aload_n 1, 1) := by decide +kernel
theorem dL_law_496 : decode cL_law 496 = .ok (.invokevirtual 49, 3) := by decide +kernel
theorem dL_law_499 : decode cL_law 499 = .ok (.aload_n 2, 1) := by decide +kernel
theorem dL_law_500 : decode cL_law 500 = .ok (.invokevirtual 52, 3) := by decide +kernel
theorem dL_law_503 : decode cL_law 503 = .ok (.if_icmp .eq 548, 3) := by decide +kernel
theorem dL_law_506 : decode cL_law 506 = .ok (.iconst 0, 1) := by decide +kernel
theorem dL_law_507 : decode cL_law 507 = .ok (.ireturn, 1) := by decide +kernel
theorem dL_law_508 : decode cL_law 508 = .ok (.aload_n 1, 1) := by decide +kernel
theorem dL_law_509 : decode cL_law 509 = .ok (.aload_n 0, 1) := by decide +kernel
theorem dL_law_510 : decode cL_law 510 = .ok (.iload_n 3, 1) := by decide +kernel
theorem dL_law_511 : decode cL_law 511 = .ok (.iconst 1, 1) := by decide +kernel
theorem dL_law_512 : decode cL_law 512 = .ok (.iadd, 1) := by decide +kernel
theorem dL_law_513 : decode cL_law 513 = .ok (.iaload, 1) := by decide +kernel
theorem dL_law_514 : decode cL_law 514 = .ok (.aload_n 0, 1) := by decide +kernel
theorem dL_law_515 : decode cL_law 515 = .ok (.iload_n 3, 1) := by decide +kernel
theorem dL_law_516 : decode cL_law 516 = .ok (.iconst 2, 1) := by decide +kernel
theorem dL_law_517 : decode cL_law 517 = .ok (.iadd, 1) := by decide +kernel
theorem dL_law_518 : decode cL_law 518 = .ok (.iaload, 1) := by decide +kernel
theorem dL_law_519 : decode cL_law 519 = .ok (.aload_n 0, 1) := by decide +kernel
theorem dL_law_520 : decode cL_law 520 = .ok (.iload_n 3, 1) := by decide +kernel
theorem dL_law_521 : decode cL_law 521 = .ok (.iconst 3, 1) := by decide +kernel
theorem dL_law_522 : decode cL_law 522 = .ok (.iadd, 1) := by decide +kernel
theorem dL_law_523 : decode cL_law 523 = .ok (.iaload, 1) := by decide +kernel
theorem dL_law_524 : decode cL_law 524 = .ok (.invokevirtual 53, 3) := by decide +kernel
theorem dL_law_527 : decode cL_law 527 = .ok (.aload_n 2, 1) := by decide +kernel
theorem dL_law_528 : decode cL_law 528 = .ok (.aload_n 0, 1) := by decide +kernel
theorem dL_law_529 : decode cL_law 529 = .ok (.iload_n 3, 1) := by decide +kernel
theorem dL_law_530 : decode cL_law 530 = .ok (.iconst 1, 1) := by decide +kernel
theorem dL_law_531 : decode cL_law 531 = .ok (.iadd, 1) := by decide +kernel
theorem dL_law_532 : decode cL_law 532 = .ok (.iaload, 1) := by decide +kernel
theorem dL_law_533 : decode cL_law 533 = .ok (.aload_n 0, 1) := by decide +kernel
theorem dL_law_534 : decode cL_law 534 = .ok (.iload_n 3, 1) := by decide +kernel
theorem dL_law_535 : decode cL_law 535 = .ok (.iconst 2, 1) := by decide +kernel
theorem dL_law_536 : decode cL_law 536 = .ok (.iadd, 1) := by decide +kernel
theorem dL_law_537 : decode cL_law 537 = .ok (.iaload, 1) := by decide +kernel
theorem dL_law_538 : decode cL_law 538 = .ok (.aload_n 0, 1) := by decide +kernel
theorem dL_law_539 : decode cL_law 539 = .ok (.iload_n 3, 1) := by decide +kernel
theorem dL_law_540 : decode cL_law 540 = .ok (.iconst 3, 1) := by decide +kernel
theorem dL_law_541 : decode cL_law 541 = .ok (.iadd, 1) := by decide +kernel
theorem dL_law_542 : decode cL_law 542 = .ok (.iaload, 1) := by decide +kernel
theorem dL_law_543 : decode cL_law 543 = .ok (.invokevirtual 57, 3) := by decide +kernel
theorem dL_law_546 : decode cL_law 546 = .ok (.if_icmp .eq 505, 3) := by decide +kernel
theorem dL_law_549 : decode cL_law 549 = .ok (.iconst 0, 1) := by decide +kernel
theorem dL_law_550 : decode cL_law 550 = .ok (.ireturn, 1) := by decide +kernel
theorem dL_law_551 : decode cL_law 551 = .ok (.aload_n 1, 1) := by decide +kernel
theorem dL_law_552 : decode cL_law 552 = .ok (.aload_n 0, 1) := by decide +kernel
theorem dL_law_553 : decode cL_law 553 = .ok (.iload_n 3, 1) := by decide +kernel
theorem dL_law_554 : decode cL_law 554 = .ok (.iconst 1, 1) := by decide +kernel
theorem dL_law_555 : decode cL_law 555 = .ok (.iadd, 1) := by decide +kernel
theorem dL_law_556 : decode cL_law 556 = .ok (.iaload, 1) := by decide +kernel
theorem dL_law_557 : decode cL_law 557 = .ok (.aload_n 0, 1) := by decide +kernel
theorem dL_law_558 : decode cL_law 558 = .ok (.iload_n 3, 1) := by decide +kernel
theorem dL_law_559 : decode cL_law 559 = .ok (.iconst 2, 1) := by decide +kernel
theorem dL_law_560 : decode cL_law 560 = .ok (.iadd, 1) := by decide +kernel
theorem dL_law_561 : decode cL_law 561 = .ok (.iaload, 1) := by decide +kernel
theorem dL_law_562 : decode cL_law 562 = .ok (.invokevirtual 58, 3) := by decide +kernel
theorem dL_law_565 : decode cL_law 565 = .ok (.aload_n 2, 1) := by decide +kernel
theorem dL_law_566 : decode cL_law 566 = .ok (.aload_n 0, 1) := by decide +kernel
theorem dL_law_567 : decode cL_law 567 = .ok (.iload_n 3, 1) := by decide +kernel
theorem dL_law_568 : decode cL_law 568 = .ok (.iconst 1, 1) := by decide +kernel
theorem dL_law_569 : decode cL_law 569 = .ok (.iadd, 1) := by decide +kernel
theorem dL_law_570 : decode cL_law 570 = .ok (.iaload, 1) := by decide +kernel
theorem dL_law_571 : decode cL_law 571 = .ok (.aload_n 0, 1) := by decide +kernel
theorem dL_law_572 : decode cL_law 572 = .ok (.iload_n 3, 1) := by decide +kernel
theorem dL_law_573 : decode cL_law 573 = .ok (.iconst 2, 1) := by decide +kernel
theorem dL_law_574 : decode cL_law 574 = .ok (.iadd, 1) := by decide +kernel
theorem dL_law_575 : decode cL_law 575 = .ok (.iaload, 1) := by decide +kernel
theorem dL_law_576 : decode cL_law 576 = .ok (.invokevirtual 61, 3) := by decide +kernel
theorem dL_law_579 : decode cL_law 579 = .ok (.if_icmp .eq 472, 3) := by decide +kernel
theorem dL_law_582 : decode cL_law 582 = .ok (.iconst 0, 1) := by decide +kernel
theorem dL_law_583 : decode cL_law 583 = .ok (.ireturn, 1) := by decide +kernel
theorem dL_law_584 : decode cL_law 584 = .ok (.aload_n 1, 1) := by decide +kernel
theorem dL_law_585 : decode cL_law 585 = .ok (.aload_n 0, 1) := by decide +kernel
theorem dL_law_586 : decode cL_law 586 = .ok (.iload_n 3, 1) := by decide +kernel
theorem dL_law_587 : decode cL_law 587 = .ok (.iconst 1, 1) := by decide +kernel
theorem dL_law_588 : decode cL_law 588 = .ok (.iadd, 1) := by decide +kernel
theorem dL_law_589 : decode cL_law 589 = .ok (.iaload, 1) := by decide +kernel
theorem dL_law_590 : decode cL_law 590 = .ok (.invokevirtual 62, 3) := by decide +kernel
theorem dL_law_593 : decode cL_law 593 = .ok (.aload_n 2, 1) := by decide +kernel
theorem dL_law_594 : decode cL_law 594 = .ok (.aload_n 0, 1) := by decide +kernel
theorem dL_law_595 : decode cL_law 595 = .ok (.iload_n 3, 1) := by decide +kernel
theorem dL_law_596 : decode cL_law 596 = .ok (.iconst 1, 1) := by decide +kernel
theorem dL_law_597 : decode cL_law 597 = .ok (.iadd, 1) := by decide +kernel
theorem dL_law_598 : decode cL_law 598 = .ok (.iaload, 1) := by decide +kernel
theorem dL_law_599 : decode cL_law 599 = .ok (.invokevirtual 66, 3) := by decide +kernel
theorem dL_law_602 : decode cL_law 602 = .ok (.if_icmp .eq 449, 3) := by decide +kernel
theorem dL_law_605 : decode cL_law 605 = .ok (.iconst 0, 1) := by decide +kernel
theorem dL_law_606 : decode cL_law 606 = .ok (.ireturn, 1) := by decide +kernel
theorem dL_law_607 : decode cL_law 607 = .ok (.aload_n 1, 1) := by decide +kernel
theorem dL_law_608 : decode cL_law 608 = .ok (.aload_n 0, 1) := by decide +kernel
theorem dL_law_609 : decode cL_law 609 = .ok (.iload_n 3, 1) := by decide +kernel
theorem dL_law_610 : decode cL_law 610 = .ok (.iconst 1, 1) := by decide +kernel
theorem dL_law_611 : decode cL_law 611 = .ok (.iadd, 1) := by decide +kernel
theorem dL_law_612 : decode cL_law 612 = .ok (.iaload, 1) := by decide +kernel
theorem dL_law_613 : decode cL_law 613 = .ok (.aload_n 0, 1) := by decide +kernel
theorem dL_law_614 : decode cL_law 614 = .ok (.iload_n 3, 1) := by decide +kernel
theorem dL_law_615 : decode cL_law 615 = .ok (.iconst 2, 1) := by decide +kernel
theorem dL_law_616 : decode cL_law 616 = .ok (.iadd, 1) := by decide +kernel
theorem dL_law_617 : decode cL_law 617 = .ok (.iaload, 1) := by decide +kernel
theorem dL_law_618 : decode cL_law 618 = .ok (.aload_n 0, 1) := by decide +kernel
theorem dL_law_619 : decode cL_law 619 = .ok (.iload_n 3, 1) := by decide +kernel
theorem dL_law_620 : decode cL_law 620 = .ok (.iconst 3, 1) := by decide +kernel
theorem dL_law_621 : decode cL_law 621 = .ok (.iadd, 1) := by decide +kernel
theorem dL_law_622 : decode cL_law 622 = .ok (.iaload, 1) := by decide +kernel
theorem dL_law_623 : decode cL_law 623 = .ok (.ifCond .eq 7, 3) := by decide +kernel
theorem dL_law_626 : decode cL_law 626 = .ok (.iconst 1, 1) := by decide +kernel
theorem dL_law_627 : decode cL_law 627 = .ok (.goto 4, 3) := by decide +kernel
theorem dL_law_630 : decode cL_law 630 = .ok (.iconst 0, 1) := by decide +kernel
theorem dL_law_631 : decode cL_law 631 = .ok (.invokevirtual 67, 3) := by decide +kernel
theorem dL_law_634 : decode cL_law 634 = .ok (.aload_n 2, 1) := by decide +kernel
theorem dL_law_635 : decode cL_law 635 = .ok (.aload_n 0, 1) := by decide +kernel
theorem dL_law_636 : decode cL_law 636 = .ok (.iload_n 3, 1) := by decide +kernel
theorem dL_law_637 : decode cL_law 637 = .ok (.iconst 1, 1) := by decide +kernel
theorem dL_law_638 : decode cL_law 638 = .ok (.iadd, 1) := by decide +kernel
theorem dL_law_639 : decode cL_law 639 = .ok (.iaload, 1) := by decide +kernel
theorem dL_law_640 : decode cL_law 640 = .ok (.aload_n 0, 1) := by decide +kernel
theorem dL_law_641 : decode cL_law 641 = .ok (.iload_n 3, 1) := by decide +kernel
theorem dL_law_642 : decode cL_law 642 = .ok (.iconst 2, 1) := by decide +kernel
theorem dL_law_643 : decode cL_law 643 = .ok (.iadd, 1) := by decide +kernel
theorem dL_law_644 : decode cL_law 644 = .ok (.iaload, 1) := by decide +kernel
theorem dL_law_645 : decode cL_law 645 = .ok (.aload_n 0, 1) := by decide +kernel
theorem dL_law_646 : decode cL_law 646 = .ok (.iload_n 3, 1) := by decide +kernel
theorem dL_law_647 : decode cL_law 647 = .ok (.iconst 3, 1) := by decide +kernel
theorem dL_law_648 : decode cL_law 648 = .ok (.iadd, 1) := by decide +kernel
theorem dL_law_649 : decode cL_law 649 = .ok (.iaload, 1) := by decide +kernel
theorem dL_law_650 : decode cL_law 650 = .ok (.ifCond .eq 7, 3) := by decide +kernel
theorem dL_law_653 : decode cL_law 653 = .ok (.iconst 1, 1) := by decide +kernel
theorem dL_law_654 : decode cL_law 654 = .ok (.goto 4, 3) := by decide +kernel
theorem dL_law_657 : decode cL_law 657 = .ok (.iconst 0, 1) := by decide +kernel
theorem dL_law_658 : decode cL_law 658 = .ok (.invokevirtual 70, 3) := by decide +kernel
theorem dL_law_661 : decode cL_law 661 = .ok (.if_icmp .eq 390, 3) := by decide +kernel
theorem dL_law_664 : decode cL_law 664 = .ok (.iconst 0, 1) := by decide +kernel
theorem dL_law_665 : decode cL_law 665 = .ok (.ireturn, 1) := by decide +kernel
theorem dL_law_666 : decode cL_law 666 = .ok (.aload_n 1, 1) := by decide +kernel
theorem dL_law_667 : decode cL_law 667 = .ok (.invokevirtual 71, 3) := by decide +kernel
theorem dL_law_670 : decode cL_law 670 = .ok (.aload_n 2, 1) := by decide +kernel
theorem dL_law_671 : decode cL_law 671 = .ok (.invokevirtual 74, 3) := by decide +kernel
theorem dL_law_674 : decode cL_law 674 = .ok (.if_icmp .eq 377, 3) := by decide +kernel
theorem dL_law_677 : decode cL_law 677 = .ok (.iconst 0, 1) := by decide +kernel
theorem dL_law_678 : decode cL_law 678 = .ok (.ireturn, 1) := by decide +kernel
theorem dL_law_679 : decode cL_law 679 = .ok (.aload_n 1, 1) := by decide +kernel
theorem dL_law_680 : decode cL_law 680 = .ok (.aload_n 0, 1) := by decide +kernel
theorem dL_law_681 : decode cL_law 681 = .ok (.iload_n 3, 1) := by decide +kernel
theorem dL_law_682 : decode cL_law 682 = .ok (.iconst 1, 1) := by decide +kernel
theorem dL_law_683 : decode cL_law 683 = .ok (.iadd, 1) := by decide +kernel
theorem dL_law_684 : decode cL_law 684 = .ok (.iaload, 1) := by decide +kernel
theorem dL_law_685 : decode cL_law 685 = .ok (.aload_n 0, 1) := by decide +kernel
theorem dL_law_686 : decode cL_law 686 = .ok (.iload_n 3, 1) := by decide +kernel
theorem dL_law_687 : decode cL_law 687 = .ok (.iconst 2, 1) := by decide +kernel
theorem dL_law_688 : decode cL_law 688 = .ok (.iadd, 1) := by decide +kernel
theorem dL_law_689 : decode cL_law 689 = .ok (.iaload, 1) := by decide +kernel
theorem dL_law_690 : decode cL_law 690 = .ok (.invokevirtual 75, 3) := by decide +kernel
theorem dL_law_693 : decode cL_law 693 = .ok (.aload_n 2, 1) := by decide +kernel
theorem dL_law_694 : decode cL_law 694 = .ok (.aload_n 0, 1) := by decide +kernel
theorem dL_law_695 : decode cL_law 695 = .ok (.iload_n 3, 1) := by decide +kernel
theorem dL_law_696 : decode cL_law 696 = .ok (.iconst 1, 1) := by decide +kernel
theorem dL_law_697 : decode cL_law 697 = .ok (.iadd, 1) := by decide +kernel
theorem dL_law_698 : decode cL_law 698 = .ok (.iaload, 1) := by decide +kernel
theorem dL_law_699 : decode cL_law 699 = .ok (.aload_n 0, 1) := by decide +kernel
theorem dL_law_700 : decode cL_law 700 = .ok (.iload_n 3, 1) := by decide +kernel
theorem dL_law_701 : decode cL_law 701 = .ok (.iconst 2, 1) := by decide +kernel
theorem dL_law_702 : decode cL_law 702 = .ok (.iadd, 1) := by decide +kernel
theorem dL_law_703 : decode cL_law 703 = .ok (.iaload, 1) := by decide +kernel
theorem dL_law_704 : decode cL_law 704 = .ok (.invokevirtual 78, 3) := by decide +kernel
theorem dL_law_707 : decode cL_law 707 = .ok (.if_icmp .eq 344, 3) := by decide +kernel
theorem dL_law_710 : decode cL_law 710 = .ok (.iconst 0, 1) := by decide +kernel
theorem dL_law_711 : decode cL_law 711 = .ok (.ireturn, 1) := by decide +kernel
theorem dL_law_712 : decode cL_law 712 = .ok (.aload_n 1, 1) := by decide +kernel
theorem dL_law_713 : decode cL_law 713 = .ok (.aload_n 0, 1) := by decide +kernel
theorem dL_law_714 : decode cL_law 714 = .ok (.iload_n 3, 1) := by decide +kernel
theorem dL_law_715 : decode cL_law 715 = .ok (.iconst 1, 1) := by decide +kernel
theorem dL_law_716 : decode cL_law 716 = .ok (.iadd, 1) := by decide +kernel
theorem dL_law_717 : decode cL_law 717 = .ok (.iaload, 1) := by decide +kernel
theorem dL_law_718 : decode cL_law 718 = .ok (.aload_n 0, 1) := by decide +kernel
theorem dL_law_719 : decode cL_law 719 = .ok (.iload_n 3, 1) := by decide +kernel
theorem dL_law_720 : decode cL_law 720 = .ok (.iconst 2, 1) := by decide +kernel
theorem dL_law_721 : decode cL_law 721 = .ok (.iadd, 1) := by decide +kernel
theorem dL_law_722 : decode cL_law 722 = .ok (.iaload, 1) := by decide +kernel
theorem dL_law_723 : decode cL_law 723 = .ok (.invokevirtual 79, 3) := by decide +kernel
theorem dL_law_726 : decode cL_law 726 = .ok (.aload_n 2, 1) := by decide +kernel
theorem dL_law_727 : decode cL_law 727 = .ok (.aload_n 0, 1) := by decide +kernel
theorem dL_law_728 : decode cL_law 728 = .ok (.iload_n 3, 1) := by decide +kernel
theorem dL_law_729 : decode cL_law 729 = .ok (.iconst 1, 1) := by decide +kernel
theorem dL_law_730 : decode cL_law 730 = .ok (.iadd, 1) := by decide +kernel
theorem dL_law_731 : decode cL_law 731 = .ok (.iaload, 1) := by decide +kernel
theorem dL_law_732 : decode cL_law 732 = .ok (.aload_n 0, 1) := by decide +kernel
theorem dL_law_733 : decode cL_law 733 = .ok (.iload_n 3, 1) := by decide +kernel
theorem dL_law_734 : decode cL_law 734 = .ok (.iconst 2, 1) := by decide +kernel
theorem dL_law_735 : decode cL_law 735 = .ok (.iadd, 1) := by decide +kernel
theorem dL_law_736 : decode cL_law 736 = .ok (.iaload, 1) := by decide +kernel
theorem dL_law_737 : decode cL_law 737 = .ok (.invokevirtual 82, 3) := by decide +kernel
theorem dL_law_740 : decode cL_law 740 = .ok (.if_icmp .eq 311, 3) := by decide +kernel
theorem dL_law_743 : decode cL_law 743 = .ok (.iconst 0, 1) := by decide +kernel
theorem dL_law_744 : decode cL_law 744 = .ok (.ireturn, 1) := by decide +kernel
theorem dL_law_745 : decode cL_law 745 = .ok (.aload_n 1, 1) := by decide +kernel
theorem dL_law_746 : decode cL_law 746 = .ok (.aload_n 0, 1) := by decide +kernel
theorem dL_law_747 : decode cL_law 747 = .ok (.iload_n 3, 1) := by decide +kernel
theorem dL_law_748 : decode cL_law 748 = .ok (.iconst 1, 1) := by decide +kernel
theorem dL_law_749 : decode cL_law 749 = .ok (.iadd, 1) := by decide +kernel
theorem dL_law_750 : decode cL_law 750 = .ok (.iaload, 1) := by decide +kernel
theorem dL_law_751 : decode cL_law 751 = .ok (.aload_n 0, 1) := by decide +kernel
theorem dL_law_752 : decode cL_law 752 = .ok (.iload_n 3, 1) := by decide +kernel
theorem dL_law_753 : decode cL_law 753 = .ok (.iconst 2, 1) := by decide +kernel
theorem dL_law_754 : decode cL_law 754 = .ok (.iadd, 1) := by decide +kernel
theorem dL_law_755 : decode cL_law 755 = .ok (.iaload, 1) := by decide +kernel
theorem dL_law_756 : decode cL_law 756 = .ok (.invokevirtual 83, 3) := by decide +kernel
theorem dL_law_759 : decode cL_law 759 = .ok (.aload_n 2, 1) := by decide +kernel
theorem dL_law_760 : decode cL_law 760 = .ok (.aload_n 0, 1) := by decide +kernel
theorem dL_law_761 : decode cL_law 761 = .ok (.iload_n 3, 1) := by decide +kernel
theorem dL_law_762 : decode cL_law 762 = .ok (.iconst 1, 1) := by decide +kernel
theorem dL_law_763 : decode cL_law 763 = .ok (.iadd, 1) := by decide +kernel
theorem dL_law_764 : decode cL_law 764 = .ok (.iaload, 1) := by decide +kernel
theorem dL_law_765 : decode cL_law 765 = .ok (.aload_n 0, 1) := by decide +kernel
theorem dL_law_766 : decode cL_law 766 = .ok (.iload_n 3, 1) := by decide +kernel
theorem dL_law_767 : decode cL_law 767 = .ok (.iconst 2, 1) := by decide +kernel
theorem dL_law_768 : decode cL_law 768 = .ok (.iadd, 1) := by decide +kernel
theorem dL_law_769 : decode cL_law 769 = .ok (.iaload, 1) := by decide +kernel
theorem dL_law_770 : decode cL_law 770 = .ok (.invokevirtual 86, 3) := by decide +kernel
theorem dL_law_773 : decode cL_law 773 = .ok (.if_icmp .eq 278, 3) := by decide +kernel
theorem dL_law_776 : decode cL_law 776 = .ok (.iconst 0, 1) := by decide +kernel
theorem dL_law_777 : decode cL_law 777 = .ok (.ireturn, 1) := by decide +kernel
theorem dL_law_778 : decode cL_law 778 = .ok (.aload_n 1, 1) := by decide +kernel
theorem dL_law_779 : decode cL_law 779 = .ok (.aload_n 0, 1) := by decide +kernel
theorem dL_law_780 : decode cL_law 780 = .ok (.iload_n 3, 1) := by decide +kernel
theorem dL_law_781 : decode cL_law 781 = .ok (.iconst 1, 1) := by decide +kernel
theorem dL_law_782 : decode cL_law 782 = .ok (.iadd, 1) := by decide +kernel
theorem dL_law_783 : decode cL_law 783 = .ok (.iaload, 1) := by decide +kernel
theorem dL_law_784 : decode cL_law 784 = .ok (.invokevirtual 87, 3) := by decide +kernel
theorem dL_law_787 : decode cL_law 787 = .ok (.aload_n 2, 1) := by decide +kernel
theorem dL_law_788 : decode cL_law 788 = .ok (.aload_n 0, 1) := by decide +kernel
theorem dL_law_789 : decode cL_law 789 = .ok (.iload_n 3, 1) := by decide +kernel
theorem dL_law_790 : decode cL_law 790 = .ok (.iconst 1, 1) := by decide +kernel
theorem dL_law_791 : decode cL_law 791 = .ok (.iadd, 1) := by decide +kernel
theorem dL_law_792 : decode cL_law 792 = .ok (.iaload, 1) := by decide +kernel
theorem dL_law_793 : decode cL_law 793 = .ok (.invokevirtual 90, 3) := by decide +kernel
theorem dL_law_796 : decode cL_law 796 = .ok (.if_icmp .eq 255, 3) := by decide +kernel
theorem dL_law_799 : decode cL_law 799 = .ok (.iconst 0, 1) := by decide +kernel
theorem dL_law_800 : decode cL_law 800 = .ok (.ireturn, 1) := by decide +kernel
theorem dL_law_801 : decode cL_law 801 = .ok (.aload_n 1, 1) := by decide +kernel
theorem dL_law_802 : decode cL_law 802 = .ok (.aload_n 0, 1) := by decide +kernel
theorem dL_law_803 : decode cL_law 803 = .ok (.iload_n 3, 1) := by decide +kernel
theorem dL_law_804 : decode cL_law 804 = .ok (.iconst 1, 1) := by decide +kernel
theorem dL_law_805 : decode cL_law 805 = .ok (.iadd, 1) := by decide +kernel
theorem dL_law_806 : decode cL_law 806 = .ok (.iaload, 1) := by decide +kernel
theorem dL_law_807 : decode cL_law 807 = .ok (.aload_n 0, 1) := by decide +kernel
theorem dL_law_808 : decode cL_law 808 = .ok (.iload_n 3, 1) := by decide +kernel
theorem dL_law_809 : decode cL_law 809 = .ok (.iconst 2, 1) := by decide +kernel
theorem dL_law_810 : decode cL_law 810 = .ok (.iadd, 1) := by decide +kernel
theorem dL_law_811 : decode cL_law 811 = .ok (.iaload, 1) := by decide +kernel
theorem dL_law_812 : decode cL_law 812 = .ok (.invokevirtual 91, 3) := by decide +kernel
theorem dL_law_815 : decode cL_law 815 = .ok (.aload_n 2, 1) := by decide +kernel
theorem dL_law_816 : decode cL_law 816 = .ok (.aload_n 0, 1) := by decide +kernel
theorem dL_law_817 : decode cL_law 817 = .ok (.iload_n 3, 1) := by decide +kernel
theorem dL_law_818 : decode cL_law 818 = .ok (.iconst 1, 1) := by decide +kernel
theorem dL_law_819 : decode cL_law 819 = .ok (.iadd, 1) := by decide +kernel
theorem dL_law_820 : decode cL_law 820 = .ok (.iaload, 1) := by decide +kernel
theorem dL_law_821 : decode cL_law 821 = .ok (.aload_n 0, 1) := by decide +kernel
theorem dL_law_822 : decode cL_law 822 = .ok (.iload_n 3, 1) := by decide +kernel
theorem dL_law_823 : decode cL_law 823 = .ok (.iconst 2, 1) := by decide +kernel
theorem dL_law_824 : decode cL_law 824 = .ok (.iadd, 1) := by decide +kernel
theorem dL_law_825 : decode cL_law 825 = .ok (.iaload, 1) := by decide +kernel
theorem dL_law_826 : decode cL_law 826 = .ok (.invokevirtual 94, 3) := by decide +kernel
theorem dL_law_829 : decode cL_law 829 = .ok (.if_icmp .eq 222, 3) := by decide +kernel
theorem dL_law_832 : decode cL_law 832 = .ok (.iconst 0, 1) := by decide +kernel
theorem dL_law_833 : decode cL_law 833 = .ok (.ireturn, 1) := by decide +kernel
theorem dL_law_834 : decode cL_law 834 = .ok (.aload_n 1, 1) := by decide +kernel
theorem dL_law_835 : decode cL_law 835 = .ok (.aload_n 0, 1) := by decide +kernel
theorem dL_law_836 : decode cL_law 836 = .ok (.iload_n 3, 1) := by decide +kernel
theorem dL_law_837 : decode cL_law 837 = .ok (.iconst 1, 1) := by decide +kernel
theorem dL_law_838 : decode cL_law 838 = .ok (.iadd, 1) := by decide +kernel
theorem dL_law_839 : decode cL_law 839 = .ok (.iaload, 1) := by decide +kernel
theorem dL_law_840 : decode cL_law 840 = .ok (.aload_n 0, 1) := by decide +kernel
theorem dL_law_841 : decode cL_law 841 = .ok (.iload_n 3, 1) := by decide +kernel
theorem dL_law_842 : decode cL_law 842 = .ok (.iconst 2, 1) := by decide +kernel
theorem dL_law_843 : decode cL_law 843 = .ok (.iadd, 1) := by decide +kernel
theorem dL_law_844 : decode cL_law 844 = .ok (.iaload, 1) := by decide +kernel
theorem dL_law_845 : decode cL_law 845 = .ok (.invokevirtual 95, 3) := by decide +kernel
theorem dL_law_848 : decode cL_law 848 = .ok (.aload_n 2, 1) := by decide +kernel
theorem dL_law_849 : decode cL_law 849 = .ok (.aload_n 0, 1) := by decide +kernel
theorem dL_law_850 : decode cL_law 850 = .ok (.iload_n 3, 1) := by decide +kernel
theorem dL_law_851 : decode cL_law 851 = .ok (.iconst 1, 1) := by decide +kernel
theorem dL_law_852 : decode cL_law 852 = .ok (.iadd, 1) := by decide +kernel
theorem dL_law_853 : decode cL_law 853 = .ok (.iaload, 1) := by decide +kernel
theorem dL_law_854 : decode cL_law 854 = .ok (.aload_n 0, 1) := by decide +kernel
theorem dL_law_855 : decode cL_law 855 = .ok (.iload_n 3, 1) := by decide +kernel
theorem dL_law_856 : decode cL_law 856 = .ok (.iconst 2, 1) := by decide +kernel
theorem dL_law_857 : decode cL_law 857 = .ok (.iadd, 1) := by decide +kernel
theorem dL_law_858 : decode cL_law 858 = .ok (.iaload, 1) := by decide +kernel
theorem dL_law_859 : decode cL_law 859 = .ok (.invokevirtual 98, 3) := by decide +kernel
theorem dL_law_862 : decode cL_law 862 = .ok (.if_icmp .eq 189, 3) := by decide +kernel
theorem dL_law_865 : decode cL_law 865 = .ok (.iconst 0, 1) := by decide +kernel
theorem dL_law_866 : decode cL_law 866 = .ok (.ireturn, 1) := by decide +kernel
theorem dL_law_867 : decode cL_law 867 = .ok (.aload_n 1, 1) := by decide +kernel
theorem dL_law_868 : decode cL_law 868 = .ok (.aload_n 0, 1) := by decide +kernel
theorem dL_law_869 : decode cL_law 869 = .ok (.iload_n 3, 1) := by decide +kernel
theorem dL_law_870 : decode cL_law 870 = .ok (.iconst 1, 1) := by decide +kernel
theorem dL_law_871 : decode cL_law 871 = .ok (.iadd, 1) := by decide +kernel
theorem dL_law_872 : decode cL_law 872 = .ok (.iaload, 1) := by decide +kernel
theorem dL_law_873 : decode cL_law 873 = .ok (.aload_n 0, 1) := by decide +kernel
theorem dL_law_874 : decode cL_law 874 = .ok (.iload_n 3, 1) := by decide +kernel
theorem dL_law_875 : decode cL_law 875 = .ok (.iconst 2, 1) := by decide +kernel
theorem dL_law_876 : decode cL_law 876 = .ok (.iadd, 1) := by decide +kernel
theorem dL_law_877 : decode cL_law 877 = .ok (.iaload, 1) := by decide +kernel
theorem dL_law_878 : decode cL_law 878 = .ok (.invokevirtual 99, 3) := by decide +kernel
theorem dL_law_881 : decode cL_law 881 = .ok (.aload_n 2, 1) := by decide +kernel
theorem dL_law_882 : decode cL_law 882 = .ok (.aload_n 0, 1) := by decide +kernel
theorem dL_law_883 : decode cL_law 883 = .ok (.iload_n 3, 1) := by decide +kernel
theorem dL_law_884 : decode cL_law 884 = .ok (.iconst 1, 1) := by decide +kernel
theorem dL_law_885 : decode cL_law 885 = .ok (.iadd, 1) := by decide +kernel
theorem dL_law_886 : decode cL_law 886 = .ok (.iaload, 1) := by decide +kernel
theorem dL_law_887 : decode cL_law 887 = .ok (.aload_n 0, 1) := by decide +kernel
theorem dL_law_888 : decode cL_law 888 = .ok (.iload_n 3, 1) := by decide +kernel
theorem dL_law_889 : decode cL_law 889 = .ok (.iconst 2, 1) := by decide +kernel
theorem dL_law_890 : decode cL_law 890 = .ok (.iadd, 1) := by decide +kernel
theorem dL_law_891 : decode cL_law 891 = .ok (.iaload, 1) := by decide +kernel
theorem dL_law_892 : decode cL_law 892 = .ok (.invokevirtual 102, 3) := by decide +kernel
theorem dL_law_895 : decode cL_law 895 = .ok (.if_icmp .eq 156, 3) := by decide +kernel
theorem dL_law_898 : decode cL_law 898 = .ok (.iconst 0, 1) := by decide +kernel
theorem dL_law_899 : decode cL_law 899 = .ok (.ireturn, 1) := by decide +kernel
theorem dL_law_900 : decode cL_law 900 = .ok (.aload_n 1, 1) := by decide +kernel
theorem dL_law_901 : decode cL_law 901 = .ok (.aload_n 0, 1) := by decide +kernel
theorem dL_law_902 : decode cL_law 902 = .ok (.iload_n 3, 1) := by decide +kernel
theorem dL_law_903 : decode cL_law 903 = .ok (.iconst 1, 1) := by decide +kernel
theorem dL_law_904 : decode cL_law 904 = .ok (.iadd, 1) := by decide +kernel
theorem dL_law_905 : decode cL_law 905 = .ok (.iaload, 1) := by decide +kernel
theorem dL_law_906 : decode cL_law 906 = .ok (.aload_n 0, 1) := by decide +kernel
theorem dL_law_907 : decode cL_law 907 = .ok (.iload_n 3, 1) := by decide +kernel
theorem dL_law_908 : decode cL_law 908 = .ok (.iconst 2, 1) := by decide +kernel
theorem dL_law_909 : decode cL_law 909 = .ok (.iadd, 1) := by decide +kernel
theorem dL_law_910 : decode cL_law 910 = .ok (.iaload, 1) := by decide +kernel
theorem dL_law_911 : decode cL_law 911 = .ok (.aload_n 0, 1) := by decide +kernel
theorem dL_law_912 : decode cL_law 912 = .ok (.iload_n 3, 1) := by decide +kernel
theorem dL_law_913 : decode cL_law 913 = .ok (.iconst 3, 1) := by decide +kernel
theorem dL_law_914 : decode cL_law 914 = .ok (.iadd, 1) := by decide +kernel
theorem dL_law_915 : decode cL_law 915 = .ok (.iaload, 1) := by decide +kernel
theorem dL_law_916 : decode cL_law 916 = .ok (.invokevirtual 103, 3) := by decide +kernel
theorem dL_law_919 : decode cL_law 919 = .ok (.aload_n 2, 1) := by decide +kernel
theorem dL_law_920 : decode cL_law 920 = .ok (.aload_n 0, 1) := by decide +kernel
theorem dL_law_921 : decode cL_law 921 = .ok (.iload_n 3, 1) := by decide +kernel
theorem dL_law_922 : decode cL_law 922 = .ok (.iconst 1, 1) := by decide +kernel
theorem dL_law_923 : decode cL_law 923 = .ok (.iadd, 1) := by decide +kernel
theorem dL_law_924 : decode cL_law 924 = .ok (.iaload, 1) := by decide +kernel
theorem dL_law_925 : decode cL_law 925 = .ok (.aload_n 0, 1) := by decide +kernel
theorem dL_law_926 : decode cL_law 926 = .ok (.iload_n 3, 1) := by decide +kernel
theorem dL_law_927 : decode cL_law 927 = .ok (.iconst 2, 1) := by decide +kernel
theorem dL_law_928 : decode cL_law 928 = .ok (.iadd, 1) := by decide +kernel
theorem dL_law_929 : decode cL_law 929 = .ok (.iaload, 1) := by decide +kernel
theorem dL_law_930 : decode cL_law 930 = .ok (.aload_n 0, 1) := by decide +kernel
theorem dL_law_931 : decode cL_law 931 = .ok (.iload_n 3, 1) := by decide +kernel
theorem dL_law_932 : decode cL_law 932 = .ok (.iconst 3, 1) := by decide +kernel
theorem dL_law_933 : decode cL_law 933 = .ok (.iadd, 1) := by decide +kernel
theorem dL_law_934 : decode cL_law 934 = .ok (.iaload, 1) := by decide +kernel
theorem dL_law_935 : decode cL_law 935 = .ok (.invokevirtual 106, 3) := by decide +kernel
theorem dL_law_938 : decode cL_law 938 = .ok (.if_icmp .eq 113, 3) := by decide +kernel
theorem dL_law_941 : decode cL_law 941 = .ok (.iconst 0, 1) := by decide +kernel
theorem dL_law_942 : decode cL_law 942 = .ok (.ireturn, 1) := by decide +kernel
theorem dL_law_943 : decode cL_law 943 = .ok (.aload_n 1, 1) := by decide +kernel
theorem dL_law_944 : decode cL_law 944 = .ok (.invokevirtual 107, 3) := by decide +kernel
theorem dL_law_947 : decode cL_law 947 = .ok (.aload_n 2, 1) := by decide +kernel
theorem dL_law_948 : decode cL_law 948 = .ok (.invokevirtual 110, 3) := by decide +kernel
theorem dL_law_951 : decode cL_law 951 = .ok (.if_icmp .eq 100, 3) := by decide +kernel
theorem dL_law_954 : decode cL_law 954 = .ok (.iconst 0, 1) := by decide +kernel
theorem dL_law_955 : decode cL_law 955 = .ok (.ireturn, 1) := by decide +kernel
theorem dL_law_956 : decode cL_law 956 = .ok (.aload_n 1, 1) := by decide +kernel
theorem dL_law_957 : decode cL_law 957 = .ok (.aload_n 0, 1) := by decide +kernel
theorem dL_law_958 : decode cL_law 958 = .ok (.iload_n 3, 1) := by decide +kernel
theorem dL_law_959 : decode cL_law 959 = .ok (.iconst 1, 1) := by decide +kernel
theorem dL_law_960 : decode cL_law 960 = .ok (.iadd, 1) := by decide +kernel
theorem dL_law_961 : decode cL_law 961 = .ok (.iaload, 1) := by decide +kernel
theorem dL_law_962 : decode cL_law 962 = .ok (.invokevirtual 111, 3) := by decide +kernel
theorem dL_law_965 : decode cL_law 965 = .ok (.aload_n 2, 1) := by decide +kernel
theorem dL_law_966 : decode cL_law 966 = .ok (.aload_n 0, 1) := by decide +kernel
theorem dL_law_967 : decode cL_law 967 = .ok (.iload_n 3, 1) := by decide +kernel
theorem dL_law_968 : decode cL_law 968 = .ok (.iconst 1, 1) := by decide +kernel
theorem dL_law_969 : decode cL_law 969 = .ok (.iadd, 1) := by decide +kernel
theorem dL_law_970 : decode cL_law 970 = .ok (.iaload, 1) := by decide +kernel
theorem dL_law_971 : decode cL_law 971 = .ok (.invokevirtual 114, 3) := by decide +kernel
theorem dL_law_974 : decode cL_law 974 = .ok (.if_icmp .eq 77, 3) := by decide +kernel
theorem dL_law_977 : decode cL_law 977 = .ok (.iconst 0, 1) := by decide +kernel
theorem dL_law_978 : decode cL_law 978 = .ok (.ireturn, 1) := by decide +kernel
theorem dL_law_979 : decode cL_law 979 = .ok (.aload_n 1, 1) := by decide +kernel
theorem dL_law_980 : decode cL_law 980 = .ok (.aload_n 0, 1) := by decide +kernel
theorem dL_law_981 : decode cL_law 981 = .ok (.iload_n 3, 1) := by decide +kernel
theorem dL_law_982 : decode cL_law 982 = .ok (.iconst 1, 1) := by decide +kernel
theorem dL_law_983 : decode cL_law 983 = .ok (.iadd, 1) := by decide +kernel
theorem dL_law_984 : decode cL_law 984 = .ok (.iaload, 1) := by decide +kernel
theorem dL_law_985 : decode cL_law 985 = .ok (.invokevirtual 115, 3) := by decide +kernel
theorem dL_law_988 : decode cL_law 988 = .ok (.aload_n 2, 1) := by decide +kernel
theorem dL_law_989 : decode cL_law 989 = .ok (.aload_n 0, 1) := by decide +kernel
theorem dL_law_990 : decode cL_law 990 = .ok (.iload_n 3, 1) := by decide +kernel
theorem dL_law_991 : decode cL_law 991 = .ok (.iconst 1, 1) := by decide +kernel
theorem dL_law_992 : decode cL_law 992 = .ok (.iadd, 1) := by decide +kernel
theorem dL_law_993 : decode cL_law 993 = .ok (.iaload, 1) := by decide +kernel
theorem dL_law_994 : decode cL_law 994 = .ok (.invokevirtual 118, 3) := by decide +kernel
theorem dL_law_997 : decode cL_law 997 = .ok (.if_icmp .eq 54, 3) := by decide +kernel
theorem dL_law_1000 : decode cL_law 1000 = .ok (.iconst 0, 1) := by decide +kernel
theorem dL_law_1001 : decode cL_law 1001 = .ok (.ireturn, 1) := by decide +kernel
theorem dL_law_1002 : decode cL_law 1002 = .ok (.aload_n 1, 1) := by decide +kernel
theorem dL_law_1003 : decode cL_law 1003 = .ok (.invokevirtual 119, 3) := by decide +kernel
theorem dL_law_1006 : decode cL_law 1006 = .ok (.aload_n 2, 1) := by decide +kernel
theorem dL_law_1007 : decode cL_law 1007 = .ok (.invokevirtual 122, 3) := by decide +kernel
theorem dL_law_1010 : decode cL_law 1010 = .ok (.if_icmp .eq 41, 3) := by decide +kernel
theorem dL_law_1013 : decode cL_law 1013 = .ok (.iconst 0, 1) := by decide +kernel
theorem dL_law_1014 : decode cL_law 1014 = .ok (.ireturn, 1) := by decide +kernel
theorem dL_law_1015 : decode cL_law 1015 = .ok (.aload_n 1, 1) := by decide +kernel
theorem dL_law_1016 : decode cL_law 1016 = .ok (.invokevirtual 123, 3) := by decide +kernel
theorem dL_law_1019 : decode cL_law 1019 = .ok (.aload_n 2, 1) := by decide +kernel
theorem dL_law_1020 : decode cL_law 1020 = .ok (.invokevirtual 126, 3) := by decide +kernel
theorem dL_law_1023 : decode cL_law 1023 = .ok (.if_icmp .eq 28, 3) := by decide +kernel
theorem dL_law_1026 : decode cL_law 1026 = .ok (.iconst 0, 1) := by decide +kernel
theorem dL_law_1027 : decode cL_law 1027 = .ok (.ireturn, 1) := by decide +kernel
theorem dL_law_1028 : decode cL_law 1028 = .ok (.aload_n 1, 1) := by decide +kernel
theorem dL_law_1029 : decode cL_law 1029 = .ok (.aload_n 0, 1) := by decide +kernel
theorem dL_law_1030 : decode cL_law 1030 = .ok (.iload_n 3, 1) := by decide +kernel
theorem dL_law_1031 : decode cL_law 1031 = .ok (.iconst 1, 1) := by decide +kernel
theorem dL_law_1032 : decode cL_law 1032 = .ok (.iadd, 1) := by decide +kernel
theorem dL_law_1033 : decode cL_law 1033 = .ok (.iaload, 1) := by decide +kernel
theorem dL_law_1034 : decode cL_law 1034 = .ok (.invokevirtual 127, 3) := by decide +kernel
theorem dL_law_1037 : decode cL_law 1037 = .ok (.aload_n 2, 1) := by decide +kernel
theorem dL_law_1038 : decode cL_law 1038 = .ok (.aload_n 0, 1) := by decide +kernel
theorem dL_law_1039 : decode cL_law 1039 = .ok (.iload_n 3, 1) := by decide +kernel
theorem dL_law_1040 : decode cL_law 1040 = .ok (.iconst 1, 1) := by decide +kernel
theorem dL_law_1041 : decode cL_law 1041 = .ok (.iadd, 1) := by decide +kernel
theorem dL_law_1042 : decode cL_law 1042 = .ok (.iaload, 1) := by decide +kernel
theorem dL_law_1043 : decode cL_law 1043 = .ok (.invokevirtual 130, 3) := by decide +kernel
theorem dL_law_1046 : decode cL_law 1046 = .ok (.if_icmp .eq 5, 3) := by decide +kernel
theorem dL_law_1049 : decode cL_law 1049 = .ok (.iconst 0, 1) := by decide +kernel
theorem dL_law_1050 : decode cL_law 1050 = .ok (.ireturn, 1) := by decide +kernel
theorem dL_law_1051 : decode cL_law 1051 = .ok (.iinc 3 6, 3) := by decide +kernel
theorem dL_law_1054 : decode cL_law 1054 = .ok (.goto (-1036), 3) := by decide +kernel
theorem dL_law_1057 : decode cL_law 1057 = .ok (.iconst 1, 1) := by decide +kernel
theorem dL_law_1058 : decode cL_law 1058 = .ok (.ireturn, 1) := by decide +kernel
