theorem dX0_init_0 : decode cX0_init 0 = .ok (.aload_n 0, 1) := by decide +kernel
theorem dX0_init_1 : decode cX0_init 1 = .ok (.invokespecial 3, 3) := by decide +kernel
theorem dX0_init_4 : decode cX0_init 4 = .ok (.aload_n 0, 1) := by decide +kernel
theorem dX0_init_5 : decode cX0_init 5 = .ok (.iconst 4, 1) := by decide +kernel
theorem dX0_init_6 : decode cX0_init 6 = .ok (.newarray .int, 2) := by decide +kernel
theorem dX0_init_8 : decode cX0_init 8 = .ok (.putfield 9, 3) := by decide +kernel
theorem dX0_init_11 : decode cX0_init 11 = .ok (.aload_n 0, 1) := by decide +kernel
theorem dX0_init_12 : decode cX0_init 12 = .ok (.iconst 4, 1) := by decide +kernel
theorem dX0_init_13 : decode cX0_init 13 = .ok (.newarray .int, 2) := by decide +kernel
theorem dX0_init_15 : decode cX0_init 15 = .ok (.putfield 15, 3) := by decide +kernel
theorem dX0_init_18 : decode cX0_init 18 = .ok (.aload_n 0, 1) := by decide +kernel
theorem dX0_init_19 : decode cX0_init 19 = .ok (.iconst 4, 1) := by decide +kernel
theorem dX0_init_20 : decode cX0_init 20 = .ok (.newarray .int, 2) := by decide +kernel
theorem dX0_init_22 : decode cX0_init 22 = .ok (.putfield 18, 3) := by decide +kernel
theorem dX0_init_25 : decode cX0_init 25 = .ok (.return_, 1) := by decide +kernel
theorem dX0_forget_0 : decode cX0_forget 0 = .ok (.aload_n 0, 1) := by decide +kernel
theorem dX0_forget_1 : decode cX0_forget 1 = .ok (.iconst 0, 1) := by decide +kernel
theorem dX0_forget_2 : decode cX0_forget 2 = .ok (.putfield 21, 3) := by decide +kernel
theorem dX0_forget_5 : decode cX0_forget 5 = .ok (.return_, 1) := by decide +kernel
theorem dX0_rowsFor_0 : decode cX0_rowsFor 0 = .ok (.aload_n 0, 1) := by decide +kernel
theorem dX0_rowsFor_1 : decode cX0_rowsFor 1 = .ok (.iload_n 1, 1) := by decide +kernel
theorem dX0_rowsFor_2 : decode cX0_rowsFor 2 = .ok (.lload_n 2, 1) := by decide +kernel
theorem dX0_rowsFor_3 : decode cX0_rowsFor 3 = .ok (.aload 4, 2) := by decide +kernel
theorem dX0_rowsFor_5 : decode cX0_rowsFor 5 = .ok (.iload 5, 2) := by decide +kernel
theorem dX0_rowsFor_7 : decode cX0_rowsFor 7 = .ok (.invokevirtual 25, 3) := by decide +kernel
theorem dX0_rowsFor_10 : decode cX0_rowsFor 10 = .ok (.aload_n 0, 1) := by decide +kernel
theorem dX0_rowsFor_11 : decode cX0_rowsFor 11 = .ok (.getfield 9, 3) := by decide +kernel
theorem dX0_rowsFor_14 : decode cX0_rowsFor 14 = .ok (.iload_n 1, 1) := by decide +kernel
theorem dX0_rowsFor_15 : decode cX0_rowsFor 15 = .ok (.iaload, 1) := by decide +kernel
theorem dX0_rowsFor_16 : decode cX0_rowsFor 16 = .ok (.ireturn, 1) := by decide +kernel
theorem dX0_sureSecretsFor_0 : decode cX0_sureSecretsFor 0 = .ok (.aload_n 0, 1) := by decide +kernel
theorem dX0_sureSecretsFor_1 : decode cX0_sureSecretsFor 1 = .ok (.iload_n 1, 1) := by decide +kernel
theorem dX0_sureSecretsFor_2 : decode cX0_sureSecretsFor 2 = .ok (.lload_n 2, 1) := by decide +kernel
theorem dX0_sureSecretsFor_3 : decode cX0_sureSecretsFor 3 = .ok (.aload 4, 2) := by decide +kernel
theorem dX0_sureSecretsFor_5 : decode cX0_sureSecretsFor 5 = .ok (.iload 5, 2) := by decide +kernel
theorem dX0_sureSecretsFor_7 : decode cX0_sureSecretsFor 7 = .ok (.invokevirtual 25, 3) := by decide +kernel
theorem dX0_sureSecretsFor_10 : decode cX0_sureSecretsFor 10 = .ok (.aload_n 0, 1) := by decide +kernel
theorem dX0_sureSecretsFor_11 : decode cX0_sureSecretsFor 11 = .ok (.getfield 15, 3) := by decide +kernel
theorem dX0_sureSecretsFor_14 : decode cX0_sureSecretsFor 14 = .ok (.iload_n 1, 1) := by decide +kernel
theorem dX0_sureSecretsFor_15 : decode cX0_sureSecretsFor 15 = .ok (.iaload, 1) := by decide +kernel
theorem dX0_sureSecretsFor_16 : decode cX0_sureSecretsFor 16 = .ok (.ireturn, 1) := by decide +kernel
theorem dX0_find_0 : decode cX0_find 0 = .ok (.aload_n 0, 1) := by decide +kernel
theorem dX0_find_1 : decode cX0_find 1 = .ok (.getfield 21, 3) := by decide +kernel
theorem dX0_find_4 : decode cX0_find 4 = .ok (.iload_n 1, 1) := by decide +kernel
theorem dX0_find_5 : decode cX0_find 5 = .ok (.invokestatic 29, 3) := by decide +kernel
theorem dX0_find_8 : decode cX0_find 8 = .ok (.ifCond .eq 4, 3) := by decide +kernel
theorem dX0_find_11 : decode cX0_find 11 = .ok (.return_, 1) := by decide +kernel
theorem dX0_find_12 : decode cX0_find 12 = .ok (.aload_n 0, 1) := by decide +kernel
theorem dX0_find_13 : decode cX0_find 13 = .ok (.iload 5, 2) := by decide +kernel
theorem dX0_find_15 : decode cX0_find 15 = .ok (.iconst 4, 1) := by decide +kernel
theorem dX0_find_16 : decode cX0_find 16 = .ok (.invokestatic 33, 3) := by decide +kernel
theorem dX0_find_19 : decode cX0_find 19 = .ok (.putfield 39, 3) := by decide +kernel
theorem dX0_find_22 : decode cX0_find 22 = .ok (.iconst 0, 1) := by decide +kernel
theorem dX0_find_23 : decode cX0_find 23 = .ok (.istore 6, 2) := by decide +kernel
theorem dX0_find_25 : decode cX0_find 25 = .ok (.iload 6, 2) := by decide +kernel
theorem dX0_find_27 : decode cX0_find 27 = .ok (.aload_n 0, 1) := by decide +kernel
theorem dX0_find_28 : decode cX0_find 28 = .ok (.getfield 39, 3) := by decide +kernel
theorem dX0_find_31 : decode cX0_find 31 = .ok (.if_icmp .ge 51, 3) := by decide +kernel
theorem dX0_find_34 : decode cX0_find 34 = .ok (.aload 4, 2) := by decide +kernel
theorem dX0_find_36 : decode cX0_find 36 = .ok (.iload 6, 2) := by decide +kernel
theorem dX0_find_38 : decode cX0_find 38 = .ok (.aaload, 1) := by decide +kernel
theorem dX0_find_39 : decode cX0_find 39 = .ok (.astore 7, 2) := by decide +kernel
theorem dX0_find_41 : decode cX0_find 41 = .ok (.aload_n 0, 1) := by decide +kernel
theorem dX0_find_42 : decode cX0_find 42 = .ok (.getfield 18, 3) := by decide +kernel
theorem dX0_find_45 : decode cX0_find 45 = .ok (.iload 6, 2) := by decide +kernel
theorem dX0_find_47 : decode cX0_find 47 = .ok (.aload 7, 2) := by decide +kernel
theorem dX0_find_49 : decode cX0_find 49 = .ok (.ifnonnull 7, 3) := by decide +kernel
theorem dX0_find_52 : decode cX0_find 52 = .ok (.iconst 0, 1) := by decide +kernel
theorem dX0_find_53 : decode cX0_find 53 = .ok (.goto 22, 3) := by decide +kernel
theorem dX0_find_56 : decode cX0_find 56 = .ok (.iload_n 1, 1) := by decide +kernel
theorem dX0_find_57 : decode cX0_find 57 = .ok (.aload 7, 2) := by decide +kernel
theorem dX0_find_59 : decode cX0_find 59 = .ok (.getfield 42, 3) := by decide +kernel
theorem dX0_find_62 : decode cX0_find 62 = .ok (.aload 7, 2) := by decide +kernel
theorem dX0_find_64 : decode cX0_find 64 = .ok (.getfield 47, 3) := by decide +kernel
theorem dX0_find_67 : decode cX0_find 67 = .ok (.aload 7, 2) := by decide +kernel
theorem dX0_find_69 : decode cX0_find 69 = .ok (.getfield 50, 3) := by decide +kernel
theorem dX0_find_72 : decode cX0_find 72 = .ok (.invokestatic 54, 3) := by decide +kernel
theorem dX0_find_75 : decode cX0_find 75 = .ok (.iastore, 1) := by decide +kernel
theorem dX0_find_76 : decode cX0_find 76 = .ok (.iinc 6 1, 3) := by decide +kernel
theorem dX0_find_79 : decode cX0_find 79 = .ok (.goto (-54), 3) := by decide +kernel
theorem dX0_find_82 : decode cX0_find 82 = .ok (.aload_n 0, 1) := by decide +kernel
theorem dX0_find_83 : decode cX0_find 83 = .ok (.getfield 9, 3) := by decide +kernel
theorem dX0_find_86 : decode cX0_find 86 = .ok (.iload_n 1, 1) := by decide +kernel
theorem dX0_find_87 : decode cX0_find 87 = .ok (.iconst 0, 1) := by decide +kernel
theorem dX0_find_88 : decode cX0_find 88 = .ok (.iastore, 1) := by decide +kernel
theorem dX0_find_89 : decode cX0_find 89 = .ok (.aload_n 0, 1) := by decide +kernel
theorem dX0_find_90 : decode cX0_find 90 = .ok (.getfield 15, 3) := by decide +kernel
theorem dX0_find_93 : decode cX0_find 93 = .ok (.iload_n 1, 1) := by decide +kernel
theorem dX0_find_94 : decode cX0_find 94 = .ok (.ldc 58, 2) := by decide +kernel
theorem dX0_find_96 : decode cX0_find 96 = .ok (.iastore, 1) := by decide +kernel
theorem dX0_find_97 : decode cX0_find 97 = .ok (.aload_n 0, 1) := by decide +kernel
theorem dX0_find_98 : decode cX0_find 98 = .ok (.iload_n 1, 1) := by decide +kernel
theorem dX0_find_99 : decode cX0_find 99 = .ok (.lload_n 2, 1) := by decide +kernel
theorem dX0_find_100 : decode cX0_find 100 = .ok (.iconst 0, 1) := by decide +kernel
theorem dX0_find_101 : decode cX0_find 101 = .ok (.invokevirtual 59, 3) := by decide +kernel
theorem dX0_find_104 : decode cX0_find 104 = .ok (.aload_n 0, 1) := by decide +kernel
theorem dX0_find_105 : decode cX0_find 105 = .ok (.dup, 1) := by decide +kernel
theorem dX0_find_106 : decode cX0_find 106 = .ok (.getfield 21, 3) := by decide +kernel
theorem dX0_find_109 : decode cX0_find 109 = .ok (.iconst 1, 1) := by decide +kernel
theorem dX0_find_110 : decode cX0_find 110 = .ok (.iload_n 1, 1) := by decide +kernel
theorem dX0_find_111 : decode cX0_find 111 = .ok (.ishl, 1) := by decide +kernel
theorem dX0_find_112 : decode cX0_find 112 = .ok (.ior, 1) := by decide +kernel
theorem dX0_find_113 : decode cX0_find 113 = .ok (.putfield 21, 3) := by decide +kernel
theorem dX0_find_116 : decode cX0_find 116 = .ok (.return_, 1) := by decide +kernel
theorem dX0_follow_0 : decode cX0_follow 0 = .ok (.iload 4, 2) := by decide +kernel
theorem dX0_follow_2 : decode cX0_follow 2 = .ok (.aload_n 0, 1) := by decide +kernel
theorem dX0_follow_3 : decode cX0_follow 3 = .ok (.getfield 39, 3) := by decide +kernel
theorem dX0_follow_6 : decode cX0_follow 6 = .ok (.if_icmp .ge 9, 3) := by decide +kernel
theorem dX0_follow_9 : decode cX0_follow 9 = .ok (.iload 4, 2) := by decide +kernel
theorem dX0_follow_11 : decode cX0_follow 11 = .ok (.iconst 4, 1) := by decide +kernel
theorem dX0_follow_12 : decode cX0_follow 12 = .ok (.if_icmp .lt 27, 3) := by decide +kernel
theorem dX0_follow_15 : decode cX0_follow 15 = .ok (.aload_n 0, 1) := by decide +kernel
theorem dX0_follow_16 : decode cX0_follow 16 = .ok (.getfield 9, 3) := by decide +kernel
theorem dX0_follow_19 : decode cX0_follow 19 = .ok (.iload_n 1, 1) := by decide +kernel
theorem dX0_follow_20 : decode cX0_follow 20 = .ok (.dup2, 1) := by decide +kernel
theorem dX0_follow_21 : decode cX0_follow 21 = .ok (.iaload, 1) := by decide +kernel
theorem dX0_follow_22 : decode cX0_follow 22 = .ok (.iconst 1, 1) := by decide +kernel
theorem dX0_follow_23 : decode cX0_follow 23 = .ok (.iadd, 1) := by decide +kernel
theorem dX0_follow_24 : decode cX0_follow 24 = .ok (.iastore, 1) := by decide +kernel
theorem dX0_follow_25 : decode cX0_follow 25 = .ok (.aload_n 0, 1) := by decide +kernel
theorem dX0_follow_26 : decode cX0_follow 26 = .ok (.getfield 15, 3) := by decide +kernel
theorem dX0_follow_29 : decode cX0_follow 29 = .ok (.iload_n 1, 1) := by decide +kernel
theorem dX0_follow_30 : decode cX0_follow 30 = .ok (.dup2, 1) := by decide +kernel
theorem dX0_follow_31 : decode cX0_follow 31 = .ok (.iaload, 1) := by decide +kernel
theorem dX0_follow_32 : decode cX0_follow 32 = .ok (.lload_n 2, 1) := by decide +kernel
theorem dX0_follow_33 : decode cX0_follow 33 = .ok (.invokestatic 63, 3) := by decide +kernel
theorem dX0_follow_36 : decode cX0_follow 36 = .ok (.iand, 1) := by decide +kernel
theorem dX0_follow_37 : decode cX0_follow 37 = .ok (.iastore, 1) := by decide +kernel
theorem dX0_follow_38 : decode cX0_follow 38 = .ok (.return_, 1) := by decide +kernel
theorem dX0_follow_39 : decode cX0_follow 39 = .ok (.lload_n 2, 1) := by decide +kernel
theorem dX0_follow_40 : decode cX0_follow 40 = .ok (.invokestatic 69, 3) := by decide +kernel
theorem dX0_follow_43 : decode cX0_follow 43 = .ok (.istore 5, 2) := by decide +kernel
theorem dX0_follow_45 : decode cX0_follow 45 = .ok (.iconst 0, 1) := by decide +kernel
theorem dX0_follow_46 : decode cX0_follow 46 = .ok (.istore 6, 2) := by decide +kernel
theorem dX0_follow_48 : decode cX0_follow 48 = .ok (.iload 6, 2) := by decide +kernel
theorem dX0_follow_50 : decode cX0_follow 50 = .ok (.iload 5, 2) := by decide +kernel
theorem dX0_follow_52 : decode cX0_follow 52 = .ok (.if_icmp .ge 94, 3) := by decide +kernel
theorem dX0_follow_55 : decode cX0_follow 55 = .ok (.lload_n 2, 1) := by decide +kernel
theorem dX0_follow_56 : decode cX0_follow 56 = .ok (.iload 6, 2) := by decide +kernel
theorem dX0_follow_58 : decode cX0_follow 58 = .ok (.invokestatic 72, 3) := by decide +kernel
theorem dX0_follow_61 : decode cX0_follow 61 = .ok (.iconst 1, 1) := by decide +kernel
theorem dX0_follow_62 : decode cX0_follow 62 = .ok (.iload 6, 2) := by decide +kernel
theorem dX0_follow_64 : decode cX0_follow 64 = .ok (.ishl, 1) := by decide +kernel
theorem dX0_follow_65 : decode cX0_follow 65 = .ok (.iconst (-1), 1) := by decide +kernel
theorem dX0_follow_66 : decode cX0_follow 66 = .ok (.ixor, 1) := by decide +kernel
theorem dX0_follow_67 : decode cX0_follow 67 = .ok (.iand, 1) := by decide +kernel
theorem dX0_follow_68 : decode cX0_follow 68 = .ok (.istore 7, 2) := by decide +kernel
theorem dX0_follow_70 : decode cX0_follow 70 = .ok (.iconst 0, 1) := by decide +kernel
theorem dX0_follow_71 : decode cX0_follow 71 = .ok (.istore 8, 2) := by decide +kernel
theorem dX0_follow_73 : decode cX0_follow 73 = .ok (.iload 8, 2) := by decide +kernel
theorem dX0_follow_75 : decode cX0_follow 75 = .ok (.iload 5, 2) := by decide +kernel
theorem dX0_follow_77 : decode cX0_follow 77 = .ok (.if_icmp .ge 63, 3) := by decide +kernel
theorem dX0_follow_80 : decode cX0_follow 80 = .ok (.iload 7, 2) := by decide +kernel
theorem dX0_follow_82 : decode cX0_follow 82 = .ok (.iload 8, 2) := by decide +kernel
theorem dX0_follow_84 : decode cX0_follow 84 = .ok (.invokestatic 29, 3) := by decide +kernel
theorem dX0_follow_87 : decode cX0_follow 87 = .ok (.ifCond .ne 6, 3) := by decide +kernel
theorem dX0_follow_90 : decode cX0_follow 90 = .ok (.goto 44, 3) := by decide +kernel
theorem dX0_follow_93 : decode cX0_follow 93 = .ok (.lload_n 2, 1) := by decide +kernel
theorem dX0_follow_94 : decode cX0_follow 94 = .ok (.iload 6, 2) := by decide +kernel
theorem dX0_follow_96 : decode cX0_follow 96 = .ok (.iload 8, 2) := by decide +kernel
theorem dX0_follow_98 : decode cX0_follow 98 = .ok (.invokestatic 76, 3) := by decide +kernel
theorem dX0_follow_101 : decode cX0_follow 101 = .ok (.lstore 9, 2) := by decide +kernel
theorem dX0_follow_103 : decode cX0_follow 103 = .ok (.iload_n 1, 1) := by decide +kernel
theorem dX0_follow_104 : decode cX0_follow 104 = .ok (.iload 6, 2) := by decide +kernel
theorem dX0_follow_106 : decode cX0_follow 106 = .ok (.iload 8, 2) := by decide +kernel
theorem dX0_follow_108 : decode cX0_follow 108 = .ok (.lload 9, 2) := by decide +kernel
theorem dX0_follow_110 : decode cX0_follow 110 = .ok (.invokestatic 54, 3) := by decide +kernel
theorem dX0_follow_113 : decode cX0_follow 113 = .ok (.aload_n 0, 1) := by decide +kernel
theorem dX0_follow_114 : decode cX0_follow 114 = .ok (.getfield 18, 3) := by decide +kernel
theorem dX0_follow_117 : decode cX0_follow 117 = .ok (.iload 4, 2) := by decide +kernel
theorem dX0_follow_119 : decode cX0_follow 119 = .ok (.iaload, 1) := by decide +kernel
theorem dX0_follow_120 : decode cX0_follow 120 = .ok (.if_icmp .ne 14, 3) := by decide +kernel
theorem dX0_follow_123 : decode cX0_follow 123 = .ok (.aload_n 0, 1) := by decide +kernel
theorem dX0_follow_124 : decode cX0_follow 124 = .ok (.iload_n 1, 1) := by decide +kernel
theorem dX0_follow_125 : decode cX0_follow 125 = .ok (.lload 9, 2) := by decide +kernel
theorem dX0_follow_127 : decode cX0_follow 127 = .ok (.iload 4, 2) := by decide +kernel
theorem dX0_follow_129 : decode cX0_follow 129 = .ok (.iconst 1, 1) := by decide +kernel
theorem dX0_follow_130 : decode cX0_follow 130 = .ok (.iadd, 1) := by decide +kernel
theorem dX0_follow_131 : decode cX0_follow 131 = .ok (.invokevirtual 59, 3) := by decide +kernel
theorem dX0_follow_134 : decode cX0_follow 134 = .ok (.iinc 8 1, 3) := by decide +kernel
theorem dX0_follow_137 : decode cX0_follow 137 = .ok (.goto (-64), 3) := by decide +kernel
theorem dX0_follow_140 : decode cX0_follow 140 = .ok (.iinc 6 1, 3) := by decide +kernel
theorem dX0_follow_143 : decode cX0_follow 143 = .ok (.goto (-95), 3) := by decide +kernel
theorem dX0_follow_146 : decode cX0_follow 146 = .ok (.return_, 1) := by decide +kernel
theorem dX0_sight_0 : decode cX0_sight 0 = .ok (.iload_n 0, 1) := by decide +kernel
theorem dX0_sight_1 : decode cX0_sight 1 = .ok (.iload_n 1, 1) := by decide +kernel
theorem dX0_sight_2 : decode cX0_sight 2 = .ok (.if_icmp .eq 10, 3) := by decide +kernel
theorem dX0_sight_5 : decode cX0_sight 5 = .ok (.iload_n 0, 1) := by decide +kernel
theorem dX0_sight_6 : decode cX0_sight 6 = .ok (.iload_n 2, 1) := by decide +kernel
theorem dX0_sight_7 : decode cX0_sight 7 = .ok (.if_icmp .eq 5, 3) := by decide +kernel
theorem dX0_sight_10 : decode cX0_sight 10 = .ok (.iconst 0, 1) := by decide +kernel
theorem dX0_sight_11 : decode cX0_sight 11 = .ok (.ireturn, 1) := by decide +kernel
theorem dX0_sight_12 : decode cX0_sight 12 = .ok (.lload_n 3, 1) := by decide +kernel
theorem dX0_sight_13 : decode cX0_sight 13 = .ok (.iload_n 0, 1) := by decide +kernel
theorem dX0_sight_14 : decode cX0_sight 14 = .ok (.invokestatic 80, 3) := by decide +kernel
theorem dX0_sight_17 : decode cX0_sight 17 = .ok (.iconst 4, 1) := by decide +kernel
theorem dX0_sight_18 : decode cX0_sight 18 = .ok (.ishl, 1) := by decide +kernel
theorem dX0_sight_19 : decode cX0_sight 19 = .ok (.iload_n 1, 1) := by decide +kernel
theorem dX0_sight_20 : decode cX0_sight 20 = .ok (.iload_n 2, 1) := by decide +kernel
theorem dX0_sight_21 : decode cX0_sight 21 = .ok (.invokestatic 83, 3) := by decide +kernel
theorem dX0_sight_24 : decode cX0_sight 24 = .ok (.ior, 1) := by decide +kernel
theorem dX0_sight_25 : decode cX0_sight 25 = .ok (.ireturn, 1) := by decide +kernel
theorem dX1_init_0 : decode cX1_init 0 = .ok (.aload_n 0, 1) := by decide +kernel
theorem dX1_init_1 : decode cX1_init 1 = .ok (.invokespecial 1, 3) := by decide +kernel
theorem dX1_init_4 : decode cX1_init 4 = .ok (.aload_n 0, 1) := by decide +kernel
theorem dX1_init_5 : decode cX1_init 5 = .ok (.iload_n 1, 1) := by decide +kernel
theorem dX1_init_6 : decode cX1_init 6 = .ok (.putfield 7, 3) := by decide +kernel
theorem dX1_init_9 : decode cX1_init 9 = .ok (.aload_n 0, 1) := by decide +kernel
theorem dX1_init_10 : decode cX1_init 10 = .ok (.iload_n 2, 1) := by decide +kernel
theorem dX1_init_11 : decode cX1_init 11 = .ok (.putfield 13, 3) := by decide +kernel
theorem dX1_init_14 : decode cX1_init 14 = .ok (.aload_n 0, 1) := by decide +kernel
theorem dX1_init_15 : decode cX1_init 15 = .ok (.iload_n 3, 1) := by decide +kernel
theorem dX1_init_16 : decode cX1_init 16 = .ok (.putfield 16, 3) := by decide +kernel
theorem dX1_init_19 : decode cX1_init 19 = .ok (.aload_n 0, 1) := by decide +kernel
theorem dX1_init_20 : decode cX1_init 20 = .ok (.lload 4, 2) := by decide +kernel
theorem dX1_init_22 : decode cX1_init 22 = .ok (.putfield 19, 3) := by decide +kernel
theorem dX1_init_25 : decode cX1_init 25 = .ok (.aload_n 0, 1) := by decide +kernel
theorem dX1_init_26 : decode cX1_init 26 = .ok (.lload 6, 2) := by decide +kernel
theorem dX1_init_28 : decode cX1_init 28 = .ok (.putfield 23, 3) := by decide +kernel
theorem dX1_init_31 : decode cX1_init 31 = .ok (.return_, 1) := by decide +kernel
theorem dX1_kind_0 : decode cX1_kind 0 = .ok (.iconst 0, 1) := by decide +kernel
theorem dX1_kind_1 : decode cX1_kind 1 = .ok (.ireturn, 1) := by decide +kernel
theorem dX1_learntBy_0 : decode cX1_learntBy 0 = .ok (.aload_n 0, 1) := by decide +kernel
theorem dX1_learntBy_1 : decode cX1_learntBy 1 = .ok (.getfield 23, 3) := by decide +kernel
theorem dX1_learntBy_4 : decode cX1_learntBy 4 = .ok (.iload_n 1, 1) := by decide +kernel
theorem dX1_learntBy_5 : decode cX1_learntBy 5 = .ok (.invokestatic 26, 3) := by decide +kernel
theorem dX1_learntBy_8 : decode cX1_learntBy 8 = .ok (.aload_n 0, 1) := by decide +kernel
theorem dX1_learntBy_9 : decode cX1_learntBy 9 = .ok (.getfield 19, 3) := by decide +kernel
theorem dX1_learntBy_12 : decode cX1_learntBy 12 = .ok (.iload_n 1, 1) := by decide +kernel
theorem dX1_learntBy_13 : decode cX1_learntBy 13 = .ok (.invokestatic 26, 3) := by decide +kernel
theorem dX1_learntBy_16 : decode cX1_learntBy 16 = .ok (.iconst (-1), 1) := by decide +kernel
theorem dX1_learntBy_17 : decode cX1_learntBy 17 = .ok (.ixor, 1) := by decide +kernel
theorem dX1_learntBy_18 : decode cX1_learntBy 18 = .ok (.iand, 1) := by decide +kernel
theorem dX1_learntBy_19 : decode cX1_learntBy 19 = .ok (.ireturn, 1) := by decide +kernel
theorem dX1_telling_0 : decode cX1_telling 0 = .ok (.aload_n 0, 1) := by decide +kernel
theorem dX1_telling_1 : decode cX1_telling 1 = .ok (.aload_n 1, 1) := by decide +kernel
theorem dX1_telling_2 : decode cX1_telling 2 = .ok (.invokevirtual 32, 3) := by decide +kernel
theorem dX1_telling_5 : decode cX1_telling 5 = .ok (.ireturn, 1) := by decide +kernel
theorem dX1_plainTelling_0 : decode cX1_plainTelling 0 = .ok (.aload_n 1, 1) := by decide +kernel
theorem dX1_plainTelling_1 : decode cX1_plainTelling 1 = .ok (.iconst 1, 1) := by decide +kernel
theorem dX1_plainTelling_2 : decode cX1_plainTelling 2 = .ok (.invokevirtual 36, 3) := by decide +kernel
theorem dX1_plainTelling_5 : decode cX1_plainTelling 5 = .ok (.bipush 10, 2) := by decide +kernel
theorem dX1_plainTelling_7 : decode cX1_plainTelling 7 = .ok (.aload_n 0, 1) := by decide +kernel
theorem dX1_plainTelling_8 : decode cX1_plainTelling 8 = .ok (.getfield 13, 3) := by decide +kernel
theorem dX1_plainTelling_11 : decode cX1_plainTelling 11 = .ok (.imul, 1) := by decide +kernel
theorem dX1_plainTelling_12 : decode cX1_plainTelling 12 = .ok (.aload_n 0, 1) := by decide +kernel
theorem dX1_plainTelling_13 : decode cX1_plainTelling 13 = .ok (.getfield 16, 3) := by decide +kernel
theorem dX1_plainTelling_16 : decode cX1_plainTelling 16 = .ok (.iadd, 1) := by decide +kernel
theorem dX1_plainTelling_17 : decode cX1_plainTelling 17 = .ok (.ireturn, 1) := by decide +kernel
theorem dX1_logged_0 : decode cX1_logged 0 = .ok (.aload_n 1, 1) := by decide +kernel
theorem dX1_logged_1 : decode cX1_logged 1 = .ok (.iconst 4, 1) := by decide +kernel
theorem dX1_logged_2 : decode cX1_logged 2 = .ok (.invokevirtual 36, 3) := by decide +kernel
theorem dX1_logged_5 : decode cX1_logged 5 = .ok (.aload_n 0, 1) := by decide +kernel
theorem dX1_logged_6 : decode cX1_logged 6 = .ok (.getfield 7, 3) := by decide +kernel
theorem dX1_logged_9 : decode cX1_logged 9 = .ok (.ireturn, 1) := by decide +kernel
theorem dX2_chosen_0 : decode cX2_chosen 0 = .ok (.iconst 0, 1) := by decide +kernel
theorem dX2_chosen_1 : decode cX2_chosen 1 = .ok (.istore_n 2, 1) := by decide +kernel
theorem dX2_chosen_2 : decode cX2_chosen 2 = .ok (.iconst 0, 1) := by decide +kernel
theorem dX2_chosen_3 : decode cX2_chosen 3 = .ok (.istore_n 3, 1) := by decide +kernel
theorem dX2_chosen_4 : decode cX2_chosen 4 = .ok (.iconst 0, 1) := by decide +kernel
theorem dX2_chosen_5 : decode cX2_chosen 5 = .ok (.istore 4, 2) := by decide +kernel
theorem dX2_chosen_7 : decode cX2_chosen 7 = .ok (.iload 4, 2) := by decide +kernel
theorem dX2_chosen_9 : decode cX2_chosen 9 = .ok (.iload_n 0, 1) := by decide +kernel
theorem dX2_chosen_10 : decode cX2_chosen 10 = .ok (.if_icmp .ge 61, 3) := by decide +kernel
theorem dX2_chosen_13 : decode cX2_chosen 13 = .ok (.iconst 0, 1) := by decide +kernel
theorem dX2_chosen_14 : decode cX2_chosen 14 = .ok (.istore 5, 2) := by decide +kernel
theorem dX2_chosen_16 : decode cX2_chosen 16 = .ok (.iload 5, 2) := by decide +kernel
theorem dX2_chosen_18 : decode cX2_chosen 18 = .ok (.iload_n 0, 1) := by decide +kernel
theorem dX2_chosen_19 : decode cX2_chosen 19 = .ok (.if_icmp .ge 46, 3) := by decide +kernel
theorem dX2_chosen_22 : decode cX2_chosen 22 = .ok (.iload 4, 2) := by decide +kernel
theorem dX2_chosen_24 : decode cX2_chosen 24 = .ok (.iload 5, 2) := by decide +kernel
theorem dX2_chosen_26 : decode cX2_chosen 26 = .ok (.if_icmp .eq 11, 3) := by decide +kernel
theorem dX2_chosen_29 : decode cX2_chosen 29 = .ok (.iload_n 1, 1) := by decide +kernel
theorem dX2_chosen_30 : decode cX2_chosen 30 = .ok (.iload_n 3, 1) := by decide +kernel
theorem dX2_chosen_31 : decode cX2_chosen 31 = .ok (.invokestatic 7, 3) := by decide +kernel
theorem dX2_chosen_34 : decode cX2_chosen 34 = .ok (.ifCond .eq 15, 3) := by decide +kernel
theorem dX2_chosen_37 : decode cX2_chosen 37 = .ok (.iload_n 2, 1) := by decide +kernel
theorem dX2_chosen_38 : decode cX2_chosen 38 = .ok (.iconst 1, 1) := by decide +kernel
theorem dX2_chosen_39 : decode cX2_chosen 39 = .ok (.iload 4, 2) := by decide +kernel
theorem dX2_chosen_41 : decode cX2_chosen 41 = .ok (.iload 5, 2) := by decide +kernel
theorem dX2_chosen_43 : decode cX2_chosen 43 = .ok (.invokestatic 13, 3) := by decide +kernel
theorem dX2_chosen_46 : decode cX2_chosen 46 = .ok (.ishl, 1) := by decide +kernel
theorem dX2_chosen_47 : decode cX2_chosen 47 = .ok (.ior, 1) := by decide +kernel
theorem dX2_chosen_48 : decode cX2_chosen 48 = .ok (.istore_n 2, 1) := by decide +kernel
theorem dX2_chosen_49 : decode cX2_chosen 49 = .ok (.iload 4, 2) := by decide +kernel
theorem dX2_chosen_51 : decode cX2_chosen 51 = .ok (.iload 5, 2) := by decide +kernel
theorem dX2_chosen_53 : decode cX2_chosen 53 = .ok (.if_icmp .eq 6, 3) := by decide +kernel
theorem dX2_chosen_56 : decode cX2_chosen 56 = .ok (.iinc 3 1, 3) := by decide +kernel
theorem dX2_chosen_59 : decode cX2_chosen 59 = .ok (.iinc 5 1, 3) := by decide +kernel
theorem dX2_chosen_62 : decode cX2_chosen 62 = .ok (.goto (-46), 3) := by decide +kernel
theorem dX2_chosen_65 : decode cX2_chosen 65 = .ok (.iinc 4 1, 3) := by decide +kernel
theorem dX2_chosen_68 : decode cX2_chosen 68 = .ok (.goto (-61), 3) := by decide +kernel
theorem dX2_chosen_71 : decode cX2_chosen 71 = .ok (.iload_n 2, 1) := by decide +kernel
theorem dX2_chosen_72 : decode cX2_chosen 72 = .ok (.ireturn, 1) := by decide +kernel
theorem dX2_isJoined_0 : decode cX2_isJoined 0 = .ok (.iload_n 1, 1) := by decide +kernel
theorem dX2_isJoined_1 : decode cX2_isJoined 1 = .ok (.istore_n 2, 1) := by decide +kernel
theorem dX2_isJoined_2 : decode cX2_isJoined 2 = .ok (.iconst 0, 1) := by decide +kernel
theorem dX2_isJoined_3 : decode cX2_isJoined 3 = .ok (.istore_n 3, 1) := by decide +kernel
theorem dX2_isJoined_4 : decode cX2_isJoined 4 = .ok (.iload_n 3, 1) := by decide +kernel
theorem dX2_isJoined_5 : decode cX2_isJoined 5 = .ok (.iload_n 0, 1) := by decide +kernel
theorem dX2_isJoined_6 : decode cX2_isJoined 6 = .ok (.if_icmp .ge 48, 3) := by decide +kernel
theorem dX2_isJoined_9 : decode cX2_isJoined 9 = .ok (.iconst 0, 1) := by decide +kernel
theorem dX2_isJoined_10 : decode cX2_isJoined 10 = .ok (.istore 4, 2) := by decide +kernel
theorem dX2_isJoined_12 : decode cX2_isJoined 12 = .ok (.iload 4, 2) := by decide +kernel
theorem dX2_isJoined_14 : decode cX2_isJoined 14 = .ok (.iload_n 0, 1) := by decide +kernel
theorem dX2_isJoined_15 : decode cX2_isJoined 15 = .ok (.if_icmp .ge 33, 3) := by decide +kernel
theorem dX2_isJoined_18 : decode cX2_isJoined 18 = .ok (.iload_n 1, 1) := by decide +kernel
theorem dX2_isJoined_19 : decode cX2_isJoined 19 = .ok (.iload_n 3, 1) := by decide +kernel
theorem dX2_isJoined_20 : decode cX2_isJoined 20 = .ok (.iload 4, 2) := by decide +kernel
theorem dX2_isJoined_22 : decode cX2_isJoined 22 = .ok (.invokestatic 13, 3) := by decide +kernel
theorem dX2_isJoined_25 : decode cX2_isJoined 25 = .ok (.invokestatic 7, 3) := by decide +kernel
theorem dX2_isJoined_28 : decode cX2_isJoined 28 = .ok (.ifCond .eq 14, 3) := by decide +kernel
theorem dX2_isJoined_31 : decode cX2_isJoined 31 = .ok (.iload_n 2, 1) := by decide +kernel
theorem dX2_isJoined_32 : decode cX2_isJoined 32 = .ok (.iconst 1, 1) := by decide +kernel
theorem dX2_isJoined_33 : decode cX2_isJoined 33 = .ok (.iload 4, 2) := by decide +kernel
theorem dX2_isJoined_35 : decode cX2_isJoined 35 = .ok (.iload_n 3, 1) := by decide +kernel
theorem dX2_isJoined_36 : decode cX2_isJoined 36 = .ok (.invokestatic 13, 3) := by decide +kernel
theorem dX2_isJoined_39 : decode cX2_isJoined 39 = .ok (.ishl, 1) := by decide +kernel
theorem dX2_isJoined_40 : decode cX2_isJoined 40 = .ok (.ior, 1) := by decide +kernel
theorem dX2_isJoined_41 : decode cX2_isJoined 41 = .ok (.istore_n 2, 1) := by decide +kernel
theorem dX2_isJoined_42 : decode cX2_isJoined 42 = .ok (.iinc 4 1, 3) := by decide +kernel
theorem dX2_isJoined_45 : decode cX2_isJoined 45 = .ok (.goto (-33), 3) := by decide +kernel
theorem dX2_isJoined_48 : decode cX2_isJoined 48 = .ok (.iinc 3 1, 3) := by decide +kernel
theorem dX2_isJoined_51 : decode cX2_isJoined 51 = .ok (.goto (-47), 3) := by decide +kernel
theorem dX2_isJoined_54 : decode cX2_isJoined 54 = .ok (.iload_n 0, 1) := by decide +kernel
theorem dX2_isJoined_55 : decode cX2_isJoined 55 = .ok (.iload_n 2, 1) := by decide +kernel
theorem dX2_isJoined_56 : decode cX2_isJoined 56 = .ok (.iconst 0, 1) := by decide +kernel
theorem dX2_isJoined_57 : decode cX2_isJoined 57 = .ok (.invokestatic 17, 3) := by decide +kernel
theorem dX2_isJoined_60 : decode cX2_isJoined 60 = .ok (.iconst 1, 1) := by decide +kernel
theorem dX2_isJoined_61 : decode cX2_isJoined 61 = .ok (.iload_n 0, 1) := by decide +kernel
theorem dX2_isJoined_62 : decode cX2_isJoined 62 = .ok (.ishl, 1) := by decide +kernel
theorem dX2_isJoined_63 : decode cX2_isJoined 63 = .ok (.iconst 1, 1) := by decide +kernel
theorem dX2_isJoined_64 : decode cX2_isJoined 64 = .ok (.isub, 1) := by decide +kernel
theorem dX2_isJoined_65 : decode cX2_isJoined 65 = .ok (.if_icmp .ne 7, 3) := by decide +kernel
theorem dX2_isJoined_68 : decode cX2_isJoined 68 = .ok (.iconst 1, 1) := by decide +kernel
theorem dX2_isJoined_69 : decode cX2_isJoined 69 = .ok (.goto 4, 3) := by decide +kernel
theorem dX2_isJoined_72 : decode cX2_isJoined 72 = .ok (.iconst 0, 1) := by decide +kernel
theorem dX2_isJoined_73 : decode cX2_isJoined 73 = .ok (.ireturn, 1) := by decide +kernel
theorem dX2_bridges_0 : decode cX2_bridges 0 = .ok (.iconst 0, 1) := by decide +kernel
theorem dX2_bridges_1 : decode cX2_bridges 1 = .ok (.istore_n 2, 1) := by decide +kernel
theorem dX2_bridges_2 : decode cX2_bridges 2 = .ok (.iconst 0, 1) := by decide +kernel
theorem dX2_bridges_3 : decode cX2_bridges 3 = .ok (.istore_n 3, 1) := by decide +kernel
theorem dX2_bridges_4 : decode cX2_bridges 4 = .ok (.iload_n 3, 1) := by decide +kernel
theorem dX2_bridges_5 : decode cX2_bridges 5 = .ok (.iload_n 0, 1) := by decide +kernel
theorem dX2_bridges_6 : decode cX2_bridges 6 = .ok (.if_icmp .ge 68, 3) := by decide +kernel
theorem dX2_bridges_9 : decode cX2_bridges 9 = .ok (.iconst 0, 1) := by decide +kernel
theorem dX2_bridges_10 : decode cX2_bridges 10 = .ok (.istore 4, 2) := by decide +kernel
theorem dX2_bridges_12 : decode cX2_bridges 12 = .ok (.iload 4, 2) := by decide +kernel
theorem dX2_bridges_14 : decode cX2_bridges 14 = .ok (.iload_n 0, 1) := by decide +kernel
theorem dX2_bridges_15 : decode cX2_bridges 15 = .ok (.if_icmp .ge 53, 3) := by decide +kernel
theorem dX2_bridges_18 : decode cX2_bridges 18 = .ok (.iconst 1, 1) := by decide +kernel
theorem dX2_bridges_19 : decode cX2_bridges 19 = .ok (.iload_n 3, 1) := by decide +kernel
theorem dX2_bridges_20 : decode cX2_bridges 20 = .ok (.iload 4, 2) := by decide +kernel
theorem dX2_bridges_22 : decode cX2_bridges 22 = .ok (.invokestatic 13, 3) := by decide +kernel
theorem dX2_bridges_25 : decode cX2_bridges 25 = .ok (.ishl, 1) := by decide +kernel
theorem dX2_bridges_26 : decode cX2_bridges 26 = .ok (.istore 5, 2) := by decide +kernel
theorem dX2_bridges_28 : decode cX2_bridges 28 = .ok (.iload_n 3, 1) := by decide +kernel
theorem dX2_bridges_29 : decode cX2_bridges 29 = .ok (.iload 4, 2) := by decide +kernel
theorem dX2_bridges_31 : decode cX2_bridges 31 = .ok (.if_icmp .eq 31, 3) := by decide +kernel
theorem dX2_bridges_34 : decode cX2_bridges 34 = .ok (.iload_n 1, 1) := by decide +kernel
theorem dX2_bridges_35 : decode cX2_bridges 35 = .ok (.iload 5, 2) := by decide +kernel
theorem dX2_bridges_37 : decode cX2_bridges 37 = .ok (.iand, 1) := by decide +kernel
theorem dX2_bridges_38 : decode cX2_bridges 38 = .ok (.ifCond .ne 6, 3) := by decide +kernel
theorem dX2_bridges_41 : decode cX2_bridges 41 = .ok (.goto 21, 3) := by decide +kernel
theorem dX2_bridges_44 : decode cX2_bridges 44 = .ok (.iload_n 0, 1) := by decide +kernel
theorem dX2_bridges_45 : decode cX2_bridges 45 = .ok (.iload_n 1, 1) := by decide +kernel
theorem dX2_bridges_46 : decode cX2_bridges 46 = .ok (.iload 5, 2) := by decide +kernel
theorem dX2_bridges_48 : decode cX2_bridges 48 = .ok (.iconst (-1), 1) := by decide +kernel
theorem dX2_bridges_49 : decode cX2_bridges 49 = .ok (.ixor, 1) := by decide +kernel
theorem dX2_bridges_50 : decode cX2_bridges 50 = .ok (.iand, 1) := by decide +kernel
theorem dX2_bridges_51 : decode cX2_bridges 51 = .ok (.invokestatic 23, 3) := by decide +kernel
theorem dX2_bridges_54 : decode cX2_bridges 54 = .ok (.ifCond .ne 8, 3) := by decide +kernel
theorem dX2_bridges_57 : decode cX2_bridges 57 = .ok (.iload_n 2, 1) := by decide +kernel
theorem dX2_bridges_58 : decode cX2_bridges 58 = .ok (.iload 5, 2) := by decide +kernel
theorem dX2_bridges_60 : decode cX2_bridges 60 = .ok (.ior, 1) := by decide +kernel
theorem dX2_bridges_61 : decode cX2_bridges 61 = .ok (.istore_n 2, 1) := by decide +kernel
theorem dX2_bridges_62 : decode cX2_bridges 62 = .ok (.iinc 4 1, 3) := by decide +kernel
theorem dX2_bridges_65 : decode cX2_bridges 65 = .ok (.goto (-53), 3) := by decide +kernel
theorem dX2_bridges_68 : decode cX2_bridges 68 = .ok (.iinc 3 1, 3) := by decide +kernel
theorem dX2_bridges_71 : decode cX2_bridges 71 = .ok (.goto (-67), 3) := by decide +kernel
theorem dX2_bridges_74 : decode cX2_bridges 74 = .ok (.iload_n 2, 1) := by decide +kernel
theorem dX2_bridges_75 : decode cX2_bridges 75 = .ok (.ireturn, 1) := by decide +kernel
theorem dX2_isSun_0 : decode cX2_isSun 0 = .ok (.iconst 0, 1) := by decide +kernel
theorem dX2_isSun_1 : decode cX2_isSun 1 = .ok (.istore_n 2, 1) := by decide +kernel
theorem dX2_isSun_2 : decode cX2_isSun 2 = .ok (.iconst 0, 1) := by decide +kernel
theorem dX2_isSun_3 : decode cX2_isSun 3 = .ok (.istore_n 3, 1) := by decide +kernel
theorem dX2_isSun_4 : decode cX2_isSun 4 = .ok (.iload_n 3, 1) := by decide +kernel
theorem dX2_isSun_5 : decode cX2_isSun 5 = .ok (.iload_n 0, 1) := by decide +kernel
theorem dX2_isSun_6 : decode cX2_isSun 6 = .ok (.if_icmp .ge 29, 3) := by decide +kernel
theorem dX2_isSun_9 : decode cX2_isSun 9 = .ok (.iload_n 1, 1) := by decide +kernel
theorem dX2_isSun_10 : decode cX2_isSun 10 = .ok (.iload_n 3, 1) := by decide +kernel
theorem dX2_isSun_11 : decode cX2_isSun 11 = .ok (.invokestatic 26, 3) := by decide +kernel
theorem dX2_isSun_14 : decode cX2_isSun 14 = .ok (.iconst 1, 1) := by decide +kernel
theorem dX2_isSun_15 : decode cX2_isSun 15 = .ok (.iload_n 3, 1) := by decide +kernel
theorem dX2_isSun_16 : decode cX2_isSun 16 = .ok (.ishl, 1) := by decide +kernel
theorem dX2_isSun_17 : decode cX2_isSun 17 = .ok (.iconst (-1), 1) := by decide +kernel
theorem dX2_isSun_18 : decode cX2_isSun 18 = .ok (.ixor, 1) := by decide +kernel
theorem dX2_isSun_19 : decode cX2_isSun 19 = .ok (.iand, 1) := by decide +kernel
theorem dX2_isSun_20 : decode cX2_isSun 20 = .ok (.ifCond .eq 9, 3) := by decide +kernel
theorem dX2_isSun_23 : decode cX2_isSun 23 = .ok (.iload_n 2, 1) := by decide +kernel
theorem dX2_isSun_24 : decode cX2_isSun 24 = .ok (.iconst 1, 1) := by decide +kernel
theorem dX2_isSun_25 : decode cX2_isSun 25 = .ok (.iload_n 3, 1) := by decide +kernel
theorem dX2_isSun_26 : decode cX2_isSun 26 = .ok (.ishl, 1) := by decide +kernel
theorem dX2_isSun_27 : decode cX2_isSun 27 = .ok (.ior, 1) := by decide +kernel
theorem dX2_isSun_28 : decode cX2_isSun 28 = .ok (.istore_n 2, 1) := by decide +kernel
theorem dX2_isSun_29 : decode cX2_isSun 29 = .ok (.iinc 3 1, 3) := by decide +kernel
theorem dX2_isSun_32 : decode cX2_isSun 32 = .ok (.goto (-28), 3) := by decide +kernel
theorem dX2_isSun_35 : decode cX2_isSun 35 = .ok (.iconst 0, 1) := by decide +kernel
theorem dX2_isSun_36 : decode cX2_isSun 36 = .ok (.istore_n 3, 1) := by decide +kernel
theorem dX2_isSun_37 : decode cX2_isSun 37 = .ok (.iload_n 3, 1) := by decide +kernel
theorem dX2_isSun_38 : decode cX2_isSun 38 = .ok (.iload_n 0, 1) := by decide +kernel
theorem dX2_isSun_39 : decode cX2_isSun 39 = .ok (.if_icmp .ge 24, 3) := by decide +kernel
theorem dX2_isSun_42 : decode cX2_isSun 42 = .ok (.iload_n 2, 1) := by decide +kernel
theorem dX2_isSun_43 : decode cX2_isSun 43 = .ok (.iload_n 0, 1) := by decide +kernel
theorem dX2_isSun_44 : decode cX2_isSun 44 = .ok (.iload_n 1, 1) := by decide +kernel
theorem dX2_isSun_45 : decode cX2_isSun 45 = .ok (.iload_n 3, 1) := by decide +kernel
theorem dX2_isSun_46 : decode cX2_isSun 46 = .ok (.invokestatic 17, 3) := by decide +kernel
theorem dX2_isSun_49 : decode cX2_isSun 49 = .ok (.iconst (-1), 1) := by decide +kernel
theorem dX2_isSun_50 : decode cX2_isSun 50 = .ok (.ixor, 1) := by decide +kernel
theorem dX2_isSun_51 : decode cX2_isSun 51 = .ok (.iand, 1) := by decide +kernel
theorem dX2_isSun_52 : decode cX2_isSun 52 = .ok (.ifCond .eq 5, 3) := by decide +kernel
theorem dX2_isSun_55 : decode cX2_isSun 55 = .ok (.iconst 0, 1) := by decide +kernel
theorem dX2_isSun_56 : decode cX2_isSun 56 = .ok (.ireturn, 1) := by decide +kernel
theorem dX2_isSun_57 : decode cX2_isSun 57 = .ok (.iinc 3 1, 3) := by decide +kernel
theorem dX2_isSun_60 : decode cX2_isSun 60 = .ok (.goto (-23), 3) := by decide +kernel
theorem dX2_isSun_63 : decode cX2_isSun 63 = .ok (.iconst 1, 1) := by decide +kernel
theorem dX2_isSun_64 : decode cX2_isSun 64 = .ok (.ireturn, 1) := by decide +kernel
theorem dX2_reach_0 : decode cX2_reach 0 = .ok (.iconst 1, 1) := by decide +kernel
theorem dX2_reach_1 : decode cX2_reach 1 = .ok (.iload_n 2, 1) := by decide +kernel
theorem dX2_reach_2 : decode cX2_reach 2 = .ok (.ishl, 1) := by decide +kernel
theorem dX2_reach_3 : decode cX2_reach 3 = .ok (.istore_n 3, 1) := by decide +kernel
theorem dX2_reach_4 : decode cX2_reach 4 = .ok (.iconst 0, 1) := by decide +kernel
theorem dX2_reach_5 : decode cX2_reach 5 = .ok (.istore 4, 2) := by decide +kernel
theorem dX2_reach_7 : decode cX2_reach 7 = .ok (.iload 4, 2) := by decide +kernel
theorem dX2_reach_9 : decode cX2_reach 9 = .ok (.iload_n 0, 1) := by decide +kernel
theorem dX2_reach_10 : decode cX2_reach 10 = .ok (.if_icmp .ge 42, 3) := by decide +kernel
theorem dX2_reach_13 : decode cX2_reach 13 = .ok (.iconst 0, 1) := by decide +kernel
theorem dX2_reach_14 : decode cX2_reach 14 = .ok (.istore 5, 2) := by decide +kernel
theorem dX2_reach_16 : decode cX2_reach 16 = .ok (.iload 5, 2) := by decide +kernel
theorem dX2_reach_18 : decode cX2_reach 18 = .ok (.iload_n 0, 1) := by decide +kernel
theorem dX2_reach_19 : decode cX2_reach 19 = .ok (.if_icmp .ge 27, 3) := by decide +kernel
theorem dX2_reach_22 : decode cX2_reach 22 = .ok (.iload_n 3, 1) := by decide +kernel
theorem dX2_reach_23 : decode cX2_reach 23 = .ok (.iload 5, 2) := by decide +kernel
theorem dX2_reach_25 : decode cX2_reach 25 = .ok (.invokestatic 7, 3) := by decide +kernel
theorem dX2_reach_28 : decode cX2_reach 28 = .ok (.ifCond .eq 12, 3) := by decide +kernel
theorem dX2_reach_31 : decode cX2_reach 31 = .ok (.iload_n 3, 1) := by decide +kernel
theorem dX2_reach_32 : decode cX2_reach 32 = .ok (.iload_n 1, 1) := by decide +kernel
theorem dX2_reach_33 : decode cX2_reach 33 = .ok (.iload 5, 2) := by decide +kernel
theorem dX2_reach_35 : decode cX2_reach 35 = .ok (.invokestatic 26, 3) := by decide +kernel
theorem dX2_reach_38 : decode cX2_reach 38 = .ok (.ior, 1) := by decide +kernel
theorem dX2_reach_39 : decode cX2_reach 39 = .ok (.istore_n 3, 1) := by decide +kernel
theorem dX2_reach_40 : decode cX2_reach 40 = .ok (.iinc 5 1, 3) := by decide +kernel
theorem dX2_reach_43 : decode cX2_reach 43 = .ok (.goto (-27), 3) := by decide +kernel
theorem dX2_reach_46 : decode cX2_reach 46 = .ok (.iinc 4 1, 3) := by decide +kernel
theorem dX2_reach_49 : decode cX2_reach 49 = .ok (.goto (-42), 3) := by decide +kernel
theorem dX2_reach_52 : decode cX2_reach 52 = .ok (.iload_n 3, 1) := by decide +kernel
theorem dX2_reach_53 : decode cX2_reach 53 = .ok (.ireturn, 1) := by decide +kernel
theorem dX3_init_0 : decode cX3_init 0 = .ok (.aload_n 0, 1) := by decide +kernel
theorem dX3_init_1 : decode cX3_init 1 = .ok (.invokespecial 3, 3) := by decide +kernel
theorem dX3_init_4 : decode cX3_init 4 = .ok (.return_, 1) := by decide +kernel
theorem dX3_read_0 : decode cX3_read 0 = .ok (.aload_n 0, 1) := by decide +kernel
theorem dX3_read_1 : decode cX3_read 1 = .ok (.aload_n 1, 1) := by decide +kernel
theorem dX3_read_2 : decode cX3_read 2 = .ok (.iload_n 2, 1) := by decide +kernel
theorem dX3_read_3 : decode cX3_read 3 = .ok (.iload_n 3, 1) := by decide +kernel
theorem dX3_read_4 : decode cX3_read 4 = .ok (.invokevirtual 9, 3) := by decide +kernel
theorem dX3_read_7 : decode cX3_read 7 = .ok (.istore 4, 2) := by decide +kernel
theorem dX3_read_9 : decode cX3_read 9 = .ok (.iload 4, 2) := by decide +kernel
theorem dX3_read_11 : decode cX3_read 11 = .ok (.ifCond .lt 8, 3) := by decide +kernel
theorem dX3_read_14 : decode cX3_read 14 = .ok (.iload 4, 2) := by decide +kernel
theorem dX3_read_16 : decode cX3_read 16 = .ok (.goto 10, 3) := by decide +kernel
theorem dX3_read_19 : decode cX3_read 19 = .ok (.aload_n 0, 1) := by decide +kernel
theorem dX3_read_20 : decode cX3_read 20 = .ok (.aload_n 1, 1) := by decide +kernel
theorem dX3_read_21 : decode cX3_read 21 = .ok (.iload_n 2, 1) := by decide +kernel
theorem dX3_read_22 : decode cX3_read 22 = .ok (.iload_n 3, 1) := by decide +kernel
theorem dX3_read_23 : decode cX3_read 23 = .ok (.invokevirtual 15, 3) := by decide +kernel
theorem dX3_read_26 : decode cX3_read 26 = .ok (.ireturn, 1) := by decide +kernel
theorem dX3_firstBroken_0 : decode cX3_firstBroken 0 = .ok (.iconst 1, 1) := by decide +kernel
theorem dX3_firstBroken_1 : decode cX3_firstBroken 1 = .ok (.istore 4, 2) := by decide +kernel
theorem dX3_firstBroken_3 : decode cX3_firstBroken 3 = .ok (.iconst 0, 1) := by decide +kernel
theorem dX3_firstBroken_4 : decode cX3_firstBroken 4 = .ok (.istore 5, 2) := by decide +kernel
theorem dX3_firstBroken_6 : decode cX3_firstBroken 6 = .ok (.iload 5, 2) := by decide +kernel
theorem dX3_firstBroken_8 : decode cX3_firstBroken 8 = .ok (.iload_n 3, 1) := by decide +kernel
theorem dX3_firstBroken_9 : decode cX3_firstBroken 9 = .ok (.if_icmp .ge 80, 3) := by decide +kernel
theorem dX3_firstBroken_12 : decode cX3_firstBroken 12 = .ok (.aload_n 1, 1) := by decide +kernel
theorem dX3_firstBroken_13 : decode cX3_firstBroken 13 = .ok (.iload_n 2, 1) := by decide +kernel
theorem dX3_firstBroken_14 : decode cX3_firstBroken 14 = .ok (.iload 5, 2) := by decide +kernel
theorem dX3_firstBroken_16 : decode cX3_firstBroken 16 = .ok (.iadd, 1) := by decide +kernel
theorem dX3_firstBroken_17 : decode cX3_firstBroken 17 = .ok (.invokevirtual 18, 3) := by decide +kernel
theorem dX3_firstBroken_20 : decode cX3_firstBroken 20 = .ok (.istore 6, 2) := by decide +kernel
theorem dX3_firstBroken_22 : decode cX3_firstBroken 22 = .ok (.iload 4, 2) := by decide +kernel
theorem dX3_firstBroken_24 : decode cX3_firstBroken 24 = .ok (.ifCond .eq 23, 3) := by decide +kernel
theorem dX3_firstBroken_27 : decode cX3_firstBroken 27 = .ok (.iload 6, 2) := by decide +kernel
theorem dX3_firstBroken_29 : decode cX3_firstBroken 29 = .ok (.bipush 112, 2) := by decide +kernel
theorem dX3_firstBroken_31 : decode cX3_firstBroken 31 = .ok (.if_icmp .eq 6, 3) := by decide +kernel
theorem dX3_firstBroken_34 : decode cX3_firstBroken 34 = .ok (.iload 5, 2) := by decide +kernel
theorem dX3_firstBroken_36 : decode cX3_firstBroken 36 = .ok (.ireturn, 1) := by decide +kernel
theorem dX3_firstBroken_37 : decode cX3_firstBroken 37 = .ok (.aload_n 0, 1) := by decide +kernel
theorem dX3_firstBroken_38 : decode cX3_firstBroken 38 = .ok (.invokevirtual 24, 3) := by decide +kernel
theorem dX3_firstBroken_41 : decode cX3_firstBroken 41 = .ok (.iconst 0, 1) := by decide +kernel
theorem dX3_firstBroken_42 : decode cX3_firstBroken 42 = .ok (.istore 4, 2) := by decide +kernel
theorem dX3_firstBroken_44 : decode cX3_firstBroken 44 = .ok (.goto 39, 3) := by decide +kernel
theorem dX3_firstBroken_47 : decode cX3_firstBroken 47 = .ok (.iload 6, 2) := by decide +kernel
theorem dX3_firstBroken_49 : decode cX3_firstBroken 49 = .ok (.bipush 59, 2) := by decide +kernel
theorem dX3_firstBroken_51 : decode cX3_firstBroken 51 = .ok (.if_icmp .ne 20, 3) := by decide +kernel
theorem dX3_firstBroken_54 : decode cX3_firstBroken 54 = .ok (.aload_n 0, 1) := by decide +kernel
theorem dX3_firstBroken_55 : decode cX3_firstBroken 55 = .ok (.getfield 27, 3) := by decide +kernel
theorem dX3_firstBroken_58 : decode cX3_firstBroken 58 = .ok (.iconst 4, 1) := by decide +kernel
theorem dX3_firstBroken_59 : decode cX3_firstBroken 59 = .ok (.if_icmp .ne 6, 3) := by decide +kernel
theorem dX3_firstBroken_62 : decode cX3_firstBroken 62 = .ok (.iload 5, 2) := by decide +kernel
theorem dX3_firstBroken_64 : decode cX3_firstBroken 64 = .ok (.ireturn, 1) := by decide +kernel
theorem dX3_firstBroken_65 : decode cX3_firstBroken 65 = .ok (.iconst 1, 1) := by decide +kernel
theorem dX3_firstBroken_66 : decode cX3_firstBroken 66 = .ok (.istore 4, 2) := by decide +kernel
theorem dX3_firstBroken_68 : decode cX3_firstBroken 68 = .ok (.goto 15, 3) := by decide +kernel
theorem dX3_firstBroken_71 : decode cX3_firstBroken 71 = .ok (.aload_n 0, 1) := by decide +kernel
theorem dX3_firstBroken_72 : decode cX3_firstBroken 72 = .ok (.iload 6, 2) := by decide +kernel
theorem dX3_firstBroken_74 : decode cX3_firstBroken 74 = .ok (.invokevirtual 31, 3) := by decide +kernel
theorem dX3_firstBroken_77 : decode cX3_firstBroken 77 = .ok (.ifCond .ne 6, 3) := by decide +kernel
theorem dX3_firstBroken_80 : decode cX3_firstBroken 80 = .ok (.iload 5, 2) := by decide +kernel
theorem dX3_firstBroken_82 : decode cX3_firstBroken 82 = .ok (.ireturn, 1) := by decide +kernel
theorem dX3_firstBroken_83 : decode cX3_firstBroken 83 = .ok (.iinc 5 1, 3) := by decide +kernel
theorem dX3_firstBroken_86 : decode cX3_firstBroken 86 = .ok (.goto (-80), 3) := by decide +kernel
theorem dX3_firstBroken_89 : decode cX3_firstBroken 89 = .ok (.iload 4, 2) := by decide +kernel
theorem dX3_firstBroken_91 : decode cX3_firstBroken 91 = .ok (.ifCond .eq 7, 3) := by decide +kernel
theorem dX3_firstBroken_94 : decode cX3_firstBroken 94 = .ok (.iload_n 3, 1) := by decide +kernel
theorem dX3_firstBroken_95 : decode cX3_firstBroken 95 = .ok (.goto 4, 3) := by decide +kernel
theorem dX3_firstBroken_98 : decode cX3_firstBroken 98 = .ok (.iconst (-1), 1) := by decide +kernel
theorem dX3_firstBroken_99 : decode cX3_firstBroken 99 = .ok (.ireturn, 1) := by decide +kernel
theorem dX3_beginItem_0 : decode cX3_beginItem 0 = .ok (.aload_n 0, 1) := by decide +kernel
theorem dX3_beginItem_1 : decode cX3_beginItem 1 = .ok (.dup, 1) := by decide +kernel
theorem dX3_beginItem_2 : decode cX3_beginItem 2 = .ok (.getfield 35, 3) := by decide +kernel
theorem dX3_beginItem_5 : decode cX3_beginItem 5 = .ok (.iconst 1, 1) := by decide +kernel
theorem dX3_beginItem_6 : decode cX3_beginItem 6 = .ok (.aload_n 0, 1) := by decide +kernel
theorem dX3_beginItem_7 : decode cX3_beginItem 7 = .ok (.getfield 27, 3) := by decide +kernel
theorem dX3_beginItem_10 : decode cX3_beginItem 10 = .ok (.aload_n 0, 1) := by decide +kernel
theorem dX3_beginItem_11 : decode cX3_beginItem 11 = .ok (.getfield 27, 3) := by decide +kernel
theorem dX3_beginItem_14 : decode cX3_beginItem 14 = .ok (.invokestatic 38, 3) := by decide +kernel
theorem dX3_beginItem_17 : decode cX3_beginItem 17 = .ok (.ishl, 1) := by decide +kernel
theorem dX3_beginItem_18 : decode cX3_beginItem 18 = .ok (.ior, 1) := by decide +kernel
theorem dX3_beginItem_19 : decode cX3_beginItem 19 = .ok (.putfield 35, 3) := by decide +kernel
theorem dX3_beginItem_22 : decode cX3_beginItem 22 = .ok (.aload_n 0, 1) := by decide +kernel
theorem dX3_beginItem_23 : decode cX3_beginItem 23 = .ok (.dup, 1) := by decide +kernel
theorem dX3_beginItem_24 : decode cX3_beginItem 24 = .ok (.getfield 27, 3) := by decide +kernel
theorem dX3_beginItem_27 : decode cX3_beginItem 27 = .ok (.iconst 1, 1) := by decide +kernel
theorem dX3_beginItem_28 : decode cX3_beginItem 28 = .ok (.iadd, 1) := by decide +kernel
theorem dX3_beginItem_29 : decode cX3_beginItem 29 = .ok (.putfield 27, 3) := by decide +kernel
theorem dX3_beginItem_32 : decode cX3_beginItem 32 = .ok (.return_, 1) := by decide +kernel
theorem dX3_takesNumber_0 : decode cX3_takesNumber 0 = .ok (.iload_n 1, 1) := by decide +kernel
theorem dX3_takesNumber_1 : decode cX3_takesNumber 1 = .ok (.invokestatic 42, 3) := by decide +kernel
theorem dX3_takesNumber_4 : decode cX3_takesNumber 4 = .ok (.ifCond .ne 5, 3) := by decide +kernel
theorem dX3_takesNumber_7 : decode cX3_takesNumber 7 = .ok (.iconst 0, 1) := by decide +kernel
theorem dX3_takesNumber_8 : decode cX3_takesNumber 8 = .ok (.ireturn, 1) := by decide +kernel
theorem dX3_takesNumber_9 : decode cX3_takesNumber 9 = .ok (.iconst 1, 1) := by decide +kernel
theorem dX3_takesNumber_10 : decode cX3_takesNumber 10 = .ok (.aload_n 0, 1) := by decide +kernel
theorem dX3_takesNumber_11 : decode cX3_takesNumber 11 = .ok (.getfield 27, 3) := by decide +kernel
theorem dX3_takesNumber_14 : decode cX3_takesNumber 14 = .ok (.iconst 1, 1) := by decide +kernel
theorem dX3_takesNumber_15 : decode cX3_takesNumber 15 = .ok (.isub, 1) := by decide +kernel
theorem dX3_takesNumber_16 : decode cX3_takesNumber 16 = .ok (.iload_n 1, 1) := by decide +kernel
theorem dX3_takesNumber_17 : decode cX3_takesNumber 17 = .ok (.bipush 48, 2) := by decide +kernel
theorem dX3_takesNumber_19 : decode cX3_takesNumber 19 = .ok (.isub, 1) := by decide +kernel
theorem dX3_takesNumber_20 : decode cX3_takesNumber 20 = .ok (.invokestatic 38, 3) := by decide +kernel
theorem dX3_takesNumber_23 : decode cX3_takesNumber 23 = .ok (.ishl, 1) := by decide +kernel
theorem dX3_takesNumber_24 : decode cX3_takesNumber 24 = .ok (.istore_n 2, 1) := by decide +kernel
theorem dX3_takesNumber_25 : decode cX3_takesNumber 25 = .ok (.aload_n 0, 1) := by decide +kernel
theorem dX3_takesNumber_26 : decode cX3_takesNumber 26 = .ok (.getfield 35, 3) := by decide +kernel
theorem dX3_takesNumber_29 : decode cX3_takesNumber 29 = .ok (.iload_n 2, 1) := by decide +kernel
theorem dX3_takesNumber_30 : decode cX3_takesNumber 30 = .ok (.iand, 1) := by decide +kernel
theorem dX3_takesNumber_31 : decode cX3_takesNumber 31 = .ok (.ifCond .eq 5, 3) := by decide +kernel
theorem dX3_takesNumber_34 : decode cX3_takesNumber 34 = .ok (.iconst 0, 1) := by decide +kernel
theorem dX3_takesNumber_35 : decode cX3_takesNumber 35 = .ok (.ireturn, 1) := by decide +kernel
theorem dX3_takesNumber_36 : decode cX3_takesNumber 36 = .ok (.aload_n 0, 1) := by decide +kernel
theorem dX3_takesNumber_37 : decode cX3_takesNumber 37 = .ok (.dup, 1) := by decide +kernel
theorem dX3_takesNumber_38 : decode cX3_takesNumber 38 = .ok (.getfield 35, 3) := by decide +kernel
theorem dX3_takesNumber_41 : decode cX3_takesNumber 41 = .ok (.iload_n 2, 1) := by decide +kernel
theorem dX3_takesNumber_42 : decode cX3_takesNumber 42 = .ok (.ior, 1) := by decide +kernel
theorem dX3_takesNumber_43 : decode cX3_takesNumber 43 = .ok (.putfield 35, 3) := by decide +kernel
theorem dX3_takesNumber_46 : decode cX3_takesNumber 46 = .ok (.iconst 1, 1) := by decide +kernel
theorem dX3_takesNumber_47 : decode cX3_takesNumber 47 = .ok (.ireturn, 1) := by decide +kernel
theorem dX3_firstStranger_0 : decode cX3_firstStranger 0 = .ok (.iconst 0, 1) := by decide +kernel
theorem dX3_firstStranger_1 : decode cX3_firstStranger 1 = .ok (.istore 4, 2) := by decide +kernel
theorem dX3_firstStranger_3 : decode cX3_firstStranger 3 = .ok (.iload 4, 2) := by decide +kernel
theorem dX3_firstStranger_5 : decode cX3_firstStranger 5 = .ok (.iload_n 3, 1) := by decide +kernel
theorem dX3_firstStranger_6 : decode cX3_firstStranger 6 = .ok (.if_icmp .ge 42, 3) := by decide +kernel
theorem dX3_firstStranger_9 : decode cX3_firstStranger 9 = .ok (.aload_n 1, 1) := by decide +kernel
theorem dX3_firstStranger_10 : decode cX3_firstStranger 10 = .ok (.iload_n 2, 1) := by decide +kernel
theorem dX3_firstStranger_11 : decode cX3_firstStranger 11 = .ok (.iload 4, 2) := by decide +kernel
theorem dX3_firstStranger_13 : decode cX3_firstStranger 13 = .ok (.iadd, 1) := by decide +kernel
theorem dX3_firstStranger_14 : decode cX3_firstStranger 14 = .ok (.invokevirtual 18, 3) := by decide +kernel
theorem dX3_firstStranger_17 : decode cX3_firstStranger 17 = .ok (.istore 5, 2) := by decide +kernel
theorem dX3_firstStranger_19 : decode cX3_firstStranger 19 = .ok (.iload 5, 2) := by decide +kernel
theorem dX3_firstStranger_21 : decode cX3_firstStranger 21 = .ok (.invokestatic 42, 3) := by decide +kernel
theorem dX3_firstStranger_24 : decode cX3_firstStranger 24 = .ok (.ifCond .eq 18, 3) := by decide +kernel
theorem dX3_firstStranger_27 : decode cX3_firstStranger 27 = .ok (.iload 5, 2) := by decide +kernel
theorem dX3_firstStranger_29 : decode cX3_firstStranger 29 = .ok (.bipush 48, 2) := by decide +kernel
theorem dX3_firstStranger_31 : decode cX3_firstStranger 31 = .ok (.isub, 1) := by decide +kernel
theorem dX3_firstStranger_32 : decode cX3_firstStranger 32 = .ok (.aload_n 0, 1) := by decide +kernel
theorem dX3_firstStranger_33 : decode cX3_firstStranger 33 = .ok (.getfield 27, 3) := by decide +kernel
theorem dX3_firstStranger_36 : decode cX3_firstStranger 36 = .ok (.if_icmp .lt 6, 3) := by decide +kernel
theorem dX3_firstStranger_39 : decode cX3_firstStranger 39 = .ok (.iload 4, 2) := by decide +kernel
theorem dX3_firstStranger_41 : decode cX3_firstStranger 41 = .ok (.ireturn, 1) := by decide +kernel
theorem dX3_firstStranger_42 : decode cX3_firstStranger 42 = .ok (.iinc 4 1, 3) := by decide +kernel
theorem dX3_firstStranger_45 : decode cX3_firstStranger 45 = .ok (.goto (-42), 3) := by decide +kernel
theorem dX3_firstStranger_48 : decode cX3_firstStranger 48 = .ok (.iconst (-1), 1) := by decide +kernel
theorem dX3_firstStranger_49 : decode cX3_firstStranger 49 = .ok (.ireturn, 1) := by decide +kernel
theorem dX3_isDigit_0 : decode cX3_isDigit 0 = .ok (.iload_n 0, 1) := by decide +kernel
theorem dX3_isDigit_1 : decode cX3_isDigit 1 = .ok (.bipush 48, 2) := by decide +kernel
theorem dX3_isDigit_3 : decode cX3_isDigit 3 = .ok (.if_icmp .lt 13, 3) := by decide +kernel
theorem dX3_isDigit_6 : decode cX3_isDigit 6 = .ok (.iload_n 0, 1) := by decide +kernel
theorem dX3_isDigit_7 : decode cX3_isDigit 7 = .ok (.bipush 52, 2) := by decide +kernel
theorem dX3_isDigit_9 : decode cX3_isDigit 9 = .ok (.if_icmp .ge 7, 3) := by decide +kernel
theorem dX3_isDigit_12 : decode cX3_isDigit 12 = .ok (.iconst 1, 1) := by decide +kernel
theorem dX3_isDigit_13 : decode cX3_isDigit 13 = .ok (.goto 4, 3) := by decide +kernel
theorem dX3_isDigit_16 : decode cX3_isDigit 16 = .ok (.iconst 0, 1) := by decide +kernel
theorem dX3_isDigit_17 : decode cX3_isDigit 17 = .ok (.ireturn, 1) := by decide +kernel
theorem dX4_init_0 : decode cX4_init 0 = .ok (.aload_n 0, 1) := by decide +kernel
theorem dX4_init_1 : decode cX4_init 1 = .ok (.iload_n 1, 1) := by decide +kernel
theorem dX4_init_2 : decode cX4_init 2 = .ok (.iload_n 2, 1) := by decide +kernel
theorem dX4_init_3 : decode cX4_init 3 = .ok (.iload_n 3, 1) := by decide +kernel
theorem dX4_init_4 : decode cX4_init 4 = .ok (.lload 4, 2) := by decide +kernel
theorem dX4_init_6 : decode cX4_init 6 = .ok (.lload 6, 2) := by decide +kernel
theorem dX4_init_8 : decode cX4_init 8 = .ok (.invokespecial 1, 3) := by decide +kernel
theorem dX4_init_11 : decode cX4_init 11 = .ok (.return_, 1) := by decide +kernel
theorem dX4_kind_0 : decode cX4_kind 0 = .ok (.iconst 1, 1) := by decide +kernel
theorem dX4_kind_1 : decode cX4_kind 1 = .ok (.ireturn, 1) := by decide +kernel
theorem dX4_telling_0 : decode cX4_telling 0 = .ok (.aload_n 1, 1) := by decide +kernel
theorem dX4_telling_1 : decode cX4_telling 1 = .ok (.iconst 2, 1) := by decide +kernel
theorem dX4_telling_2 : decode cX4_telling 2 = .ok (.invokevirtual 7, 3) := by decide +kernel
theorem dX4_telling_5 : decode cX4_telling 5 = .ok (.aload_n 0, 1) := by decide +kernel
theorem dX4_telling_6 : decode cX4_telling 6 = .ok (.aload_n 0, 1) := by decide +kernel
theorem dX4_telling_7 : decode cX4_telling 7 = .ok (.getfield 13, 3) := by decide +kernel
theorem dX4_telling_10 : decode cX4_telling 10 = .ok (.invokevirtual 19, 3) := by decide +kernel
theorem dX4_telling_13 : decode cX4_telling 13 = .ok (.invokestatic 23, 3) := by decide +kernel
theorem dX4_telling_16 : decode cX4_telling 16 = .ok (.aload_n 0, 1) := by decide +kernel
theorem dX4_telling_17 : decode cX4_telling 17 = .ok (.aload_n 0, 1) := by decide +kernel
theorem dX4_telling_18 : decode cX4_telling 18 = .ok (.getfield 28, 3) := by decide +kernel
theorem dX4_telling_21 : decode cX4_telling 21 = .ok (.invokevirtual 19, 3) := by decide +kernel
theorem dX4_telling_24 : decode cX4_telling 24 = .ok (.invokestatic 23, 3) := by decide +kernel
theorem dX4_telling_27 : decode cX4_telling 27 = .ok (.iadd, 1) := by decide +kernel
theorem dX4_telling_28 : decode cX4_telling 28 = .ok (.istore_n 2, 1) := by decide +kernel
theorem dX4_telling_29 : decode cX4_telling 29 = .ok (.aload_n 0, 1) := by decide +kernel
theorem dX4_telling_30 : decode cX4_telling 30 = .ok (.aload_n 1, 1) := by decide +kernel
theorem dX4_telling_31 : decode cX4_telling 31 = .ok (.invokevirtual 31, 3) := by decide +kernel
theorem dX4_telling_34 : decode cX4_telling 34 = .ok (.bipush 100, 2) := by decide +kernel
theorem dX4_telling_36 : decode cX4_telling 36 = .ok (.iload_n 2, 1) := by decide +kernel
theorem dX4_telling_37 : decode cX4_telling 37 = .ok (.imul, 1) := by decide +kernel
theorem dX4_telling_38 : decode cX4_telling 38 = .ok (.iadd, 1) := by decide +kernel
theorem dX4_telling_39 : decode cX4_telling 39 = .ok (.ireturn, 1) := by decide +kernel
theorem dX5_first_0 : decode cX5_first 0 = .ok (.iload_n 0, 1) := by decide +kernel
theorem dX5_first_1 : decode cX5_first 1 = .ok (.i2l, 1) := by decide +kernel
theorem dX5_first_2 : decode cX5_first 2 = .ok (.bipush 40, 2) := by decide +kernel
theorem dX5_first_4 : decode cX5_first 4 = .ok (.lshl, 1) := by decide +kernel
theorem dX5_first_5 : decode cX5_first 5 = .ok (.iload_n 1, 1) := by decide +kernel
theorem dX5_first_6 : decode cX5_first 6 = .ok (.i2l, 1) := by decide +kernel
theorem dX5_first_7 : decode cX5_first 7 = .ok (.bipush 16, 2) := by decide +kernel
theorem dX5_first_9 : decode cX5_first 9 = .ok (.lshl, 1) := by decide +kernel
theorem dX5_first_10 : decode cX5_first 10 = .ok (.lor, 1) := by decide +kernel
theorem dX5_first_11 : decode cX5_first 11 = .ok (.lstore_n 2, 1) := by decide +kernel
theorem dX5_first_12 : decode cX5_first 12 = .ok (.iconst 0, 1) := by decide +kernel
theorem dX5_first_13 : decode cX5_first 13 = .ok (.istore 4, 2) := by decide +kernel
theorem dX5_first_15 : decode cX5_first 15 = .ok (.iload 4, 2) := by decide +kernel
theorem dX5_first_17 : decode cX5_first 17 = .ok (.iload_n 0, 1) := by decide +kernel
theorem dX5_first_18 : decode cX5_first 18 = .ok (.if_icmp .ge 37, 3) := by decide +kernel
theorem dX5_first_21 : decode cX5_first 21 = .ok (.lload_n 2, 1) := by decide +kernel
theorem dX5_first_22 : decode cX5_first 22 = .ok (.lconst 1, 1) := by decide +kernel
theorem dX5_first_23 : decode cX5_first 23 = .ok (.iload 4, 2) := by decide +kernel
theorem dX5_first_25 : decode cX5_first 25 = .ok (.iload 4, 2) := by decide +kernel
theorem dX5_first_27 : decode cX5_first 27 = .ok (.invokestatic 11, 3) := by decide +kernel
theorem dX5_first_30 : decode cX5_first 30 = .ok (.lshl, 1) := by decide +kernel
theorem dX5_first_31 : decode cX5_first 31 = .ok (.lconst 1, 1) := by decide +kernel
theorem dX5_first_32 : decode cX5_first 32 = .ok (.bipush 32, 2) := by decide +kernel
theorem dX5_first_34 : decode cX5_first 34 = .ok (.iload 4, 2) := by decide +kernel
theorem dX5_first_36 : decode cX5_first 36 = .ok (.iadd, 1) := by decide +kernel
theorem dX5_first_37 : decode cX5_first 37 = .ok (.lshl, 1) := by decide +kernel
theorem dX5_first_38 : decode cX5_first 38 = .ok (.lor, 1) := by decide +kernel
theorem dX5_first_39 : decode cX5_first 39 = .ok (.lconst 1, 1) := by decide +kernel
theorem dX5_first_40 : decode cX5_first 40 = .ok (.bipush 36, 2) := by decide +kernel
theorem dX5_first_42 : decode cX5_first 42 = .ok (.iload 4, 2) := by decide +kernel
theorem dX5_first_44 : decode cX5_first 44 = .ok (.iadd, 1) := by decide +kernel
theorem dX5_first_45 : decode cX5_first 45 = .ok (.lshl, 1) := by decide +kernel
theorem dX5_first_46 : decode cX5_first 46 = .ok (.lor, 1) := by decide +kernel
theorem dX5_first_47 : decode cX5_first 47 = .ok (.lor, 1) := by decide +kernel
theorem dX5_first_48 : decode cX5_first 48 = .ok (.lstore_n 2, 1) := by decide +kernel
theorem dX5_first_49 : decode cX5_first 49 = .ok (.iinc 4 1, 3) := by decide +kernel
theorem dX5_first_52 : decode cX5_first 52 = .ok (.goto (-37), 3) := by decide +kernel
theorem dX5_first_55 : decode cX5_first 55 = .ok (.lload_n 2, 1) := by decide +kernel
theorem dX5_first_56 : decode cX5_first 56 = .ok (.lreturn, 1) := by decide +kernel
theorem dX5_persons_0 : decode cX5_persons 0 = .ok (.lload_n 0, 1) := by decide +kernel
theorem dX5_persons_1 : decode cX5_persons 1 = .ok (.bipush 40, 2) := by decide +kernel
theorem dX5_persons_3 : decode cX5_persons 3 = .ok (.lshr, 1) := by decide +kernel
theorem dX5_persons_4 : decode cX5_persons 4 = .ok (.l2i, 1) := by decide +kernel
theorem dX5_persons_5 : decode cX5_persons 5 = .ok (.ireturn, 1) := by decide +kernel
theorem dX5_allSecrets_0 : decode cX5_allSecrets 0 = .ok (.lload_n 0, 1) := by decide +kernel
theorem dX5_allSecrets_1 : decode cX5_allSecrets 1 = .ok (.l2i, 1) := by decide +kernel
theorem dX5_allSecrets_2 : decode cX5_allSecrets 2 = .ok (.ldc 15, 2) := by decide +kernel
theorem dX5_allSecrets_4 : decode cX5_allSecrets 4 = .ok (.iand, 1) := by decide +kernel
theorem dX5_allSecrets_5 : decode cX5_allSecrets 5 = .ok (.ireturn, 1) := by decide +kernel
theorem dX5_allNumbers_0 : decode cX5_allNumbers 0 = .ok (.lload_n 0, 1) := by decide +kernel
theorem dX5_allNumbers_1 : decode cX5_allNumbers 1 = .ok (.bipush 16, 2) := by decide +kernel
theorem dX5_allNumbers_3 : decode cX5_allNumbers 3 = .ok (.lshr, 1) := by decide +kernel
theorem dX5_allNumbers_4 : decode cX5_allNumbers 4 = .ok (.l2i, 1) := by decide +kernel
theorem dX5_allNumbers_5 : decode cX5_allNumbers 5 = .ok (.ldc 15, 2) := by decide +kernel
theorem dX5_allNumbers_7 : decode cX5_allNumbers 7 = .ok (.iand, 1) := by decide +kernel
theorem dX5_allNumbers_8 : decode cX5_allNumbers 8 = .ok (.ireturn, 1) := by decide +kernel
theorem dX5_partOf_0 : decode cX5_partOf 0 = .ok (.iload_n 0, 1) := by decide +kernel
theorem dX5_partOf_1 : decode cX5_partOf 1 = .ok (.iconst 4, 1) := by decide +kernel
theorem dX5_partOf_2 : decode cX5_partOf 2 = .ok (.iload_n 1, 1) := by decide +kernel
theorem dX5_partOf_3 : decode cX5_partOf 3 = .ok (.imul, 1) := by decide +kernel
theorem dX5_partOf_4 : decode cX5_partOf 4 = .ok (.ishr, 1) := by decide +kernel
theorem dX5_partOf_5 : decode cX5_partOf 5 = .ok (.bipush 15, 2) := by decide +kernel
theorem dX5_partOf_7 : decode cX5_partOf 7 = .ok (.iand, 1) := by decide +kernel
theorem dX5_partOf_8 : decode cX5_partOf 8 = .ok (.ireturn, 1) := by decide +kernel
theorem dX5_secretsOf_0 : decode cX5_secretsOf 0 = .ok (.lload_n 0, 1) := by decide +kernel
theorem dX5_secretsOf_1 : decode cX5_secretsOf 1 = .ok (.iconst 4, 1) := by decide +kernel
theorem dX5_secretsOf_2 : decode cX5_secretsOf 2 = .ok (.iload_n 2, 1) := by decide +kernel
theorem dX5_secretsOf_3 : decode cX5_secretsOf 3 = .ok (.imul, 1) := by decide +kernel
theorem dX5_secretsOf_4 : decode cX5_secretsOf 4 = .ok (.lshr, 1) := by decide +kernel
theorem dX5_secretsOf_5 : decode cX5_secretsOf 5 = .ok (.l2i, 1) := by decide +kernel
theorem dX5_secretsOf_6 : decode cX5_secretsOf 6 = .ok (.bipush 15, 2) := by decide +kernel
theorem dX5_secretsOf_8 : decode cX5_secretsOf 8 = .ok (.iand, 1) := by decide +kernel
theorem dX5_secretsOf_9 : decode cX5_secretsOf 9 = .ok (.ireturn, 1) := by decide +kernel
theorem dX5_numbersOf_0 : decode cX5_numbersOf 0 = .ok (.lload_n 0, 1) := by decide +kernel
theorem dX5_numbersOf_1 : decode cX5_numbersOf 1 = .ok (.bipush 16, 2) := by decide +kernel
theorem dX5_numbersOf_3 : decode cX5_numbersOf 3 = .ok (.iconst 4, 1) := by decide +kernel
theorem dX5_numbersOf_4 : decode cX5_numbersOf 4 = .ok (.iload_n 2, 1) := by decide +kernel
theorem dX5_numbersOf_5 : decode cX5_numbersOf 5 = .ok (.imul, 1) := by decide +kernel
theorem dX5_numbersOf_6 : decode cX5_numbersOf 6 = .ok (.iadd, 1) := by decide +kernel
theorem dX5_numbersOf_7 : decode cX5_numbersOf 7 = .ok (.lshr, 1) := by decide +kernel
theorem dX5_numbersOf_8 : decode cX5_numbersOf 8 = .ok (.l2i, 1) := by decide +kernel
theorem dX5_numbersOf_9 : decode cX5_numbersOf 9 = .ok (.bipush 15, 2) := by decide +kernel
theorem dX5_numbersOf_11 : decode cX5_numbersOf 11 = .ok (.iand, 1) := by decide +kernel
theorem dX5_numbersOf_12 : decode cX5_numbersOf 12 = .ok (.ireturn, 1) := by decide +kernel
theorem dX5_hasToken_0 : decode cX5_hasToken 0 = .ok (.iload_n 2, 1) := by decide +kernel
theorem dX5_hasToken_1 : decode cX5_hasToken 1 = .ok (.iconst 2, 1) := by decide +kernel
theorem dX5_hasToken_2 : decode cX5_hasToken 2 = .ok (.if_icmp .ne 8, 3) := by decide +kernel
theorem dX5_hasToken_5 : decode cX5_hasToken 5 = .ok (.bipush 32, 2) := by decide +kernel
theorem dX5_hasToken_7 : decode cX5_hasToken 7 = .ok (.goto 5, 3) := by decide +kernel
theorem dX5_hasToken_10 : decode cX5_hasToken 10 = .ok (.bipush 36, 2) := by decide +kernel
theorem dX5_hasToken_12 : decode cX5_hasToken 12 = .ok (.istore 4, 2) := by decide +kernel
theorem dX5_hasToken_14 : decode cX5_hasToken 14 = .ok (.lload_n 0, 1) := by decide +kernel
theorem dX5_hasToken_15 : decode cX5_hasToken 15 = .ok (.iload 4, 2) := by decide +kernel
theorem dX5_hasToken_17 : decode cX5_hasToken 17 = .ok (.iload_n 3, 1) := by decide +kernel
theorem dX5_hasToken_18 : decode cX5_hasToken 18 = .ok (.iadd, 1) := by decide +kernel
theorem dX5_hasToken_19 : decode cX5_hasToken 19 = .ok (.lshr, 1) := by decide +kernel
theorem dX5_hasToken_20 : decode cX5_hasToken 20 = .ok (.lconst 1, 1) := by decide +kernel
theorem dX5_hasToken_21 : decode cX5_hasToken 21 = .ok (.land, 1) := by decide +kernel
theorem dX5_hasToken_22 : decode cX5_hasToken 22 = .ok (.lconst 1, 1) := by decide +kernel
theorem dX5_hasToken_23 : decode cX5_hasToken 23 = .ok (.lcmp, 1) := by decide +kernel
theorem dX5_hasToken_24 : decode cX5_hasToken 24 = .ok (.ifCond .ne 7, 3) := by decide +kernel
theorem dX5_hasToken_27 : decode cX5_hasToken 27 = .ok (.iconst 1, 1) := by decide +kernel
theorem dX5_hasToken_28 : decode cX5_hasToken 28 = .ok (.goto 4, 3) := by decide +kernel
theorem dX5_hasToken_31 : decode cX5_hasToken 31 = .ok (.iconst 0, 1) := by decide +kernel
theorem dX5_hasToken_32 : decode cX5_hasToken 32 = .ok (.ireturn, 1) := by decide +kernel
theorem dX5_everySecret_0 : decode cX5_everySecret 0 = .ok (.iconst 1, 1) := by decide +kernel
theorem dX5_everySecret_1 : decode cX5_everySecret 1 = .ok (.lload_n 0, 1) := by decide +kernel
theorem dX5_everySecret_2 : decode cX5_everySecret 2 = .ok (.invokestatic 16, 3) := by decide +kernel
theorem dX5_everySecret_5 : decode cX5_everySecret 5 = .ok (.ishl, 1) := by decide +kernel
theorem dX5_everySecret_6 : decode cX5_everySecret 6 = .ok (.iconst 1, 1) := by decide +kernel
theorem dX5_everySecret_7 : decode cX5_everySecret 7 = .ok (.isub, 1) := by decide +kernel
theorem dX5_everySecret_8 : decode cX5_everySecret 8 = .ok (.ireturn, 1) := by decide +kernel
theorem dX5_isExpert_0 : decode cX5_isExpert 0 = .ok (.lload_n 0, 1) := by decide +kernel
theorem dX5_isExpert_1 : decode cX5_isExpert 1 = .ok (.iload_n 2, 1) := by decide +kernel
theorem dX5_isExpert_2 : decode cX5_isExpert 2 = .ok (.invokestatic 20, 3) := by decide +kernel
theorem dX5_isExpert_5 : decode cX5_isExpert 5 = .ok (.lload_n 0, 1) := by decide +kernel
theorem dX5_isExpert_6 : decode cX5_isExpert 6 = .ok (.invokestatic 24, 3) := by decide +kernel
theorem dX5_isExpert_9 : decode cX5_isExpert 9 = .ok (.if_icmp .ne 7, 3) := by decide +kernel
theorem dX5_isExpert_12 : decode cX5_isExpert 12 = .ok (.iconst 1, 1) := by decide +kernel
theorem dX5_isExpert_13 : decode cX5_isExpert 13 = .ok (.goto 4, 3) := by decide +kernel
theorem dX5_isExpert_16 : decode cX5_isExpert 16 = .ok (.iconst 0, 1) := by decide +kernel
theorem dX5_isExpert_17 : decode cX5_isExpert 17 = .ok (.ireturn, 1) := by decide +kernel
theorem dX5_experts_0 : decode cX5_experts 0 = .ok (.lload_n 0, 1) := by decide +kernel
theorem dX5_experts_1 : decode cX5_experts 1 = .ok (.invokestatic 16, 3) := by decide +kernel
theorem dX5_experts_4 : decode cX5_experts 4 = .ok (.istore_n 2, 1) := by decide +kernel
theorem dX5_experts_5 : decode cX5_experts 5 = .ok (.iconst 0, 1) := by decide +kernel
theorem dX5_experts_6 : decode cX5_experts 6 = .ok (.istore_n 3, 1) := by decide +kernel
theorem dX5_experts_7 : decode cX5_experts 7 = .ok (.iconst 0, 1) := by decide +kernel
theorem dX5_experts_8 : decode cX5_experts 8 = .ok (.istore 4, 2) := by decide +kernel
theorem dX5_experts_10 : decode cX5_experts 10 = .ok (.iload 4, 2) := by decide +kernel
theorem dX5_experts_12 : decode cX5_experts 12 = .ok (.iload_n 2, 1) := by decide +kernel
theorem dX5_experts_13 : decode cX5_experts 13 = .ok (.if_icmp .ge 21, 3) := by decide +kernel
theorem dX5_experts_16 : decode cX5_experts 16 = .ok (.lload_n 0, 1) := by decide +kernel
theorem dX5_experts_17 : decode cX5_experts 17 = .ok (.iload 4, 2) := by decide +kernel
theorem dX5_experts_19 : decode cX5_experts 19 = .ok (.invokestatic 27, 3) := by decide +kernel
theorem dX5_experts_22 : decode cX5_experts 22 = .ok (.ifCond .eq 6, 3) := by decide +kernel
theorem dX5_experts_25 : decode cX5_experts 25 = .ok (.iinc 3 1, 3) := by decide +kernel
theorem dX5_experts_28 : decode cX5_experts 28 = .ok (.iinc 4 1, 3) := by decide +kernel
theorem dX5_experts_31 : decode cX5_experts 31 = .ok (.goto (-21), 3) := by decide +kernel
theorem dX5_experts_34 : decode cX5_experts 34 = .ok (.iload_n 3, 1) := by decide +kernel
theorem dX5_experts_35 : decode cX5_experts 35 = .ok (.ireturn, 1) := by decide +kernel
theorem dX5_allAreExperts_0 : decode cX5_allAreExperts 0 = .ok (.lload_n 0, 1) := by decide +kernel
theorem dX5_allAreExperts_1 : decode cX5_allAreExperts 1 = .ok (.invokestatic 16, 3) := by decide +kernel
theorem dX5_allAreExperts_4 : decode cX5_allAreExperts 4 = .ok (.istore_n 2, 1) := by decide +kernel
theorem dX5_allAreExperts_5 : decode cX5_allAreExperts 5 = .ok (.lload_n 0, 1) := by decide +kernel
theorem dX5_allAreExperts_6 : decode cX5_allAreExperts 6 = .ok (.invokestatic 31, 3) := by decide +kernel
theorem dX5_allAreExperts_9 : decode cX5_allAreExperts 9 = .ok (.invokestatic 34, 3) := by decide +kernel
theorem dX5_allAreExperts_12 : decode cX5_allAreExperts 12 = .ok (.iload_n 2, 1) := by decide +kernel
theorem dX5_allAreExperts_13 : decode cX5_allAreExperts 13 = .ok (.iload_n 2, 1) := by decide +kernel
theorem dX5_allAreExperts_14 : decode cX5_allAreExperts 14 = .ok (.imul, 1) := by decide +kernel
theorem dX5_allAreExperts_15 : decode cX5_allAreExperts 15 = .ok (.if_icmp .ne 7, 3) := by decide +kernel
theorem dX5_allAreExperts_18 : decode cX5_allAreExperts 18 = .ok (.iconst 1, 1) := by decide +kernel
theorem dX5_allAreExperts_19 : decode cX5_allAreExperts 19 = .ok (.goto 4, 3) := by decide +kernel
theorem dX5_allAreExperts_22 : decode cX5_allAreExperts 22 = .ok (.iconst 0, 1) := by decide +kernel
theorem dX5_allAreExperts_23 : decode cX5_allAreExperts 23 = .ok (.ireturn, 1) := by decide +kernel
theorem dX5_whomMay_0 : decode cX5_whomMay 0 = .ok (.iload_n 2, 1) := by decide +kernel
theorem dX5_whomMay_1 : decode cX5_whomMay 1 = .ok (.iconst 2, 1) := by decide +kernel
theorem dX5_whomMay_2 : decode cX5_whomMay 2 = .ok (.if_icmp .eq 8, 3) := by decide +kernel
theorem dX5_whomMay_5 : decode cX5_whomMay 5 = .ok (.iload_n 2, 1) := by decide +kernel
theorem dX5_whomMay_6 : decode cX5_whomMay 6 = .ok (.iconst 3, 1) := by decide +kernel
theorem dX5_whomMay_7 : decode cX5_whomMay 7 = .ok (.if_icmp .ne 14, 3) := by decide +kernel
theorem dX5_whomMay_10 : decode cX5_whomMay 10 = .ok (.lload_n 0, 1) := by decide +kernel
theorem dX5_whomMay_11 : decode cX5_whomMay 11 = .ok (.iload_n 2, 1) := by decide +kernel
theorem dX5_whomMay_12 : decode cX5_whomMay 12 = .ok (.iload_n 3, 1) := by decide +kernel
theorem dX5_whomMay_13 : decode cX5_whomMay 13 = .ok (.invokestatic 40, 3) := by decide +kernel
theorem dX5_whomMay_16 : decode cX5_whomMay 16 = .ok (.ifCond .ne 5, 3) := by decide +kernel
theorem dX5_whomMay_19 : decode cX5_whomMay 19 = .ok (.iconst 0, 1) := by decide +kernel
theorem dX5_whomMay_20 : decode cX5_whomMay 20 = .ok (.ireturn, 1) := by decide +kernel
theorem dX5_whomMay_21 : decode cX5_whomMay 21 = .ok (.lload_n 0, 1) := by decide +kernel
theorem dX5_whomMay_22 : decode cX5_whomMay 22 = .ok (.iload_n 3, 1) := by decide +kernel
theorem dX5_whomMay_23 : decode cX5_whomMay 23 = .ok (.invokestatic 20, 3) := by decide +kernel
theorem dX5_whomMay_26 : decode cX5_whomMay 26 = .ok (.istore 4, 2) := by decide +kernel
theorem dX5_whomMay_28 : decode cX5_whomMay 28 = .ok (.lload_n 0, 1) := by decide +kernel
theorem dX5_whomMay_29 : decode cX5_whomMay 29 = .ok (.iload_n 3, 1) := by decide +kernel
theorem dX5_whomMay_30 : decode cX5_whomMay 30 = .ok (.invokestatic 44, 3) := by decide +kernel
theorem dX5_whomMay_33 : decode cX5_whomMay 33 = .ok (.iconst 1, 1) := by decide +kernel
theorem dX5_whomMay_34 : decode cX5_whomMay 34 = .ok (.iload_n 3, 1) := by decide +kernel
theorem dX5_whomMay_35 : decode cX5_whomMay 35 = .ok (.ishl, 1) := by decide +kernel
theorem dX5_whomMay_36 : decode cX5_whomMay 36 = .ok (.iconst (-1), 1) := by decide +kernel
theorem dX5_whomMay_37 : decode cX5_whomMay 37 = .ok (.ixor, 1) := by decide +kernel
theorem dX5_whomMay_38 : decode cX5_whomMay 38 = .ok (.iand, 1) := by decide +kernel
theorem dX5_whomMay_39 : decode cX5_whomMay 39 = .ok (.istore 5, 2) := by decide +kernel
theorem dX5_whomMay_41 : decode cX5_whomMay 41 = .ok (.iload_n 2, 1) := by decide +kernel
theorem dX5_whomMay_42 : decode cX5_whomMay 42 = .ok (.iconst 1, 1) := by decide +kernel
theorem dX5_whomMay_43 : decode cX5_whomMay 43 = .ok (.if_icmp .ne 11, 3) := by decide +kernel
theorem dX5_whomMay_46 : decode cX5_whomMay 46 = .ok (.iload 5, 2) := by decide +kernel
theorem dX5_whomMay_48 : decode cX5_whomMay 48 = .ok (.iload 4, 2) := by decide +kernel
theorem dX5_whomMay_50 : decode cX5_whomMay 50 = .ok (.iconst (-1), 1) := by decide +kernel
theorem dX5_whomMay_51 : decode cX5_whomMay 51 = .ok (.ixor, 1) := by decide +kernel
theorem dX5_whomMay_52 : decode cX5_whomMay 52 = .ok (.iand, 1) := by decide +kernel
theorem dX5_whomMay_53 : decode cX5_whomMay 53 = .ok (.ireturn, 1) := by decide +kernel
theorem dX5_whomMay_54 : decode cX5_whomMay 54 = .ok (.lload_n 0, 1) := by decide +kernel
theorem dX5_whomMay_55 : decode cX5_whomMay 55 = .ok (.invokestatic 16, 3) := by decide +kernel
theorem dX5_whomMay_58 : decode cX5_whomMay 58 = .ok (.istore 6, 2) := by decide +kernel
theorem dX5_whomMay_60 : decode cX5_whomMay 60 = .ok (.iconst 0, 1) := by decide +kernel
theorem dX5_whomMay_61 : decode cX5_whomMay 61 = .ok (.istore 7, 2) := by decide +kernel
theorem dX5_whomMay_63 : decode cX5_whomMay 63 = .ok (.iconst 0, 1) := by decide +kernel
theorem dX5_whomMay_64 : decode cX5_whomMay 64 = .ok (.istore 8, 2) := by decide +kernel
theorem dX5_whomMay_66 : decode cX5_whomMay 66 = .ok (.iload 8, 2) := by decide +kernel
theorem dX5_whomMay_68 : decode cX5_whomMay 68 = .ok (.iload 6, 2) := by decide +kernel
theorem dX5_whomMay_70 : decode cX5_whomMay 70 = .ok (.if_icmp .ge 39, 3) := by decide +kernel
theorem dX5_whomMay_73 : decode cX5_whomMay 73 = .ok (.iload 5, 2) := by decide +kernel
theorem dX5_whomMay_75 : decode cX5_whomMay 75 = .ok (.iload 8, 2) := by decide +kernel
theorem dX5_whomMay_77 : decode cX5_whomMay 77 = .ok (.invokestatic 47, 3) := by decide +kernel
theorem dX5_whomMay_80 : decode cX5_whomMay 80 = .ok (.ifCond .eq 23, 3) := by decide +kernel
theorem dX5_whomMay_83 : decode cX5_whomMay 83 = .ok (.lload_n 0, 1) := by decide +kernel
theorem dX5_whomMay_84 : decode cX5_whomMay 84 = .ok (.iload 8, 2) := by decide +kernel
theorem dX5_whomMay_86 : decode cX5_whomMay 86 = .ok (.invokestatic 20, 3) := by decide +kernel
theorem dX5_whomMay_89 : decode cX5_whomMay 89 = .ok (.iload 4, 2) := by decide +kernel
theorem dX5_whomMay_91 : decode cX5_whomMay 91 = .ok (.if_icmp .eq 12, 3) := by decide +kernel
theorem dX5_whomMay_94 : decode cX5_whomMay 94 = .ok (.iload 7, 2) := by decide +kernel
theorem dX5_whomMay_96 : decode cX5_whomMay 96 = .ok (.iconst 1, 1) := by decide +kernel
theorem dX5_whomMay_97 : decode cX5_whomMay 97 = .ok (.iload 8, 2) := by decide +kernel
theorem dX5_whomMay_99 : decode cX5_whomMay 99 = .ok (.ishl, 1) := by decide +kernel
theorem dX5_whomMay_100 : decode cX5_whomMay 100 = .ok (.ior, 1) := by decide +kernel
theorem dX5_whomMay_101 : decode cX5_whomMay 101 = .ok (.istore 7, 2) := by decide +kernel
theorem dX5_whomMay_103 : decode cX5_whomMay 103 = .ok (.iinc 8 1, 3) := by decide +kernel
theorem dX5_whomMay_106 : decode cX5_whomMay 106 = .ok (.goto (-40), 3) := by decide +kernel
theorem dX5_whomMay_109 : decode cX5_whomMay 109 = .ok (.iload 7, 2) := by decide +kernel
theorem dX5_whomMay_111 : decode cX5_whomMay 111 = .ok (.ireturn, 1) := by decide +kernel
theorem dX5_ring_0 : decode cX5_ring 0 = .ok (.lload_n 0, 1) := by decide +kernel
theorem dX5_ring_1 : decode cX5_ring 1 = .ok (.iload_n 2, 1) := by decide +kernel
theorem dX5_ring_2 : decode cX5_ring 2 = .ok (.invokestatic 20, 3) := by decide +kernel
theorem dX5_ring_5 : decode cX5_ring 5 = .ok (.lload_n 0, 1) := by decide +kernel
theorem dX5_ring_6 : decode cX5_ring 6 = .ok (.iload_n 3, 1) := by decide +kernel
theorem dX5_ring_7 : decode cX5_ring 7 = .ok (.invokestatic 20, 3) := by decide +kernel
theorem dX5_ring_10 : decode cX5_ring 10 = .ok (.ior, 1) := by decide +kernel
theorem dX5_ring_11 : decode cX5_ring 11 = .ok (.i2l, 1) := by decide +kernel
theorem dX5_ring_12 : decode cX5_ring 12 = .ok (.lstore 4, 2) := by decide +kernel
theorem dX5_ring_14 : decode cX5_ring 14 = .ok (.lload_n 0, 1) := by decide +kernel
theorem dX5_ring_15 : decode cX5_ring 15 = .ok (.iload_n 2, 1) := by decide +kernel
theorem dX5_ring_16 : decode cX5_ring 16 = .ok (.invokestatic 44, 3) := by decide +kernel
theorem dX5_ring_19 : decode cX5_ring 19 = .ok (.lload_n 0, 1) := by decide +kernel
theorem dX5_ring_20 : decode cX5_ring 20 = .ok (.iload_n 3, 1) := by decide +kernel
theorem dX5_ring_21 : decode cX5_ring 21 = .ok (.invokestatic 44, 3) := by decide +kernel
theorem dX5_ring_24 : decode cX5_ring 24 = .ok (.ior, 1) := by decide +kernel
theorem dX5_ring_25 : decode cX5_ring 25 = .ok (.i2l, 1) := by decide +kernel
theorem dX5_ring_26 : decode cX5_ring 26 = .ok (.lstore 6, 2) := by decide +kernel
theorem dX5_ring_28 : decode cX5_ring 28 = .ok (.lload 4, 2) := by decide +kernel
theorem dX5_ring_30 : decode cX5_ring 30 = .ok (.lload 6, 2) := by decide +kernel
theorem dX5_ring_32 : decode cX5_ring 32 = .ok (.bipush 16, 2) := by decide +kernel
theorem dX5_ring_34 : decode cX5_ring 34 = .ok (.lshl, 1) := by decide +kernel
theorem dX5_ring_35 : decode cX5_ring 35 = .ok (.lor, 1) := by decide +kernel
theorem dX5_ring_36 : decode cX5_ring 36 = .ok (.lstore 8, 2) := by decide +kernel
theorem dX5_ring_38 : decode cX5_ring 38 = .ok (.lload 8, 2) := by decide +kernel
theorem dX5_ring_40 : decode cX5_ring 40 = .ok (.iconst 4, 1) := by decide +kernel
theorem dX5_ring_41 : decode cX5_ring 41 = .ok (.iload_n 2, 1) := by decide +kernel
theorem dX5_ring_42 : decode cX5_ring 42 = .ok (.imul, 1) := by decide +kernel
theorem dX5_ring_43 : decode cX5_ring 43 = .ok (.lshl, 1) := by decide +kernel
theorem dX5_ring_44 : decode cX5_ring 44 = .ok (.lload 8, 2) := by decide +kernel
theorem dX5_ring_46 : decode cX5_ring 46 = .ok (.iconst 4, 1) := by decide +kernel
theorem dX5_ring_47 : decode cX5_ring 47 = .ok (.iload_n 3, 1) := by decide +kernel
theorem dX5_ring_48 : decode cX5_ring 48 = .ok (.imul, 1) := by decide +kernel
theorem dX5_ring_49 : decode cX5_ring 49 = .ok (.lshl, 1) := by decide +kernel
theorem dX5_ring_50 : decode cX5_ring 50 = .ok (.lor, 1) := by decide +kernel
theorem dX5_ring_51 : decode cX5_ring 51 = .ok (.lconst 1, 1) := by decide +kernel
theorem dX5_ring_52 : decode cX5_ring 52 = .ok (.bipush 32, 2) := by decide +kernel
theorem dX5_ring_54 : decode cX5_ring 54 = .ok (.iload_n 3, 1) := by decide +kernel
theorem dX5_ring_55 : decode cX5_ring 55 = .ok (.iadd, 1) := by decide +kernel
theorem dX5_ring_56 : decode cX5_ring 56 = .ok (.lshl, 1) := by decide +kernel
theorem dX5_ring_57 : decode cX5_ring 57 = .ok (.lor, 1) := by decide +kernel
theorem dX5_ring_58 : decode cX5_ring 58 = .ok (.lstore 10, 2) := by decide +kernel
theorem dX5_ring_60 : decode cX5_ring 60 = .ok (.lconst 1, 1) := by decide +kernel
theorem dX5_ring_61 : decode cX5_ring 61 = .ok (.bipush 32, 2) := by decide +kernel
theorem dX5_ring_63 : decode cX5_ring 63 = .ok (.iload_n 2, 1) := by decide +kernel
theorem dX5_ring_64 : decode cX5_ring 64 = .ok (.iadd, 1) := by decide +kernel
theorem dX5_ring_65 : decode cX5_ring 65 = .ok (.lshl, 1) := by decide +kernel
theorem dX5_ring_66 : decode cX5_ring 66 = .ok (.lconst 1, 1) := by decide +kernel
theorem dX5_ring_67 : decode cX5_ring 67 = .ok (.bipush 36, 2) := by decide +kernel
theorem dX5_ring_69 : decode cX5_ring 69 = .ok (.iload_n 3, 1) := by decide +kernel
theorem dX5_ring_70 : decode cX5_ring 70 = .ok (.iadd, 1) := by decide +kernel
theorem dX5_ring_71 : decode cX5_ring 71 = .ok (.lshl, 1) := by decide +kernel
theorem dX5_ring_72 : decode cX5_ring 72 = .ok (.lor, 1) := by decide +kernel
theorem dX5_ring_73 : decode cX5_ring 73 = .ok (.lstore 12, 2) := by decide +kernel
theorem dX5_ring_75 : decode cX5_ring 75 = .ok (.lload_n 0, 1) := by decide +kernel
theorem dX5_ring_76 : decode cX5_ring 76 = .ok (.lload 10, 2) := by decide +kernel
theorem dX5_ring_78 : decode cX5_ring 78 = .ok (.lor, 1) := by decide +kernel
theorem dX5_ring_79 : decode cX5_ring 79 = .ok (.lload 12, 2) := by decide +kernel
theorem dX5_ring_81 : decode cX5_ring 81 = .ok (.ldc2_w 51, 3) := by decide +kernel
theorem dX5_ring_84 : decode cX5_ring 84 = .ok (.lxor, 1) := by decide +kernel
theorem dX5_ring_85 : decode cX5_ring 85 = .ok (.land, 1) := by decide +kernel
theorem dX5_ring_86 : decode cX5_ring 86 = .ok (.lreturn, 1) := by decide +kernel
theorem dX5_keyFor_0 : decode cX5_keyFor 0 = .ok (.lload_n 0, 1) := by decide +kernel
theorem dX5_keyFor_1 : decode cX5_keyFor 1 = .ok (.lstore 4, 2) := by decide +kernel
theorem dX5_keyFor_3 : decode cX5_keyFor 3 = .ok (.iload_n 2, 1) := by decide +kernel
theorem dX5_keyFor_4 : decode cX5_keyFor 4 = .ok (.iconst 2, 1) := by decide +kernel
theorem dX5_keyFor_5 : decode cX5_keyFor 5 = .ok (.if_icmp .eq 16, 3) := by decide +kernel
theorem dX5_keyFor_8 : decode cX5_keyFor 8 = .ok (.iload_n 3, 1) := by decide +kernel
theorem dX5_keyFor_9 : decode cX5_keyFor 9 = .ok (.iconst 2, 1) := by decide +kernel
theorem dX5_keyFor_10 : decode cX5_keyFor 10 = .ok (.if_icmp .eq 11, 3) := by decide +kernel
theorem dX5_keyFor_13 : decode cX5_keyFor 13 = .ok (.lload 4, 2) := by decide +kernel
theorem dX5_keyFor_15 : decode cX5_keyFor 15 = .ok (.ldc2_w 53, 3) := by decide +kernel
theorem dX5_keyFor_18 : decode cX5_keyFor 18 = .ok (.land, 1) := by decide +kernel
theorem dX5_keyFor_19 : decode cX5_keyFor 19 = .ok (.lstore 4, 2) := by decide +kernel
theorem dX5_keyFor_21 : decode cX5_keyFor 21 = .ok (.iload_n 2, 1) := by decide +kernel
theorem dX5_keyFor_22 : decode cX5_keyFor 22 = .ok (.iconst 3, 1) := by decide +kernel
theorem dX5_keyFor_23 : decode cX5_keyFor 23 = .ok (.if_icmp .eq 16, 3) := by decide +kernel
theorem dX5_keyFor_26 : decode cX5_keyFor 26 = .ok (.iload_n 3, 1) := by decide +kernel
theorem dX5_keyFor_27 : decode cX5_keyFor 27 = .ok (.iconst 3, 1) := by decide +kernel
theorem dX5_keyFor_28 : decode cX5_keyFor 28 = .ok (.if_icmp .eq 11, 3) := by decide +kernel
theorem dX5_keyFor_31 : decode cX5_keyFor 31 = .ok (.lload 4, 2) := by decide +kernel
theorem dX5_keyFor_33 : decode cX5_keyFor 33 = .ok (.ldc2_w 55, 3) := by decide +kernel
theorem dX5_keyFor_36 : decode cX5_keyFor 36 = .ok (.land, 1) := by decide +kernel
theorem dX5_keyFor_37 : decode cX5_keyFor 37 = .ok (.lstore 4, 2) := by decide +kernel
theorem dX5_keyFor_39 : decode cX5_keyFor 39 = .ok (.lload 4, 2) := by decide +kernel
theorem dX5_keyFor_41 : decode cX5_keyFor 41 = .ok (.iload_n 2, 1) := by decide +kernel
theorem dX5_keyFor_42 : decode cX5_keyFor 42 = .ok (.iload_n 3, 1) := by decide +kernel
theorem dX5_keyFor_43 : decode cX5_keyFor 43 = .ok (.invokestatic 11, 3) := by decide +kernel
theorem dX5_keyFor_46 : decode cX5_keyFor 46 = .ok (.i2l, 1) := by decide +kernel
theorem dX5_keyFor_47 : decode cX5_keyFor 47 = .ok (.bipush 43, 2) := by decide +kernel
theorem dX5_keyFor_49 : decode cX5_keyFor 49 = .ok (.lshl, 1) := by decide +kernel
theorem dX5_keyFor_50 : decode cX5_keyFor 50 = .ok (.lor, 1) := by decide +kernel
theorem dX5_keyFor_51 : decode cX5_keyFor 51 = .ok (.lreturn, 1) := by decide +kernel
theorem dX6_init_0 : decode cX6_init 0 = .ok (.aload_n 0, 1) := by decide +kernel
theorem dX6_init_1 : decode cX6_init 1 = .ok (.invokespecial 3, 3) := by decide +kernel
theorem dX6_init_4 : decode cX6_init 4 = .ok (.aload_n 0, 1) := by decide +kernel
theorem dX6_init_5 : decode cX6_init 5 = .ok (.new 9, 3) := by decide +kernel
theorem dX6_init_8 : decode cX6_init 8 = .ok (.dup, 1) := by decide +kernel
theorem dX6_init_9 : decode cX6_init 9 = .ok (.invokespecial 11, 3) := by decide +kernel
theorem dX6_init_12 : decode cX6_init 12 = .ok (.putfield 12, 3) := by decide +kernel
theorem dX6_init_15 : decode cX6_init 15 = .ok (.aload_n 0, 1) := by decide +kernel
theorem dX6_init_16 : decode cX6_init 16 = .ok (.sipush 8192, 3) := by decide +kernel
theorem dX6_init_19 : decode cX6_init 19 = .ok (.newarray .long, 2) := by decide +kernel
theorem dX6_init_21 : decode cX6_init 21 = .ok (.putfield 18, 3) := by decide +kernel
theorem dX6_init_24 : decode cX6_init 24 = .ok (.aload_n 0, 1) := by decide +kernel
theorem dX6_init_25 : decode cX6_init 25 = .ok (.sipush 8192, 3) := by decide +kernel
theorem dX6_init_28 : decode cX6_init 28 = .ok (.newarray .long, 2) := by decide +kernel
theorem dX6_init_30 : decode cX6_init 30 = .ok (.putfield 22, 3) := by decide +kernel
theorem dX6_init_33 : decode cX6_init 33 = .ok (.aload_n 0, 1) := by decide +kernel
theorem dX6_init_34 : decode cX6_init 34 = .ok (.sipush 8192, 3) := by decide +kernel
theorem dX6_init_37 : decode cX6_init 37 = .ok (.newarray .byte, 2) := by decide +kernel
theorem dX6_init_39 : decode cX6_init 39 = .ok (.putfield 25, 3) := by decide +kernel
theorem dX6_init_42 : decode cX6_init 42 = .ok (.aload_n 0, 1) := by decide +kernel
theorem dX6_init_43 : decode cX6_init 43 = .ok (.sipush 8192, 3) := by decide +kernel
theorem dX6_init_46 : decode cX6_init 46 = .ok (.newarray .byte, 2) := by decide +kernel
theorem dX6_init_48 : decode cX6_init 48 = .ok (.putfield 29, 3) := by decide +kernel
theorem dX6_init_51 : decode cX6_init 51 = .ok (.aload_n 0, 1) := by decide +kernel
theorem dX6_init_52 : decode cX6_init 52 = .ok (.new 9, 3) := by decide +kernel
theorem dX6_init_55 : decode cX6_init 55 = .ok (.dup, 1) := by decide +kernel
theorem dX6_init_56 : decode cX6_init 56 = .ok (.invokespecial 11, 3) := by decide +kernel
theorem dX6_init_59 : decode cX6_init 59 = .ok (.putfield 32, 3) := by decide +kernel
theorem dX6_init_62 : decode cX6_init 62 = .ok (.return_, 1) := by decide +kernel
theorem dX6_all_0 : decode cX6_all 0 = .ok (.aload_n 0, 1) := by decide +kernel
theorem dX6_all_1 : decode cX6_all 1 = .ok (.lload_n 1, 1) := by decide +kernel
theorem dX6_all_2 : decode cX6_all 2 = .ok (.iload_n 3, 1) := by decide +kernel
theorem dX6_all_3 : decode cX6_all 3 = .ok (.iconst 0, 1) := by decide +kernel
theorem dX6_all_4 : decode cX6_all 4 = .ok (.invokevirtual 35, 3) := by decide +kernel
theorem dX6_all_7 : decode cX6_all 7 = .ok (.istore 4, 2) := by decide +kernel
theorem dX6_all_9 : decode cX6_all 9 = .ok (.iload 4, 2) := by decide +kernel
theorem dX6_all_11 : decode cX6_all 11 = .ok (.ifCond .ge 7, 3) := by decide +kernel
theorem dX6_all_14 : decode cX6_all 14 = .ok (.lconst 0, 1) := by decide +kernel
theorem dX6_all_15 : decode cX6_all 15 = .ok (.goto 10, 3) := by decide +kernel
theorem dX6_all_18 : decode cX6_all 18 = .ok (.aload_n 0, 1) := by decide +kernel
theorem dX6_all_19 : decode cX6_all 19 = .ok (.getfield 18, 3) := by decide +kernel
theorem dX6_all_22 : decode cX6_all 22 = .ok (.iload 4, 2) := by decide +kernel
theorem dX6_all_24 : decode cX6_all 24 = .ok (.laload, 1) := by decide +kernel
theorem dX6_all_25 : decode cX6_all 25 = .ok (.lreturn, 1) := by decide +kernel
theorem dX6_good_0 : decode cX6_good 0 = .ok (.aload_n 0, 1) := by decide +kernel
theorem dX6_good_1 : decode cX6_good 1 = .ok (.lload_n 1, 1) := by decide +kernel
theorem dX6_good_2 : decode cX6_good 2 = .ok (.iload_n 3, 1) := by decide +kernel
theorem dX6_good_3 : decode cX6_good 3 = .ok (.iconst 0, 1) := by decide +kernel
theorem dX6_good_4 : decode cX6_good 4 = .ok (.invokevirtual 35, 3) := by decide +kernel
theorem dX6_good_7 : decode cX6_good 7 = .ok (.istore 4, 2) := by decide +kernel
theorem dX6_good_9 : decode cX6_good 9 = .ok (.iload 4, 2) := by decide +kernel
theorem dX6_good_11 : decode cX6_good 11 = .ok (.ifCond .ge 7, 3) := by decide +kernel
theorem dX6_good_14 : decode cX6_good 14 = .ok (.lconst 0, 1) := by decide +kernel
theorem dX6_good_15 : decode cX6_good 15 = .ok (.goto 10, 3) := by decide +kernel
theorem dX6_good_18 : decode cX6_good 18 = .ok (.aload_n 0, 1) := by decide +kernel
theorem dX6_good_19 : decode cX6_good 19 = .ok (.getfield 22, 3) := by decide +kernel
theorem dX6_good_22 : decode cX6_good 22 = .ok (.iload 4, 2) := by decide +kernel
theorem dX6_good_24 : decode cX6_good 24 = .ok (.laload, 1) := by decide +kernel
theorem dX6_good_25 : decode cX6_good 25 = .ok (.lreturn, 1) := by decide +kernel
theorem dX6_fewest_0 : decode cX6_fewest 0 = .ok (.aload_n 0, 1) := by decide +kernel
theorem dX6_fewest_1 : decode cX6_fewest 1 = .ok (.lload_n 1, 1) := by decide +kernel
theorem dX6_fewest_2 : decode cX6_fewest 2 = .ok (.iload_n 3, 1) := by decide +kernel
theorem dX6_fewest_3 : decode cX6_fewest 3 = .ok (.iconst 0, 1) := by decide +kernel
theorem dX6_fewest_4 : decode cX6_fewest 4 = .ok (.invokevirtual 35, 3) := by decide +kernel
theorem dX6_fewest_7 : decode cX6_fewest 7 = .ok (.istore 4, 2) := by decide +kernel
theorem dX6_fewest_9 : decode cX6_fewest 9 = .ok (.iload 4, 2) := by decide +kernel
theorem dX6_fewest_11 : decode cX6_fewest 11 = .ok (.ifCond .lt 15, 3) := by decide +kernel
theorem dX6_fewest_14 : decode cX6_fewest 14 = .ok (.aload_n 0, 1) := by decide +kernel
theorem dX6_fewest_15 : decode cX6_fewest 15 = .ok (.getfield 22, 3) := by decide +kernel
theorem dX6_fewest_18 : decode cX6_fewest 18 = .ok (.iload 4, 2) := by decide +kernel
theorem dX6_fewest_20 : decode cX6_fewest 20 = .ok (.laload, 1) := by decide +kernel
theorem dX6_fewest_21 : decode cX6_fewest 21 = .ok (.lconst 0, 1) := by decide +kernel
theorem dX6_fewest_22 : decode cX6_fewest 22 = .ok (.lcmp, 1) := by decide +kernel
theorem dX6_fewest_23 : decode cX6_fewest 23 = .ok (.ifCond .ne 8, 3) := by decide +kernel
theorem dX6_fewest_26 : decode cX6_fewest 26 = .ok (.bipush (-9), 2) := by decide +kernel
theorem dX6_fewest_28 : decode cX6_fewest 28 = .ok (.goto 10, 3) := by decide +kernel
theorem dX6_fewest_31 : decode cX6_fewest 31 = .ok (.aload_n 0, 1) := by decide +kernel
theorem dX6_fewest_32 : decode cX6_fewest 32 = .ok (.getfield 25, 3) := by decide +kernel
theorem dX6_fewest_35 : decode cX6_fewest 35 = .ok (.iload 4, 2) := by decide +kernel
theorem dX6_fewest_37 : decode cX6_fewest 37 = .ok (.baload, 1) := by decide +kernel
theorem dX6_fewest_38 : decode cX6_fewest 38 = .ok (.ireturn, 1) := by decide +kernel
theorem dX6_most_0 : decode cX6_most 0 = .ok (.aload_n 0, 1) := by decide +kernel
theorem dX6_most_1 : decode cX6_most 1 = .ok (.lload_n 1, 1) := by decide +kernel
theorem dX6_most_2 : decode cX6_most 2 = .ok (.iload_n 3, 1) := by decide +kernel
theorem dX6_most_3 : decode cX6_most 3 = .ok (.iconst 0, 1) := by decide +kernel
theorem dX6_most_4 : decode cX6_most 4 = .ok (.invokevirtual 35, 3) := by decide +kernel
theorem dX6_most_7 : decode cX6_most 7 = .ok (.istore 4, 2) := by decide +kernel
theorem dX6_most_9 : decode cX6_most 9 = .ok (.iload 4, 2) := by decide +kernel
theorem dX6_most_11 : decode cX6_most 11 = .ok (.ifCond .lt 15, 3) := by decide +kernel
theorem dX6_most_14 : decode cX6_most 14 = .ok (.aload_n 0, 1) := by decide +kernel
theorem dX6_most_15 : decode cX6_most 15 = .ok (.getfield 22, 3) := by decide +kernel
theorem dX6_most_18 : decode cX6_most 18 = .ok (.iload 4, 2) := by decide +kernel
theorem dX6_most_20 : decode cX6_most 20 = .ok (.laload, 1) := by decide +kernel
theorem dX6_most_21 : decode cX6_most 21 = .ok (.lconst 0, 1) := by decide +kernel
theorem dX6_most_22 : decode cX6_most 22 = .ok (.lcmp, 1) := by decide +kernel
theorem dX6_most_23 : decode cX6_most 23 = .ok (.ifCond .ne 8, 3) := by decide +kernel
theorem dX6_most_26 : decode cX6_most 26 = .ok (.bipush (-9), 2) := by decide +kernel
theorem dX6_most_28 : decode cX6_most 28 = .ok (.goto 10, 3) := by decide +kernel
theorem dX6_most_31 : decode cX6_most 31 = .ok (.aload_n 0, 1) := by decide +kernel
theorem dX6_most_32 : decode cX6_most 32 = .ok (.getfield 29, 3) := by decide +kernel
theorem dX6_most_35 : decode cX6_most 35 = .ok (.iload 4, 2) := by decide +kernel
theorem dX6_most_37 : decode cX6_most 37 = .ok (.baload, 1) := by decide +kernel
theorem dX6_most_38 : decode cX6_most 38 = .ok (.ireturn, 1) := by decide +kernel
theorem dX6_judge_0 : decode cX6_judge 0 = .ok (.aload_n 0, 1) := by decide +kernel
theorem dX6_judge_1 : decode cX6_judge 1 = .ok (.lload_n 1, 1) := by decide +kernel
theorem dX6_judge_2 : decode cX6_judge 2 = .ok (.iload_n 3, 1) := by decide +kernel
theorem dX6_judge_3 : decode cX6_judge 3 = .ok (.iconst 0, 1) := by decide +kernel
theorem dX6_judge_4 : decode cX6_judge 4 = .ok (.invokevirtual 35, 3) := by decide +kernel
theorem dX6_judge_7 : decode cX6_judge 7 = .ok (.istore 4, 2) := by decide +kernel
theorem dX6_judge_9 : decode cX6_judge 9 = .ok (.iload 4, 2) := by decide +kernel
theorem dX6_judge_11 : decode cX6_judge 11 = .ok (.ifCond .lt 15, 3) := by decide +kernel
theorem dX6_judge_14 : decode cX6_judge 14 = .ok (.aload_n 0, 1) := by decide +kernel
theorem dX6_judge_15 : decode cX6_judge 15 = .ok (.getfield 22, 3) := by decide +kernel
theorem dX6_judge_18 : decode cX6_judge 18 = .ok (.iload 4, 2) := by decide +kernel
theorem dX6_judge_20 : decode cX6_judge 20 = .ok (.laload, 1) := by decide +kernel
theorem dX6_judge_21 : decode cX6_judge 21 = .ok (.lconst 0, 1) := by decide +kernel
theorem dX6_judge_22 : decode cX6_judge 22 = .ok (.lcmp, 1) := by decide +kernel
theorem dX6_judge_23 : decode cX6_judge 23 = .ok (.ifCond .ne 5, 3) := by decide +kernel
theorem dX6_judge_26 : decode cX6_judge 26 = .ok (.iconst 0, 1) := by decide +kernel
theorem dX6_judge_27 : decode cX6_judge 27 = .ok (.ireturn, 1) := by decide +kernel
theorem dX6_judge_28 : decode cX6_judge 28 = .ok (.aload_n 0, 1) := by decide +kernel
theorem dX6_judge_29 : decode cX6_judge 29 = .ok (.getfield 22, 3) := by decide +kernel
theorem dX6_judge_32 : decode cX6_judge 32 = .ok (.iload 4, 2) := by decide +kernel
theorem dX6_judge_34 : decode cX6_judge 34 = .ok (.laload, 1) := by decide +kernel
theorem dX6_judge_35 : decode cX6_judge 35 = .ok (.aload_n 0, 1) := by decide +kernel
theorem dX6_judge_36 : decode cX6_judge 36 = .ok (.getfield 18, 3) := by decide +kernel
theorem dX6_judge_39 : decode cX6_judge 39 = .ok (.iload 4, 2) := by decide +kernel
theorem dX6_judge_41 : decode cX6_judge 41 = .ok (.laload, 1) := by decide +kernel
theorem dX6_judge_42 : decode cX6_judge 42 = .ok (.lcmp, 1) := by decide +kernel
theorem dX6_judge_43 : decode cX6_judge 43 = .ok (.ifCond .ne 7, 3) := by decide +kernel
theorem dX6_judge_46 : decode cX6_judge 46 = .ok (.iconst 2, 1) := by decide +kernel
theorem dX6_judge_47 : decode cX6_judge 47 = .ok (.goto 4, 3) := by decide +kernel
theorem dX6_judge_50 : decode cX6_judge 50 = .ok (.iconst 1, 1) := by decide +kernel
theorem dX6_judge_51 : decode cX6_judge 51 = .ok (.ireturn, 1) := by decide +kernel
theorem dX6_bestPair_0 : decode cX6_bestPair 0 = .ok (.aload_n 0, 1) := by decide +kernel
theorem dX6_bestPair_1 : decode cX6_bestPair 1 = .ok (.lload_n 1, 1) := by decide +kernel
theorem dX6_bestPair_2 : decode cX6_bestPair 2 = .ok (.iload_n 3, 1) := by decide +kernel
theorem dX6_bestPair_3 : decode cX6_bestPair 3 = .ok (.invokevirtual 39, 3) := by decide +kernel
theorem dX6_bestPair_6 : decode cX6_bestPair 6 = .ok (.istore 4, 2) := by decide +kernel
theorem dX6_bestPair_8 : decode cX6_bestPair 8 = .ok (.iload 4, 2) := by decide +kernel
theorem dX6_bestPair_10 : decode cX6_bestPair 10 = .ok (.bipush (-9), 2) := by decide +kernel
theorem dX6_bestPair_12 : decode cX6_bestPair 12 = .ok (.if_icmp .eq 8, 3) := by decide +kernel
theorem dX6_bestPair_15 : decode cX6_bestPair 15 = .ok (.iload 4, 2) := by decide +kernel
theorem dX6_bestPair_17 : decode cX6_bestPair 17 = .ok (.ifCond .ne 6, 3) := by decide +kernel
theorem dX6_bestPair_20 : decode cX6_bestPair 20 = .ok (.bipush (-9), 2) := by decide +kernel
theorem dX6_bestPair_22 : decode cX6_bestPair 22 = .ok (.ireturn, 1) := by decide +kernel
theorem dX6_bestPair_23 : decode cX6_bestPair 23 = .ok (.lload_n 1, 1) := by decide +kernel
theorem dX6_bestPair_24 : decode cX6_bestPair 24 = .ok (.invokestatic 42, 3) := by decide +kernel
theorem dX6_bestPair_27 : decode cX6_bestPair 27 = .ok (.istore 5, 2) := by decide +kernel
theorem dX6_bestPair_29 : decode cX6_bestPair 29 = .ok (.iconst 0, 1) := by decide +kernel
theorem dX6_bestPair_30 : decode cX6_bestPair 30 = .ok (.istore 6, 2) := by decide +kernel
theorem dX6_bestPair_32 : decode cX6_bestPair 32 = .ok (.iload 6, 2) := by decide +kernel
theorem dX6_bestPair_34 : decode cX6_bestPair 34 = .ok (.iload 5, 2) := by decide +kernel
theorem dX6_bestPair_36 : decode cX6_bestPair 36 = .ok (.if_icmp .ge 75, 3) := by decide +kernel
theorem dX6_bestPair_39 : decode cX6_bestPair 39 = .ok (.lload_n 1, 1) := by decide +kernel
theorem dX6_bestPair_40 : decode cX6_bestPair 40 = .ok (.iload_n 3, 1) := by decide +kernel
theorem dX6_bestPair_41 : decode cX6_bestPair 41 = .ok (.iload 6, 2) := by decide +kernel
theorem dX6_bestPair_43 : decode cX6_bestPair 43 = .ok (.invokestatic 48, 3) := by decide +kernel
theorem dX6_bestPair_46 : decode cX6_bestPair 46 = .ok (.istore 7, 2) := by decide +kernel
theorem dX6_bestPair_48 : decode cX6_bestPair 48 = .ok (.iconst 0, 1) := by decide +kernel
theorem dX6_bestPair_49 : decode cX6_bestPair 49 = .ok (.istore 8, 2) := by decide +kernel
theorem dX6_bestPair_51 : decode cX6_bestPair 51 = .ok (.iload 8, 2) := by decide +kernel
theorem dX6_bestPair_53 : decode cX6_bestPair 53 = .ok (.iload 5, 2) := by decide +kernel
theorem dX6_bestPair_55 : decode cX6_bestPair 55 = .ok (.if_icmp .ge 50, 3) := by decide +kernel
theorem dX6_bestPair_58 : decode cX6_bestPair 58 = .ok (.iload 7, 2) := by decide +kernel
theorem dX6_bestPair_60 : decode cX6_bestPair 60 = .ok (.iload 8, 2) := by decide +kernel
theorem dX6_bestPair_62 : decode cX6_bestPair 62 = .ok (.invokestatic 51, 3) := by decide +kernel
theorem dX6_bestPair_65 : decode cX6_bestPair 65 = .ok (.ifCond .ne 6, 3) := by decide +kernel
theorem dX6_bestPair_68 : decode cX6_bestPair 68 = .ok (.goto 31, 3) := by decide +kernel
theorem dX6_bestPair_71 : decode cX6_bestPair 71 = .ok (.aload_n 0, 1) := by decide +kernel
theorem dX6_bestPair_72 : decode cX6_bestPair 72 = .ok (.lload_n 1, 1) := by decide +kernel
theorem dX6_bestPair_73 : decode cX6_bestPair 73 = .ok (.iload 6, 2) := by decide +kernel
theorem dX6_bestPair_75 : decode cX6_bestPair 75 = .ok (.iload 8, 2) := by decide +kernel
theorem dX6_bestPair_77 : decode cX6_bestPair 77 = .ok (.invokestatic 55, 3) := by decide +kernel
theorem dX6_bestPair_80 : decode cX6_bestPair 80 = .ok (.iload_n 3, 1) := by decide +kernel
theorem dX6_bestPair_81 : decode cX6_bestPair 81 = .ok (.invokevirtual 39, 3) := by decide +kernel
theorem dX6_bestPair_84 : decode cX6_bestPair 84 = .ok (.iload 4, 2) := by decide +kernel
theorem dX6_bestPair_86 : decode cX6_bestPair 86 = .ok (.iconst 1, 1) := by decide +kernel
theorem dX6_bestPair_87 : decode cX6_bestPair 87 = .ok (.isub, 1) := by decide +kernel
theorem dX6_bestPair_88 : decode cX6_bestPair 88 = .ok (.if_icmp .ne 11, 3) := by decide +kernel
theorem dX6_bestPair_91 : decode cX6_bestPair 91 = .ok (.iload 6, 2) := by decide +kernel
theorem dX6_bestPair_93 : decode cX6_bestPair 93 = .ok (.iload 8, 2) := by decide +kernel
theorem dX6_bestPair_95 : decode cX6_bestPair 95 = .ok (.invokestatic 59, 3) := by decide +kernel
theorem dX6_bestPair_98 : decode cX6_bestPair 98 = .ok (.ireturn, 1) := by decide +kernel
theorem dX6_bestPair_99 : decode cX6_bestPair 99 = .ok (.iinc 8 1, 3) := by decide +kernel
theorem dX6_bestPair_102 : decode cX6_bestPair 102 = .ok (.goto (-51), 3) := by decide +kernel
theorem dX6_bestPair_105 : decode cX6_bestPair 105 = .ok (.iinc 6 1, 3) := by decide +kernel
theorem dX6_bestPair_108 : decode cX6_bestPair 108 = .ok (.goto (-76), 3) := by decide +kernel
theorem dX6_bestPair_111 : decode cX6_bestPair 111 = .ok (.bipush (-9), 2) := by decide +kernel
theorem dX6_bestPair_113 : decode cX6_bestPair 113 = .ok (.ireturn, 1) := by decide +kernel
theorem dX6_areWithin_0 : decode cX6_areWithin 0 = .ok (.aload_n 0, 1) := by decide +kernel
theorem dX6_areWithin_1 : decode cX6_areWithin 1 = .ok (.lload_n 1, 1) := by decide +kernel
theorem dX6_areWithin_2 : decode cX6_areWithin 2 = .ok (.iload_n 3, 1) := by decide +kernel
theorem dX6_areWithin_3 : decode cX6_areWithin 3 = .ok (.iload 4, 2) := by decide +kernel
theorem dX6_areWithin_5 : decode cX6_areWithin 5 = .ok (.iconst 0, 1) := by decide +kernel
theorem dX6_areWithin_6 : decode cX6_areWithin 6 = .ok (.invokevirtual 63, 3) := by decide +kernel
theorem dX6_areWithin_9 : decode cX6_areWithin 9 = .ok (.ireturn, 1) := by decide +kernel
theorem dX6_count_0 : decode cX6_count 0 = .ok (.iload 4, 2) := by decide +kernel
theorem dX6_count_2 : decode cX6_count 2 = .ok (.ifCond .ne 10, 3) := by decide +kernel
theorem dX6_count_5 : decode cX6_count 5 = .ok (.aload_n 0, 1) := by decide +kernel
theorem dX6_count_6 : decode cX6_count 6 = .ok (.getfield 12, 3) := by decide +kernel
theorem dX6_count_9 : decode cX6_count 9 = .ok (.invokevirtual 67, 3) := by decide +kernel
theorem dX6_count_12 : decode cX6_count 12 = .ok (.lload_n 1, 1) := by decide +kernel
theorem dX6_count_13 : decode cX6_count 13 = .ok (.iload_n 3, 1) := by decide +kernel
theorem dX6_count_14 : decode cX6_count 14 = .ok (.iload_n 3, 1) := by decide +kernel
theorem dX6_count_15 : decode cX6_count 15 = .ok (.invokestatic 70, 3) := by decide +kernel
theorem dX6_count_18 : decode cX6_count 18 = .ok (.lstore 5, 2) := by decide +kernel
theorem dX6_count_20 : decode cX6_count 20 = .ok (.aload_n 0, 1) := by decide +kernel
theorem dX6_count_21 : decode cX6_count 21 = .ok (.getfield 12, 3) := by decide +kernel
theorem dX6_count_24 : decode cX6_count 24 = .ok (.lload 5, 2) := by decide +kernel
theorem dX6_count_26 : decode cX6_count 26 = .ok (.invokevirtual 73, 3) := by decide +kernel
theorem dX6_count_29 : decode cX6_count 29 = .ok (.istore 7, 2) := by decide +kernel
theorem dX6_count_31 : decode cX6_count 31 = .ok (.iload 7, 2) := by decide +kernel
theorem dX6_count_33 : decode cX6_count 33 = .ok (.ifCond .ge 10, 3) := by decide +kernel
theorem dX6_count_36 : decode cX6_count 36 = .ok (.iload 4, 2) := by decide +kernel
theorem dX6_count_38 : decode cX6_count 38 = .ok (.bipush 12, 2) := by decide +kernel
theorem dX6_count_40 : decode cX6_count 40 = .ok (.if_icmp .le 6, 3) := by decide +kernel
theorem dX6_count_43 : decode cX6_count 43 = .ok (.iload 7, 2) := by decide +kernel
theorem dX6_count_45 : decode cX6_count 45 = .ok (.ireturn, 1) := by decide +kernel
theorem dX6_count_46 : decode cX6_count 46 = .ok (.lconst 0, 1) := by decide +kernel
theorem dX6_count_47 : decode cX6_count 47 = .ok (.lstore 8, 2) := by decide +kernel
theorem dX6_count_49 : decode cX6_count 49 = .ok (.lconst 0, 1) := by decide +kernel
theorem dX6_count_50 : decode cX6_count 50 = .ok (.lstore 10, 2) := by decide +kernel
theorem dX6_count_52 : decode cX6_count 52 = .ok (.bipush 12, 2) := by decide +kernel
theorem dX6_count_54 : decode cX6_count 54 = .ok (.istore 12, 2) := by decide +kernel
theorem dX6_count_56 : decode cX6_count 56 = .ok (.iconst 0, 1) := by decide +kernel
theorem dX6_count_57 : decode cX6_count 57 = .ok (.istore 13, 2) := by decide +kernel
theorem dX6_count_59 : decode cX6_count 59 = .ok (.lload_n 1, 1) := by decide +kernel
theorem dX6_count_60 : decode cX6_count 60 = .ok (.invokestatic 42, 3) := by decide +kernel
theorem dX6_count_63 : decode cX6_count 63 = .ok (.istore 14, 2) := by decide +kernel
theorem dX6_count_65 : decode cX6_count 65 = .ok (.iconst 0, 1) := by decide +kernel
theorem dX6_count_66 : decode cX6_count 66 = .ok (.istore 15, 2) := by decide +kernel
theorem dX6_count_68 : decode cX6_count 68 = .ok (.iload 15, 2) := by decide +kernel
theorem dX6_count_70 : decode cX6_count 70 = .ok (.iload 14, 2) := by decide +kernel
theorem dX6_count_72 : decode cX6_count 72 = .ok (.if_icmp .ge 145, 3) := by decide +kernel
theorem dX6_count_75 : decode cX6_count 75 = .ok (.lload_n 1, 1) := by decide +kernel
theorem dX6_count_76 : decode cX6_count 76 = .ok (.iload_n 3, 1) := by decide +kernel
theorem dX6_count_77 : decode cX6_count 77 = .ok (.iload 15, 2) := by decide +kernel
theorem dX6_count_79 : decode cX6_count 79 = .ok (.invokestatic 48, 3) := by decide +kernel
theorem dX6_count_82 : decode cX6_count 82 = .ok (.istore 16, 2) := by decide +kernel
theorem dX6_count_84 : decode cX6_count 84 = .ok (.iconst 0, 1) := by decide +kernel
theorem dX6_count_85 : decode cX6_count 85 = .ok (.istore 17, 2) := by decide +kernel
theorem dX6_count_87 : decode cX6_count 87 = .ok (.iload 17, 2) := by decide +kernel
theorem dX6_count_89 : decode cX6_count 89 = .ok (.iload 14, 2) := by decide +kernel
theorem dX6_count_91 : decode cX6_count 91 = .ok (.if_icmp .ge 120, 3) := by decide +kernel
theorem dX6_count_94 : decode cX6_count 94 = .ok (.iload 16, 2) := by decide +kernel
theorem dX6_count_96 : decode cX6_count 96 = .ok (.iload 17, 2) := by decide +kernel
theorem dX6_count_98 : decode cX6_count 98 = .ok (.invokestatic 51, 3) := by decide +kernel
theorem dX6_count_101 : decode cX6_count 101 = .ok (.ifCond .ne 6, 3) := by decide +kernel
theorem dX6_count_104 : decode cX6_count 104 = .ok (.goto 101, 3) := by decide +kernel
theorem dX6_count_107 : decode cX6_count 107 = .ok (.aload_n 0, 1) := by decide +kernel
theorem dX6_count_108 : decode cX6_count 108 = .ok (.lload_n 1, 1) := by decide +kernel
theorem dX6_count_109 : decode cX6_count 109 = .ok (.iload 15, 2) := by decide +kernel
theorem dX6_count_111 : decode cX6_count 111 = .ok (.iload 17, 2) := by decide +kernel
theorem dX6_count_113 : decode cX6_count 113 = .ok (.invokestatic 55, 3) := by decide +kernel
theorem dX6_count_116 : decode cX6_count 116 = .ok (.iload_n 3, 1) := by decide +kernel
theorem dX6_count_117 : decode cX6_count 117 = .ok (.iload 4, 2) := by decide +kernel
theorem dX6_count_119 : decode cX6_count 119 = .ok (.iconst 1, 1) := by decide +kernel
theorem dX6_count_120 : decode cX6_count 120 = .ok (.iadd, 1) := by decide +kernel
theorem dX6_count_121 : decode cX6_count 121 = .ok (.invokevirtual 35, 3) := by decide +kernel
theorem dX6_count_124 : decode cX6_count 124 = .ok (.istore 18, 2) := by decide +kernel
theorem dX6_count_126 : decode cX6_count 126 = .ok (.iload 18, 2) := by decide +kernel
theorem dX6_count_128 : decode cX6_count 128 = .ok (.ifCond .ge 6, 3) := by decide +kernel
theorem dX6_count_131 : decode cX6_count 131 = .ok (.goto 74, 3) := by decide +kernel
theorem dX6_count_134 : decode cX6_count 134 = .ok (.lload 8, 2) := by decide +kernel
theorem dX6_count_136 : decode cX6_count 136 = .ok (.aload_n 0, 1) := by decide +kernel
theorem dX6_count_137 : decode cX6_count 137 = .ok (.getfield 18, 3) := by decide +kernel
theorem dX6_count_140 : decode cX6_count 140 = .ok (.iload 18, 2) := by decide +kernel
theorem dX6_count_142 : decode cX6_count 142 = .ok (.laload, 1) := by decide +kernel
theorem dX6_count_143 : decode cX6_count 143 = .ok (.ladd, 1) := by decide +kernel
theorem dX6_count_144 : decode cX6_count 144 = .ok (.lstore 8, 2) := by decide +kernel
theorem dX6_count_146 : decode cX6_count 146 = .ok (.lload 10, 2) := by decide +kernel
theorem dX6_count_148 : decode cX6_count 148 = .ok (.aload_n 0, 1) := by decide +kernel
theorem dX6_count_149 : decode cX6_count 149 = .ok (.getfield 22, 3) := by decide +kernel
theorem dX6_count_152 : decode cX6_count 152 = .ok (.iload 18, 2) := by decide +kernel
theorem dX6_count_154 : decode cX6_count 154 = .ok (.laload, 1) := by decide +kernel
theorem dX6_count_155 : decode cX6_count 155 = .ok (.ladd, 1) := by decide +kernel
theorem dX6_count_156 : decode cX6_count 156 = .ok (.lstore 10, 2) := by decide +kernel
theorem dX6_count_158 : decode cX6_count 158 = .ok (.aload_n 0, 1) := by decide +kernel
theorem dX6_count_159 : decode cX6_count 159 = .ok (.getfield 22, 3) := by decide +kernel
theorem dX6_count_162 : decode cX6_count 162 = .ok (.iload 18, 2) := by decide +kernel
theorem dX6_count_164 : decode cX6_count 164 = .ok (.laload, 1) := by decide +kernel
theorem dX6_count_165 : decode cX6_count 165 = .ok (.lconst 0, 1) := by decide +kernel
theorem dX6_count_166 : decode cX6_count 166 = .ok (.lcmp, 1) := by decide +kernel
theorem dX6_count_167 : decode cX6_count 167 = .ok (.ifCond .ne 6, 3) := by decide +kernel
theorem dX6_count_170 : decode cX6_count 170 = .ok (.goto 35, 3) := by decide +kernel
theorem dX6_count_173 : decode cX6_count 173 = .ok (.iload 12, 2) := by decide +kernel
theorem dX6_count_175 : decode cX6_count 175 = .ok (.aload_n 0, 1) := by decide +kernel
theorem dX6_count_176 : decode cX6_count 176 = .ok (.getfield 25, 3) := by decide +kernel
theorem dX6_count_179 : decode cX6_count 179 = .ok (.iload 18, 2) := by decide +kernel
theorem dX6_count_181 : decode cX6_count 181 = .ok (.baload, 1) := by decide +kernel
theorem dX6_count_182 : decode cX6_count 182 = .ok (.iconst 1, 1) := by decide +kernel
theorem dX6_count_183 : decode cX6_count 183 = .ok (.iadd, 1) := by decide +kernel
theorem dX6_count_184 : decode cX6_count 184 = .ok (.invokestatic 76, 3) := by decide +kernel
theorem dX6_count_187 : decode cX6_count 187 = .ok (.istore 12, 2) := by decide +kernel
theorem dX6_count_189 : decode cX6_count 189 = .ok (.iload 13, 2) := by decide +kernel
theorem dX6_count_191 : decode cX6_count 191 = .ok (.aload_n 0, 1) := by decide +kernel
theorem dX6_count_192 : decode cX6_count 192 = .ok (.getfield 29, 3) := by decide +kernel
theorem dX6_count_195 : decode cX6_count 195 = .ok (.iload 18, 2) := by decide +kernel
theorem dX6_count_197 : decode cX6_count 197 = .ok (.baload, 1) := by decide +kernel
theorem dX6_count_198 : decode cX6_count 198 = .ok (.iconst 1, 1) := by decide +kernel
theorem dX6_count_199 : decode cX6_count 199 = .ok (.iadd, 1) := by decide +kernel
theorem dX6_count_200 : decode cX6_count 200 = .ok (.invokestatic 81, 3) := by decide +kernel
theorem dX6_count_203 : decode cX6_count 203 = .ok (.istore 13, 2) := by decide +kernel
theorem dX6_count_205 : decode cX6_count 205 = .ok (.iinc 17 1, 3) := by decide +kernel
theorem dX6_count_208 : decode cX6_count 208 = .ok (.goto (-121), 3) := by decide +kernel
theorem dX6_count_211 : decode cX6_count 211 = .ok (.iinc 15 1, 3) := by decide +kernel
theorem dX6_count_214 : decode cX6_count 214 = .ok (.goto (-146), 3) := by decide +kernel
theorem dX6_count_217 : decode cX6_count 217 = .ok (.lload 8, 2) := by decide +kernel
theorem dX6_count_219 : decode cX6_count 219 = .ok (.lconst 0, 1) := by decide +kernel
theorem dX6_count_220 : decode cX6_count 220 = .ok (.lcmp, 1) := by decide +kernel
theorem dX6_count_221 : decode cX6_count 221 = .ok (.ifCond .le 18, 3) := by decide +kernel
theorem dX6_count_224 : decode cX6_count 224 = .ok (.aload_n 0, 1) := by decide +kernel
theorem dX6_count_225 : decode cX6_count 225 = .ok (.lload 5, 2) := by decide +kernel
theorem dX6_count_227 : decode cX6_count 227 = .ok (.lload 8, 2) := by decide +kernel
theorem dX6_count_229 : decode cX6_count 229 = .ok (.lload 10, 2) := by decide +kernel
theorem dX6_count_231 : decode cX6_count 231 = .ok (.iload 12, 2) := by decide +kernel
theorem dX6_count_233 : decode cX6_count 233 = .ok (.iload 13, 2) := by decide +kernel
theorem dX6_count_235 : decode cX6_count 235 = .ok (.invokevirtual 84, 3) := by decide +kernel
theorem dX6_count_238 : decode cX6_count 238 = .ok (.ireturn, 1) := by decide +kernel
theorem dX6_count_239 : decode cX6_count 239 = .ok (.aload_n 0, 1) := by decide +kernel
theorem dX6_count_240 : decode cX6_count 240 = .ok (.lload 5, 2) := by decide +kernel
theorem dX6_count_242 : decode cX6_count 242 = .ok (.lconst 1, 1) := by decide +kernel
theorem dX6_count_243 : decode cX6_count 243 = .ok (.lload_n 1, 1) := by decide +kernel
theorem dX6_count_244 : decode cX6_count 244 = .ok (.invokestatic 88, 3) := by decide +kernel
theorem dX6_count_247 : decode cX6_count 247 = .ok (.invokestatic 92, 3) := by decide +kernel
theorem dX6_count_250 : decode cX6_count 250 = .ok (.i2l, 1) := by decide +kernel
theorem dX6_count_251 : decode cX6_count 251 = .ok (.iconst 0, 1) := by decide +kernel
theorem dX6_count_252 : decode cX6_count 252 = .ok (.iconst 0, 1) := by decide +kernel
theorem dX6_count_253 : decode cX6_count 253 = .ok (.invokevirtual 84, 3) := by decide +kernel
theorem dX6_count_256 : decode cX6_count 256 = .ok (.ireturn, 1) := by decide +kernel
theorem dX6_keep_0 : decode cX6_keep 0 = .ok (.aload_n 0, 1) := by decide +kernel
theorem dX6_keep_1 : decode cX6_keep 1 = .ok (.getfield 12, 3) := by decide +kernel
theorem dX6_keep_4 : decode cX6_keep 4 = .ok (.lload_n 1, 1) := by decide +kernel
theorem dX6_keep_5 : decode cX6_keep 5 = .ok (.invokevirtual 96, 3) := by decide +kernel
theorem dX6_keep_8 : decode cX6_keep 8 = .ok (.istore 9, 2) := by decide +kernel
theorem dX6_keep_10 : decode cX6_keep 10 = .ok (.iload 9, 2) := by decide +kernel
theorem dX6_keep_12 : decode cX6_keep 12 = .ok (.ifCond .ge 6, 3) := by decide +kernel
theorem dX6_keep_15 : decode cX6_keep 15 = .ok (.iload 9, 2) := by decide +kernel
theorem dX6_keep_17 : decode cX6_keep 17 = .ok (.ireturn, 1) := by decide +kernel
theorem dX6_keep_18 : decode cX6_keep 18 = .ok (.aload_n 0, 1) := by decide +kernel
theorem dX6_keep_19 : decode cX6_keep 19 = .ok (.getfield 18, 3) := by decide +kernel
theorem dX6_keep_22 : decode cX6_keep 22 = .ok (.iload 9, 2) := by decide +kernel
theorem dX6_keep_24 : decode cX6_keep 24 = .ok (.lload_n 3, 1) := by decide +kernel
theorem dX6_keep_25 : decode cX6_keep 25 = .ok (.lastore, 1) := by decide +kernel
theorem dX6_keep_26 : decode cX6_keep 26 = .ok (.aload_n 0, 1) := by decide +kernel
theorem dX6_keep_27 : decode cX6_keep 27 = .ok (.getfield 22, 3) := by decide +kernel
theorem dX6_keep_30 : decode cX6_keep 30 = .ok (.iload 9, 2) := by decide +kernel
theorem dX6_keep_32 : decode cX6_keep 32 = .ok (.lload 5, 2) := by decide +kernel
theorem dX6_keep_34 : decode cX6_keep 34 = .ok (.lastore, 1) := by decide +kernel
theorem dX6_keep_35 : decode cX6_keep 35 = .ok (.aload_n 0, 1) := by decide +kernel
theorem dX6_keep_36 : decode cX6_keep 36 = .ok (.getfield 25, 3) := by decide +kernel
theorem dX6_keep_39 : decode cX6_keep 39 = .ok (.iload 9, 2) := by decide +kernel
theorem dX6_keep_41 : decode cX6_keep 41 = .ok (.iload 7, 2) := by decide +kernel
theorem dX6_keep_43 : decode cX6_keep 43 = .ok (.i2b, 1) := by decide +kernel
theorem dX6_keep_44 : decode cX6_keep 44 = .ok (.bastore, 1) := by decide +kernel
theorem dX6_keep_45 : decode cX6_keep 45 = .ok (.aload_n 0, 1) := by decide +kernel
theorem dX6_keep_46 : decode cX6_keep 46 = .ok (.getfield 29, 3) := by decide +kernel
theorem dX6_keep_49 : decode cX6_keep 49 = .ok (.iload 9, 2) := by decide +kernel
theorem dX6_keep_51 : decode cX6_keep 51 = .ok (.iload 8, 2) := by decide +kernel
theorem dX6_keep_53 : decode cX6_keep 53 = .ok (.i2b, 1) := by decide +kernel
theorem dX6_keep_54 : decode cX6_keep 54 = .ok (.bastore, 1) := by decide +kernel
theorem dX6_keep_55 : decode cX6_keep 55 = .ok (.iload 9, 2) := by decide +kernel
theorem dX6_keep_57 : decode cX6_keep 57 = .ok (.ireturn, 1) := by decide +kernel
theorem dX6_include_0 : decode cX6_include 0 = .ok (.iload 5, 2) := by decide +kernel
theorem dX6_include_2 : decode cX6_include 2 = .ok (.ifCond .ne 10, 3) := by decide +kernel
theorem dX6_include_5 : decode cX6_include 5 = .ok (.aload_n 0, 1) := by decide +kernel
theorem dX6_include_6 : decode cX6_include 6 = .ok (.getfield 32, 3) := by decide +kernel
theorem dX6_include_9 : decode cX6_include 9 = .ok (.invokevirtual 67, 3) := by decide +kernel
theorem dX6_include_12 : decode cX6_include 12 = .ok (.lload_n 1, 1) := by decide +kernel
theorem dX6_include_13 : decode cX6_include 13 = .ok (.iload_n 3, 1) := by decide +kernel
theorem dX6_include_14 : decode cX6_include 14 = .ok (.iload 4, 2) := by decide +kernel
theorem dX6_include_16 : decode cX6_include 16 = .ok (.invokestatic 70, 3) := by decide +kernel
theorem dX6_include_19 : decode cX6_include 19 = .ok (.lstore 6, 2) := by decide +kernel
theorem dX6_include_21 : decode cX6_include 21 = .ok (.iload 5, 2) := by decide +kernel
theorem dX6_include_23 : decode cX6_include 23 = .ok (.bipush 12, 2) := by decide +kernel
theorem dX6_include_25 : decode cX6_include 25 = .ok (.if_icmp .gt 15, 3) := by decide +kernel
theorem dX6_include_28 : decode cX6_include 28 = .ok (.aload_n 0, 1) := by decide +kernel
theorem dX6_include_29 : decode cX6_include 29 = .ok (.getfield 32, 3) := by decide +kernel
theorem dX6_include_32 : decode cX6_include 32 = .ok (.lload 6, 2) := by decide +kernel
theorem dX6_include_34 : decode cX6_include 34 = .ok (.invokevirtual 73, 3) := by decide +kernel
theorem dX6_include_37 : decode cX6_include 37 = .ok (.ifCond .lt 5, 3) := by decide +kernel
theorem dX6_include_40 : decode cX6_include 40 = .ok (.iconst 1, 1) := by decide +kernel
theorem dX6_include_41 : decode cX6_include 41 = .ok (.ireturn, 1) := by decide +kernel
theorem dX6_include_42 : decode cX6_include 42 = .ok (.lload_n 1, 1) := by decide +kernel
theorem dX6_include_43 : decode cX6_include 43 = .ok (.invokestatic 42, 3) := by decide +kernel
theorem dX6_include_46 : decode cX6_include 46 = .ok (.istore 8, 2) := by decide +kernel
theorem dX6_include_48 : decode cX6_include 48 = .ok (.iconst 0, 1) := by decide +kernel
theorem dX6_include_49 : decode cX6_include 49 = .ok (.istore 9, 2) := by decide +kernel
theorem dX6_include_51 : decode cX6_include 51 = .ok (.iload 9, 2) := by decide +kernel
theorem dX6_include_53 : decode cX6_include 53 = .ok (.iload 8, 2) := by decide +kernel
theorem dX6_include_55 : decode cX6_include 55 = .ok (.if_icmp .ge 89, 3) := by decide +kernel
theorem dX6_include_58 : decode cX6_include 58 = .ok (.lload_n 1, 1) := by decide +kernel
theorem dX6_include_59 : decode cX6_include 59 = .ok (.iload_n 3, 1) := by decide +kernel
theorem dX6_include_60 : decode cX6_include 60 = .ok (.iload 9, 2) := by decide +kernel
theorem dX6_include_62 : decode cX6_include 62 = .ok (.invokestatic 48, 3) := by decide +kernel
theorem dX6_include_65 : decode cX6_include 65 = .ok (.istore 10, 2) := by decide +kernel
theorem dX6_include_67 : decode cX6_include 67 = .ok (.iload 10, 2) := by decide +kernel
theorem dX6_include_69 : decode cX6_include 69 = .ok (.lload_n 1, 1) := by decide +kernel
theorem dX6_include_70 : decode cX6_include 70 = .ok (.iload 4, 2) := by decide +kernel
theorem dX6_include_72 : decode cX6_include 72 = .ok (.iload 9, 2) := by decide +kernel
theorem dX6_include_74 : decode cX6_include 74 = .ok (.invokestatic 48, 3) := by decide +kernel
theorem dX6_include_77 : decode cX6_include 77 = .ok (.iconst (-1), 1) := by decide +kernel
theorem dX6_include_78 : decode cX6_include 78 = .ok (.ixor, 1) := by decide +kernel
theorem dX6_include_79 : decode cX6_include 79 = .ok (.iand, 1) := by decide +kernel
theorem dX6_include_80 : decode cX6_include 80 = .ok (.ifCond .eq 5, 3) := by decide +kernel
theorem dX6_include_83 : decode cX6_include 83 = .ok (.iconst 0, 1) := by decide +kernel
theorem dX6_include_84 : decode cX6_include 84 = .ok (.ireturn, 1) := by decide +kernel
theorem dX6_include_85 : decode cX6_include 85 = .ok (.iconst 0, 1) := by decide +kernel
theorem dX6_include_86 : decode cX6_include 86 = .ok (.istore 11, 2) := by decide +kernel
theorem dX6_include_88 : decode cX6_include 88 = .ok (.iload 11, 2) := by decide +kernel
theorem dX6_include_90 : decode cX6_include 90 = .ok (.iload 8, 2) := by decide +kernel
theorem dX6_include_92 : decode cX6_include 92 = .ok (.if_icmp .ge 46, 3) := by decide +kernel
theorem dX6_include_95 : decode cX6_include 95 = .ok (.iload 10, 2) := by decide +kernel
theorem dX6_include_97 : decode cX6_include 97 = .ok (.iload 11, 2) := by decide +kernel
theorem dX6_include_99 : decode cX6_include 99 = .ok (.invokestatic 51, 3) := by decide +kernel
theorem dX6_include_102 : decode cX6_include 102 = .ok (.ifCond .ne 6, 3) := by decide +kernel
theorem dX6_include_105 : decode cX6_include 105 = .ok (.goto 27, 3) := by decide +kernel
theorem dX6_include_108 : decode cX6_include 108 = .ok (.aload_n 0, 1) := by decide +kernel
theorem dX6_include_109 : decode cX6_include 109 = .ok (.lload_n 1, 1) := by decide +kernel
theorem dX6_include_110 : decode cX6_include 110 = .ok (.iload 9, 2) := by decide +kernel
theorem dX6_include_112 : decode cX6_include 112 = .ok (.iload 11, 2) := by decide +kernel
theorem dX6_include_114 : decode cX6_include 114 = .ok (.invokestatic 55, 3) := by decide +kernel
theorem dX6_include_117 : decode cX6_include 117 = .ok (.iload_n 3, 1) := by decide +kernel
theorem dX6_include_118 : decode cX6_include 118 = .ok (.iload 4, 2) := by decide +kernel
theorem dX6_include_120 : decode cX6_include 120 = .ok (.iload 5, 2) := by decide +kernel
theorem dX6_include_122 : decode cX6_include 122 = .ok (.iconst 1, 1) := by decide +kernel
theorem dX6_include_123 : decode cX6_include 123 = .ok (.iadd, 1) := by decide +kernel
theorem dX6_include_124 : decode cX6_include 124 = .ok (.invokevirtual 63, 3) := by decide +kernel
theorem dX6_include_127 : decode cX6_include 127 = .ok (.ifCond .ne 5, 3) := by decide +kernel
theorem dX6_include_130 : decode cX6_include 130 = .ok (.iconst 0, 1) := by decide +kernel
theorem dX6_include_131 : decode cX6_include 131 = .ok (.ireturn, 1) := by decide +kernel
theorem dX6_include_132 : decode cX6_include 132 = .ok (.iinc 11 1, 3) := by decide +kernel
theorem dX6_include_135 : decode cX6_include 135 = .ok (.goto (-47), 3) := by decide +kernel
theorem dX6_include_138 : decode cX6_include 138 = .ok (.iinc 9 1, 3) := by decide +kernel
theorem dX6_include_141 : decode cX6_include 141 = .ok (.goto (-90), 3) := by decide +kernel
theorem dX6_include_144 : decode cX6_include 144 = .ok (.aload_n 0, 1) := by decide +kernel
theorem dX6_include_145 : decode cX6_include 145 = .ok (.getfield 32, 3) := by decide +kernel
theorem dX6_include_148 : decode cX6_include 148 = .ok (.lload 6, 2) := by decide +kernel
theorem dX6_include_150 : decode cX6_include 150 = .ok (.invokevirtual 96, 3) := by decide +kernel
theorem dX6_include_153 : decode cX6_include 153 = .ok (.pop, 1) := by decide +kernel
theorem dX6_include_154 : decode cX6_include 154 = .ok (.iconst 1, 1) := by decide +kernel
theorem dX6_include_155 : decode cX6_include 155 = .ok (.ireturn, 1) := by decide +kernel
theorem dX7_init_0 : decode cX7_init 0 = .ok (.aload_n 0, 1) := by decide +kernel
theorem dX7_init_1 : decode cX7_init 1 = .ok (.invokespecial 1, 3) := by decide +kernel
theorem dX7_init_4 : decode cX7_init 4 = .ok (.aload_n 0, 1) := by decide +kernel
theorem dX7_init_5 : decode cX7_init 5 = .ok (.iload_n 1, 1) := by decide +kernel
theorem dX7_init_6 : decode cX7_init 6 = .ok (.putfield 7, 3) := by decide +kernel
theorem dX7_init_9 : decode cX7_init 9 = .ok (.aload_n 0, 1) := by decide +kernel
theorem dX7_init_10 : decode cX7_init 10 = .ok (.iload_n 2, 1) := by decide +kernel
theorem dX7_init_11 : decode cX7_init 11 = .ok (.newarray .int, 2) := by decide +kernel
theorem dX7_init_13 : decode cX7_init 13 = .ok (.putfield 13, 3) := by decide +kernel
theorem dX7_init_16 : decode cX7_init 16 = .ok (.return_, 1) := by decide +kernel
theorem dX7_has_0 : decode cX7_has 0 = .ok (.iload_n 1, 1) := by decide +kernel
theorem dX7_has_1 : decode cX7_has 1 = .ok (.ifCond .lt 22, 3) := by decide +kernel
theorem dX7_has_4 : decode cX7_has 4 = .ok (.iload_n 2, 1) := by decide +kernel
theorem dX7_has_5 : decode cX7_has 5 = .ok (.ifCond .lt 18, 3) := by decide +kernel
theorem dX7_has_8 : decode cX7_has 8 = .ok (.iload_n 1, 1) := by decide +kernel
theorem dX7_has_9 : decode cX7_has 9 = .ok (.aload_n 0, 1) := by decide +kernel
theorem dX7_has_10 : decode cX7_has 10 = .ok (.getfield 13, 3) := by decide +kernel
theorem dX7_has_13 : decode cX7_has 13 = .ok (.arraylength, 1) := by decide +kernel
theorem dX7_has_14 : decode cX7_has 14 = .ok (.iload_n 2, 1) := by decide +kernel
theorem dX7_has_15 : decode cX7_has 15 = .ok (.isub, 1) := by decide +kernel
theorem dX7_has_16 : decode cX7_has 16 = .ok (.if_icmp .gt 7, 3) := by decide +kernel
theorem dX7_has_19 : decode cX7_has 19 = .ok (.iconst 1, 1) := by decide +kernel
theorem dX7_has_20 : decode cX7_has 20 = .ok (.goto 4, 3) := by decide +kernel
theorem dX7_has_23 : decode cX7_has 23 = .ok (.iconst 0, 1) := by decide +kernel
theorem dX7_has_24 : decode cX7_has 24 = .ok (.ireturn, 1) := by decide +kernel
theorem dX7_at_0 : decode cX7_at 0 = .ok (.aload_n 0, 1) := by decide +kernel
theorem dX7_at_1 : decode cX7_at 1 = .ok (.iload_n 1, 1) := by decide +kernel
theorem dX7_at_2 : decode cX7_at 2 = .ok (.iconst 1, 1) := by decide +kernel
theorem dX7_at_3 : decode cX7_at 3 = .ok (.invokevirtual 17, 3) := by decide +kernel
theorem dX7_at_6 : decode cX7_at 6 = .ok (.ifCond .eq 12, 3) := by decide +kernel
theorem dX7_at_9 : decode cX7_at 9 = .ok (.aload_n 0, 1) := by decide +kernel
theorem dX7_at_10 : decode cX7_at 10 = .ok (.getfield 13, 3) := by decide +kernel
theorem dX7_at_13 : decode cX7_at 13 = .ok (.iload_n 1, 1) := by decide +kernel
theorem dX7_at_14 : decode cX7_at 14 = .ok (.iaload, 1) := by decide +kernel
theorem dX7_at_15 : decode cX7_at 15 = .ok (.goto 4, 3) := by decide +kernel
theorem dX7_at_18 : decode cX7_at 18 = .ok (.iconst 0, 1) := by decide +kernel
theorem dX7_at_19 : decode cX7_at 19 = .ok (.ireturn, 1) := by decide +kernel
theorem dX7_set_0 : decode cX7_set 0 = .ok (.aload_n 0, 1) := by decide +kernel
theorem dX7_set_1 : decode cX7_set 1 = .ok (.iload_n 1, 1) := by decide +kernel
theorem dX7_set_2 : decode cX7_set 2 = .ok (.iconst 1, 1) := by decide +kernel
theorem dX7_set_3 : decode cX7_set 3 = .ok (.invokevirtual 17, 3) := by decide +kernel
theorem dX7_set_6 : decode cX7_set 6 = .ok (.ifCond .eq 14, 3) := by decide +kernel
theorem dX7_set_9 : decode cX7_set 9 = .ok (.aload_n 0, 1) := by decide +kernel
theorem dX7_set_10 : decode cX7_set 10 = .ok (.getfield 13, 3) := by decide +kernel
theorem dX7_set_13 : decode cX7_set 13 = .ok (.iload_n 1, 1) := by decide +kernel
theorem dX7_set_14 : decode cX7_set 14 = .ok (.aload_n 0, 1) := by decide +kernel
theorem dX7_set_15 : decode cX7_set 15 = .ok (.iload_n 2, 1) := by decide +kernel
theorem dX7_set_16 : decode cX7_set 16 = .ok (.invokevirtual 21, 3) := by decide +kernel
theorem dX7_set_19 : decode cX7_set 19 = .ok (.iastore, 1) := by decide +kernel
theorem dX7_set_20 : decode cX7_set 20 = .ok (.return_, 1) := by decide +kernel
theorem dX7_cut_0 : decode cX7_cut 0 = .ok (.aload_n 0, 1) := by decide +kernel
theorem dX7_cut_1 : decode cX7_cut 1 = .ok (.getfield 7, 3) := by decide +kernel
theorem dX7_cut_4 : decode cX7_cut 4 = .ok (.ifCond .ne 8, 3) := by decide +kernel
theorem dX7_cut_7 : decode cX7_cut 7 = .ok (.iload_n 1, 1) := by decide +kernel
theorem dX7_cut_8 : decode cX7_cut 8 = .ok (.i2b, 1) := by decide +kernel
theorem dX7_cut_9 : decode cX7_cut 9 = .ok (.goto 17, 3) := by decide +kernel
theorem dX7_cut_12 : decode cX7_cut 12 = .ok (.aload_n 0, 1) := by decide +kernel
theorem dX7_cut_13 : decode cX7_cut 13 = .ok (.getfield 7, 3) := by decide +kernel
theorem dX7_cut_16 : decode cX7_cut 16 = .ok (.iconst 1, 1) := by decide +kernel
theorem dX7_cut_17 : decode cX7_cut 17 = .ok (.if_icmp .ne 8, 3) := by decide +kernel
theorem dX7_cut_20 : decode cX7_cut 20 = .ok (.iload_n 1, 1) := by decide +kernel
theorem dX7_cut_21 : decode cX7_cut 21 = .ok (.i2s, 1) := by decide +kernel
theorem dX7_cut_22 : decode cX7_cut 22 = .ok (.goto 4, 3) := by decide +kernel
theorem dX7_cut_25 : decode cX7_cut 25 = .ok (.iload_n 1, 1) := by decide +kernel
theorem dX7_cut_26 : decode cX7_cut 26 = .ok (.ireturn, 1) := by decide +kernel
theorem dX8_init_0 : decode cX8_init 0 = .ok (.aload_n 0, 1) := by decide +kernel
theorem dX8_init_1 : decode cX8_init 1 = .ok (.invokespecial 3, 3) := by decide +kernel
theorem dX8_init_4 : decode cX8_init 4 = .ok (.aload_n 0, 1) := by decide +kernel
theorem dX8_init_5 : decode cX8_init 5 = .ok (.sipush 8192, 3) := by decide +kernel
theorem dX8_init_8 : decode cX8_init 8 = .ok (.newarray .long, 2) := by decide +kernel
theorem dX8_init_10 : decode cX8_init 10 = .ok (.putfield 9, 3) := by decide +kernel
theorem dX8_init_13 : decode cX8_init 13 = .ok (.return_, 1) := by decide +kernel
theorem dX8_makeRoom_0 : decode cX8_makeRoom 0 = .ok (.aload_n 0, 1) := by decide +kernel
theorem dX8_makeRoom_1 : decode cX8_makeRoom 1 = .ok (.getfield 13, 3) := by decide +kernel
theorem dX8_makeRoom_4 : decode cX8_makeRoom 4 = .ok (.sipush 6144, 3) := by decide +kernel
theorem dX8_makeRoom_7 : decode cX8_makeRoom 7 = .ok (.if_icmp .gt 4, 3) := by decide +kernel
theorem dX8_makeRoom_10 : decode cX8_makeRoom 10 = .ok (.return_, 1) := by decide +kernel
theorem dX8_makeRoom_11 : decode cX8_makeRoom 11 = .ok (.aload_n 0, 1) := by decide +kernel
theorem dX8_makeRoom_12 : decode cX8_makeRoom 12 = .ok (.getfield 9, 3) := by decide +kernel
theorem dX8_makeRoom_15 : decode cX8_makeRoom 15 = .ok (.lconst 0, 1) := by decide +kernel
theorem dX8_makeRoom_16 : decode cX8_makeRoom 16 = .ok (.invokestatic 17, 3) := by decide +kernel
theorem dX8_makeRoom_19 : decode cX8_makeRoom 19 = .ok (.aload_n 0, 1) := by decide +kernel
theorem dX8_makeRoom_20 : decode cX8_makeRoom 20 = .ok (.iconst 0, 1) := by decide +kernel
theorem dX8_makeRoom_21 : decode cX8_makeRoom 21 = .ok (.putfield 13, 3) := by decide +kernel
theorem dX8_makeRoom_24 : decode cX8_makeRoom 24 = .ok (.return_, 1) := by decide +kernel
theorem dX8_find_0 : decode cX8_find 0 = .ok (.aload_n 0, 1) := by decide +kernel
theorem dX8_find_1 : decode cX8_find 1 = .ok (.lload_n 1, 1) := by decide +kernel
theorem dX8_find_2 : decode cX8_find 2 = .ok (.invokevirtual 23, 3) := by decide +kernel
theorem dX8_find_5 : decode cX8_find 5 = .ok (.istore_n 3, 1) := by decide +kernel
theorem dX8_find_6 : decode cX8_find 6 = .ok (.iload_n 3, 1) := by decide +kernel
theorem dX8_find_7 : decode cX8_find 7 = .ok (.ifCond .lt 18, 3) := by decide +kernel
theorem dX8_find_10 : decode cX8_find 10 = .ok (.aload_n 0, 1) := by decide +kernel
theorem dX8_find_11 : decode cX8_find 11 = .ok (.getfield 9, 3) := by decide +kernel
theorem dX8_find_14 : decode cX8_find 14 = .ok (.iload_n 3, 1) := by decide +kernel
theorem dX8_find_15 : decode cX8_find 15 = .ok (.laload, 1) := by decide +kernel
theorem dX8_find_16 : decode cX8_find 16 = .ok (.lload_n 1, 1) := by decide +kernel
theorem dX8_find_17 : decode cX8_find 17 = .ok (.lcmp, 1) := by decide +kernel
theorem dX8_find_18 : decode cX8_find 18 = .ok (.ifCond .ne 7, 3) := by decide +kernel
theorem dX8_find_21 : decode cX8_find 21 = .ok (.iload_n 3, 1) := by decide +kernel
theorem dX8_find_22 : decode cX8_find 22 = .ok (.goto 4, 3) := by decide +kernel
theorem dX8_find_25 : decode cX8_find 25 = .ok (.iconst (-1), 1) := by decide +kernel
theorem dX8_find_26 : decode cX8_find 26 = .ok (.ireturn, 1) := by decide +kernel
theorem dX8_take_0 : decode cX8_take 0 = .ok (.aload_n 0, 1) := by decide +kernel
theorem dX8_take_1 : decode cX8_take 1 = .ok (.lload_n 1, 1) := by decide +kernel
theorem dX8_take_2 : decode cX8_take 2 = .ok (.invokevirtual 23, 3) := by decide +kernel
theorem dX8_take_5 : decode cX8_take 5 = .ok (.istore_n 3, 1) := by decide +kernel
theorem dX8_take_6 : decode cX8_take 6 = .ok (.iload_n 3, 1) := by decide +kernel
theorem dX8_take_7 : decode cX8_take 7 = .ok (.ifCond .lt 31, 3) := by decide +kernel
theorem dX8_take_10 : decode cX8_take 10 = .ok (.aload_n 0, 1) := by decide +kernel
theorem dX8_take_11 : decode cX8_take 11 = .ok (.getfield 9, 3) := by decide +kernel
theorem dX8_take_14 : decode cX8_take 14 = .ok (.iload_n 3, 1) := by decide +kernel
theorem dX8_take_15 : decode cX8_take 15 = .ok (.laload, 1) := by decide +kernel
theorem dX8_take_16 : decode cX8_take 16 = .ok (.lconst 0, 1) := by decide +kernel
theorem dX8_take_17 : decode cX8_take 17 = .ok (.lcmp, 1) := by decide +kernel
theorem dX8_take_18 : decode cX8_take 18 = .ok (.ifCond .ne 20, 3) := by decide +kernel
theorem dX8_take_21 : decode cX8_take 21 = .ok (.aload_n 0, 1) := by decide +kernel
theorem dX8_take_22 : decode cX8_take 22 = .ok (.getfield 9, 3) := by decide +kernel
theorem dX8_take_25 : decode cX8_take 25 = .ok (.iload_n 3, 1) := by decide +kernel
theorem dX8_take_26 : decode cX8_take 26 = .ok (.lload_n 1, 1) := by decide +kernel
theorem dX8_take_27 : decode cX8_take 27 = .ok (.lastore, 1) := by decide +kernel
theorem dX8_take_28 : decode cX8_take 28 = .ok (.aload_n 0, 1) := by decide +kernel
theorem dX8_take_29 : decode cX8_take 29 = .ok (.dup, 1) := by decide +kernel
theorem dX8_take_30 : decode cX8_take 30 = .ok (.getfield 13, 3) := by decide +kernel
theorem dX8_take_33 : decode cX8_take 33 = .ok (.iconst 1, 1) := by decide +kernel
theorem dX8_take_34 : decode cX8_take 34 = .ok (.iadd, 1) := by decide +kernel
theorem dX8_take_35 : decode cX8_take 35 = .ok (.putfield 13, 3) := by decide +kernel
theorem dX8_take_38 : decode cX8_take 38 = .ok (.iload_n 3, 1) := by decide +kernel
theorem dX8_take_39 : decode cX8_take 39 = .ok (.ireturn, 1) := by decide +kernel
theorem dX8_slotFor_0 : decode cX8_slotFor 0 = .ok (.lload_n 1, 1) := by decide +kernel
theorem dX8_slotFor_1 : decode cX8_slotFor 1 = .ok (.ldc2_w 27, 3) := by decide +kernel
theorem dX8_slotFor_4 : decode cX8_slotFor 4 = .ok (.lmul, 1) := by decide +kernel
theorem dX8_slotFor_5 : decode cX8_slotFor 5 = .ok (.bipush 51, 2) := by decide +kernel
theorem dX8_slotFor_7 : decode cX8_slotFor 7 = .ok (.lushr, 1) := by decide +kernel
theorem dX8_slotFor_8 : decode cX8_slotFor 8 = .ok (.l2i, 1) := by decide +kernel
theorem dX8_slotFor_9 : decode cX8_slotFor 9 = .ok (.istore_n 3, 1) := by decide +kernel
theorem dX8_slotFor_10 : decode cX8_slotFor 10 = .ok (.iconst 0, 1) := by decide +kernel
theorem dX8_slotFor_11 : decode cX8_slotFor 11 = .ok (.istore 4, 2) := by decide +kernel
theorem dX8_slotFor_13 : decode cX8_slotFor 13 = .ok (.iload 4, 2) := by decide +kernel
theorem dX8_slotFor_15 : decode cX8_slotFor 15 = .ok (.sipush 8192, 3) := by decide +kernel
theorem dX8_slotFor_18 : decode cX8_slotFor 18 = .ok (.if_icmp .ge 46, 3) := by decide +kernel
theorem dX8_slotFor_21 : decode cX8_slotFor 21 = .ok (.iload_n 3, 1) := by decide +kernel
theorem dX8_slotFor_22 : decode cX8_slotFor 22 = .ok (.iload 4, 2) := by decide +kernel
theorem dX8_slotFor_24 : decode cX8_slotFor 24 = .ok (.iadd, 1) := by decide +kernel
theorem dX8_slotFor_25 : decode cX8_slotFor 25 = .ok (.sipush 8191, 3) := by decide +kernel
theorem dX8_slotFor_28 : decode cX8_slotFor 28 = .ok (.iand, 1) := by decide +kernel
theorem dX8_slotFor_29 : decode cX8_slotFor 29 = .ok (.istore 5, 2) := by decide +kernel
theorem dX8_slotFor_31 : decode cX8_slotFor 31 = .ok (.aload_n 0, 1) := by decide +kernel
theorem dX8_slotFor_32 : decode cX8_slotFor 32 = .ok (.getfield 9, 3) := by decide +kernel
theorem dX8_slotFor_35 : decode cX8_slotFor 35 = .ok (.iload 5, 2) := by decide +kernel
theorem dX8_slotFor_37 : decode cX8_slotFor 37 = .ok (.laload, 1) := by decide +kernel
theorem dX8_slotFor_38 : decode cX8_slotFor 38 = .ok (.lload_n 1, 1) := by decide +kernel
theorem dX8_slotFor_39 : decode cX8_slotFor 39 = .ok (.lcmp, 1) := by decide +kernel
theorem dX8_slotFor_40 : decode cX8_slotFor 40 = .ok (.ifCond .eq 15, 3) := by decide +kernel
theorem dX8_slotFor_43 : decode cX8_slotFor 43 = .ok (.aload_n 0, 1) := by decide +kernel
theorem dX8_slotFor_44 : decode cX8_slotFor 44 = .ok (.getfield 9, 3) := by decide +kernel
theorem dX8_slotFor_47 : decode cX8_slotFor 47 = .ok (.iload 5, 2) := by decide +kernel
theorem dX8_slotFor_49 : decode cX8_slotFor 49 = .ok (.laload, 1) := by decide +kernel
theorem dX8_slotFor_50 : decode cX8_slotFor 50 = .ok (.lconst 0, 1) := by decide +kernel
theorem dX8_slotFor_51 : decode cX8_slotFor 51 = .ok (.lcmp, 1) := by decide +kernel
theorem dX8_slotFor_52 : decode cX8_slotFor 52 = .ok (.ifCond .ne 6, 3) := by decide +kernel
theorem dX8_slotFor_55 : decode cX8_slotFor 55 = .ok (.iload 5, 2) := by decide +kernel
theorem dX8_slotFor_57 : decode cX8_slotFor 57 = .ok (.ireturn, 1) := by decide +kernel
theorem dX8_slotFor_58 : decode cX8_slotFor 58 = .ok (.iinc 4 1, 3) := by decide +kernel
theorem dX8_slotFor_61 : decode cX8_slotFor 61 = .ok (.goto (-48), 3) := by decide +kernel
theorem dX8_slotFor_64 : decode cX8_slotFor 64 = .ok (.iconst (-1), 1) := by decide +kernel
theorem dX8_slotFor_65 : decode cX8_slotFor 65 = .ok (.ireturn, 1) := by decide +kernel
theorem dX9_init_0 : decode cX9_init 0 = .ok (.aload_n 0, 1) := by decide +kernel
theorem dX9_init_1 : decode cX9_init 1 = .ok (.invokespecial 1, 3) := by decide +kernel
theorem dX9_init_4 : decode cX9_init 4 = .ok (.return_, 1) := by decide +kernel
theorem dX9_leave_0 : decode cX9_leave 0 = .ok (.aload_n 0, 1) := by decide +kernel
theorem dX9_leave_1 : decode cX9_leave 1 = .ok (.bipush 31, 2) := by decide +kernel
theorem dX9_leave_3 : decode cX9_leave 3 = .ok (.aload_n 0, 1) := by decide +kernel
theorem dX9_leave_4 : decode cX9_leave 4 = .ok (.getfield 7, 3) := by decide +kernel
theorem dX9_leave_7 : decode cX9_leave 7 = .ok (.imul, 1) := by decide +kernel
theorem dX9_leave_8 : decode cX9_leave 8 = .ok (.iload_n 1, 1) := by decide +kernel
theorem dX9_leave_9 : decode cX9_leave 9 = .ok (.iadd, 1) := by decide +kernel
theorem dX9_leave_10 : decode cX9_leave 10 = .ok (.putfield 7, 3) := by decide +kernel
theorem dX9_leave_13 : decode cX9_leave 13 = .ok (.return_, 1) := by decide +kernel
theorem dX10_init_0 : decode cX10_init 0 = .ok (.aload_n 0, 1) := by decide +kernel
theorem dX10_init_1 : decode cX10_init 1 = .ok (.iload_n 1, 1) := by decide +kernel
theorem dX10_init_2 : decode cX10_init 2 = .ok (.iload_n 2, 1) := by decide +kernel
theorem dX10_init_3 : decode cX10_init 3 = .ok (.iload_n 3, 1) := by decide +kernel
theorem dX10_init_4 : decode cX10_init 4 = .ok (.lload 4, 2) := by decide +kernel
theorem dX10_init_6 : decode cX10_init 6 = .ok (.lload 6, 2) := by decide +kernel
theorem dX10_init_8 : decode cX10_init 8 = .ok (.invokespecial 1, 3) := by decide +kernel
theorem dX10_init_11 : decode cX10_init 11 = .ok (.return_, 1) := by decide +kernel
theorem dX10_kind_0 : decode cX10_kind 0 = .ok (.iconst 2, 1) := by decide +kernel
theorem dX10_kind_1 : decode cX10_kind 1 = .ok (.ireturn, 1) := by decide +kernel
theorem dX10_telling_0 : decode cX10_telling 0 = .ok (.aload_n 1, 1) := by decide +kernel
theorem dX10_telling_1 : decode cX10_telling 1 = .ok (.iconst 3, 1) := by decide +kernel
theorem dX10_telling_2 : decode cX10_telling 2 = .ok (.invokevirtual 7, 3) := by decide +kernel
theorem dX10_telling_5 : decode cX10_telling 5 = .ok (.aload_n 0, 1) := by decide +kernel
theorem dX10_telling_6 : decode cX10_telling 6 = .ok (.aload_n 1, 1) := by decide +kernel
theorem dX10_telling_7 : decode cX10_telling 7 = .ok (.invokespecial 13, 3) := by decide +kernel
theorem dX10_telling_10 : decode cX10_telling 10 = .ok (.istore_n 2, 1) := by decide +kernel
theorem dX10_telling_11 : decode cX10_telling 11 = .ok (.iload_n 2, 1) := by decide +kernel
theorem dX10_telling_12 : decode cX10_telling 12 = .ok (.aload_n 0, 1) := by decide +kernel
theorem dX10_telling_13 : decode cX10_telling 13 = .ok (.aload_n 1, 1) := by decide +kernel
theorem dX10_telling_14 : decode cX10_telling 14 = .ok (.invokevirtual 17, 3) := by decide +kernel
theorem dX10_telling_17 : decode cX10_telling 17 = .ok (.iadd, 1) := by decide +kernel
theorem dX10_telling_18 : decode cX10_telling 18 = .ok (.ireturn, 1) := by decide +kernel
theorem dX10_logged_0 : decode cX10_logged 0 = .ok (.aload_n 1, 1) := by decide +kernel
theorem dX10_logged_1 : decode cX10_logged 1 = .ok (.iconst 5, 1) := by decide +kernel
theorem dX10_logged_2 : decode cX10_logged 2 = .ok (.invokevirtual 7, 3) := by decide +kernel
theorem dX10_logged_5 : decode cX10_logged 5 = .ok (.bipush 70, 2) := by decide +kernel
theorem dX10_logged_7 : decode cX10_logged 7 = .ok (.ireturn, 1) := by decide +kernel
theorem dX11_init_0 : decode cX11_init 0 = .ok (.aload_n 0, 1) := by decide +kernel
theorem dX11_init_1 : decode cX11_init 1 = .ok (.invokespecial 3, 3) := by decide +kernel
theorem dX11_init_4 : decode cX11_init 4 = .ok (.aload_n 0, 1) := by decide +kernel
theorem dX11_init_5 : decode cX11_init 5 = .ok (.iconst 4, 1) := by decide +kernel
theorem dX11_init_6 : decode cX11_init 6 = .ok (.anewarray 11, 3) := by decide +kernel
theorem dX11_init_9 : decode cX11_init 9 = .ok (.putfield 13, 3) := by decide +kernel
theorem dX11_init_12 : decode cX11_init 12 = .ok (.aload_n 0, 1) := by decide +kernel
theorem dX11_init_13 : decode cX11_init 13 = .ok (.bipush 12, 2) := by decide +kernel
theorem dX11_init_15 : decode cX11_init 15 = .ok (.anewarray 17, 3) := by decide +kernel
theorem dX11_init_18 : decode cX11_init 18 = .ok (.putfield 19, 3) := by decide +kernel
theorem dX11_init_21 : decode cX11_init 21 = .ok (.aload_n 0, 1) := by decide +kernel
theorem dX11_init_22 : decode cX11_init 22 = .ok (.new 23, 3) := by decide +kernel
theorem dX11_init_25 : decode cX11_init 25 = .ok (.dup, 1) := by decide +kernel
theorem dX11_init_26 : decode cX11_init 26 = .ok (.invokespecial 25, 3) := by decide +kernel
theorem dX11_init_29 : decode cX11_init 29 = .ok (.putfield 26, 3) := by decide +kernel
theorem dX11_init_32 : decode cX11_init 32 = .ok (.aload_n 0, 1) := by decide +kernel
theorem dX11_init_33 : decode cX11_init 33 = .ok (.new 30, 3) := by decide +kernel
theorem dX11_init_36 : decode cX11_init 36 = .ok (.dup, 1) := by decide +kernel
theorem dX11_init_37 : decode cX11_init 37 = .ok (.invokespecial 32, 3) := by decide +kernel
theorem dX11_init_40 : decode cX11_init 40 = .ok (.putfield 33, 3) := by decide +kernel
theorem dX11_init_43 : decode cX11_init 43 = .ok (.aload_n 0, 1) := by decide +kernel
theorem dX11_init_44 : decode cX11_init 44 = .ok (.new 37, 3) := by decide +kernel
theorem dX11_init_47 : decode cX11_init 47 = .ok (.dup, 1) := by decide +kernel
theorem dX11_init_48 : decode cX11_init 48 = .ok (.invokespecial 39, 3) := by decide +kernel
theorem dX11_init_51 : decode cX11_init 51 = .ok (.putfield 40, 3) := by decide +kernel
theorem dX11_init_54 : decode cX11_init 54 = .ok (.aload_n 0, 1) := by decide +kernel
theorem dX11_init_55 : decode cX11_init 55 = .ok (.iconst 4, 1) := by decide +kernel
theorem dX11_init_56 : decode cX11_init 56 = .ok (.newarray .int, 2) := by decide +kernel
theorem dX11_init_58 : decode cX11_init 58 = .ok (.putfield 44, 3) := by decide +kernel
theorem dX11_init_61 : decode cX11_init 61 = .ok (.aload_n 0, 1) := by decide +kernel
theorem dX11_init_62 : decode cX11_init 62 = .ok (.bipush 48, 2) := by decide +kernel
theorem dX11_init_64 : decode cX11_init 64 = .ok (.newarray .int, 2) := by decide +kernel
theorem dX11_init_66 : decode cX11_init 66 = .ok (.putfield 48, 3) := by decide +kernel
theorem dX11_init_69 : decode cX11_init 69 = .ok (.return_, 1) := by decide +kernel
theorem dX11_net_0 : decode cX11_net 0 = .ok (.aload_n 0, 1) := by decide +kernel
theorem dX11_net_1 : decode cX11_net 1 = .ok (.iconst 0, 1) := by decide +kernel
theorem dX11_net_2 : decode cX11_net 2 = .ok (.putfield 51, 3) := by decide +kernel
theorem dX11_net_5 : decode cX11_net 5 = .ok (.aload_n 0, 1) := by decide +kernel
theorem dX11_net_6 : decode cX11_net 6 = .ok (.iload_n 1, 1) := by decide +kernel
theorem dX11_net_7 : decode cX11_net 7 = .ok (.invokevirtual 55, 3) := by decide +kernel
theorem dX11_net_10 : decode cX11_net 10 = .ok (.ifCond .ne 5, 3) := by decide +kernel
theorem dX11_net_13 : decode cX11_net 13 = .ok (.iconst (-1), 1) := by decide +kernel
theorem dX11_net_14 : decode cX11_net 14 = .ok (.ireturn, 1) := by decide +kernel
theorem dX11_net_15 : decode cX11_net 15 = .ok (.aload_n 0, 1) := by decide +kernel
theorem dX11_net_16 : decode cX11_net 16 = .ok (.iload_n 2, 1) := by decide +kernel
theorem dX11_net_17 : decode cX11_net 17 = .ok (.invokevirtual 59, 3) := by decide +kernel
theorem dX11_net_20 : decode cX11_net 20 = .ok (.ifCond .ne 6, 3) := by decide +kernel
theorem dX11_net_23 : decode cX11_net 23 = .ok (.bipush (-2), 2) := by decide +kernel
theorem dX11_net_25 : decode cX11_net 25 = .ok (.ireturn, 1) := by decide +kernel
theorem dX11_net_26 : decode cX11_net 26 = .ok (.aload_n 0, 1) := by decide +kernel
theorem dX11_net_27 : decode cX11_net 27 = .ok (.getfield 13, 3) := by decide +kernel
theorem dX11_net_30 : decode cX11_net 30 = .ok (.iload_n 1, 1) := by decide +kernel
theorem dX11_net_31 : decode cX11_net 31 = .ok (.aaload, 1) := by decide +kernel
theorem dX11_net_32 : decode cX11_net 32 = .ok (.astore 5, 2) := by decide +kernel
theorem dX11_net_34 : decode cX11_net 34 = .ok (.aload 5, 2) := by decide +kernel
theorem dX11_net_36 : decode cX11_net 36 = .ok (.ifnonnull 9, 3) := by decide +kernel
theorem dX11_net_39 : decode cX11_net 39 = .ok (.aload_n 0, 1) := by decide +kernel
theorem dX11_net_40 : decode cX11_net 40 = .ok (.iconst 1, 1) := by decide +kernel
theorem dX11_net_41 : decode cX11_net 41 = .ok (.invokevirtual 62, 3) := by decide +kernel
theorem dX11_net_44 : decode cX11_net 44 = .ok (.ireturn, 1) := by decide +kernel
theorem dX11_net_45 : decode cX11_net 45 = .ok (.aload 5, 2) := by decide +kernel
theorem dX11_net_47 : decode cX11_net 47 = .ok (.getfield 66, 3) := by decide +kernel
theorem dX11_net_50 : decode cX11_net 50 = .ok (.iload_n 2, 1) := by decide +kernel
theorem dX11_net_51 : decode cX11_net 51 = .ok (.if_icmp .eq 9, 3) := by decide +kernel
theorem dX11_net_54 : decode cX11_net 54 = .ok (.aload_n 0, 1) := by decide +kernel
theorem dX11_net_55 : decode cX11_net 55 = .ok (.iconst 2, 1) := by decide +kernel
theorem dX11_net_56 : decode cX11_net 56 = .ok (.invokevirtual 62, 3) := by decide +kernel
theorem dX11_net_59 : decode cX11_net 59 = .ok (.ireturn, 1) := by decide +kernel
theorem dX11_net_60 : decode cX11_net 60 = .ok (.iload 4, 2) := by decide +kernel
theorem dX11_net_62 : decode cX11_net 62 = .ok (.ifCond .ge 9, 3) := by decide +kernel
theorem dX11_net_65 : decode cX11_net 65 = .ok (.aload_n 0, 1) := by decide +kernel
theorem dX11_net_66 : decode cX11_net 66 = .ok (.iconst 4, 1) := by decide +kernel
theorem dX11_net_67 : decode cX11_net 67 = .ok (.invokevirtual 62, 3) := by decide +kernel
theorem dX11_net_70 : decode cX11_net 70 = .ok (.ireturn, 1) := by decide +kernel
theorem dX11_net_71 : decode cX11_net 71 = .ok (.aload 5, 2) := by decide +kernel
theorem dX11_net_73 : decode cX11_net 73 = .ok (.iload_n 3, 1) := by decide +kernel
theorem dX11_net_74 : decode cX11_net 74 = .ok (.iload 4, 2) := by decide +kernel
theorem dX11_net_76 : decode cX11_net 76 = .ok (.invokevirtual 69, 3) := by decide +kernel
theorem dX11_net_79 : decode cX11_net 79 = .ok (.ifCond .ne 9, 3) := by decide +kernel
theorem dX11_net_82 : decode cX11_net 82 = .ok (.aload_n 0, 1) := by decide +kernel
theorem dX11_net_83 : decode cX11_net 83 = .ok (.iconst 3, 1) := by decide +kernel
theorem dX11_net_84 : decode cX11_net 84 = .ok (.invokevirtual 62, 3) := by decide +kernel
theorem dX11_net_87 : decode cX11_net 87 = .ok (.ireturn, 1) := by decide +kernel
theorem dX11_net_88 : decode cX11_net 88 = .ok (.new 73, 3) := by decide +kernel
theorem dX11_net_91 : decode cX11_net 91 = .ok (.dup, 1) := by decide +kernel
theorem dX11_net_92 : decode cX11_net 92 = .ok (.invokespecial 75, 3) := by decide +kernel
theorem dX11_net_95 : decode cX11_net 95 = .ok (.astore 6, 2) := by decide +kernel
theorem dX11_net_97 : decode cX11_net 97 = .ok (.aload 6, 2) := by decide +kernel
theorem dX11_net_99 : decode cX11_net 99 = .ok (.aload 5, 2) := by decide +kernel
theorem dX11_net_101 : decode cX11_net 101 = .ok (.iload_n 3, 1) := by decide +kernel
theorem dX11_net_102 : decode cX11_net 102 = .ok (.iload 4, 2) := by decide +kernel
theorem dX11_net_104 : decode cX11_net 104 = .ok (.invokevirtual 76, 3) := by decide +kernel
theorem dX11_net_107 : decode cX11_net 107 = .ok (.istore 7, 2) := by decide +kernel
theorem dX11_net_109 : decode cX11_net 109 = .ok (.iload 7, 2) := by decide +kernel
theorem dX11_net_111 : decode cX11_net 111 = .ok (.ifCond .lt 9, 3) := by decide +kernel
theorem dX11_net_114 : decode cX11_net 114 = .ok (.bipush (-100), 2) := by decide +kernel
theorem dX11_net_116 : decode cX11_net 116 = .ok (.iload 7, 2) := by decide +kernel
theorem dX11_net_118 : decode cX11_net 118 = .ok (.isub, 1) := by decide +kernel
theorem dX11_net_119 : decode cX11_net 119 = .ok (.ireturn, 1) := by decide +kernel
theorem dX11_net_120 : decode cX11_net 120 = .ok (.aload_n 0, 1) := by decide +kernel
theorem dX11_net_121 : decode cX11_net 121 = .ok (.aload 6, 2) := by decide +kernel
theorem dX11_net_123 : decode cX11_net 123 = .ok (.getfield 80, 3) := by decide +kernel
theorem dX11_net_126 : decode cX11_net 126 = .ok (.aload 6, 2) := by decide +kernel
theorem dX11_net_128 : decode cX11_net 128 = .ok (.getfield 83, 3) := by decide +kernel
theorem dX11_net_131 : decode cX11_net 131 = .ok (.invokestatic 86, 3) := by decide +kernel
theorem dX11_net_134 : decode cX11_net 134 = .ok (.invokevirtual 92, 3) := by decide +kernel
theorem dX11_net_137 : decode cX11_net 137 = .ok (.aload 6, 2) := by decide +kernel
theorem dX11_net_139 : decode cX11_net 139 = .ok (.getfield 80, 3) := by decide +kernel
theorem dX11_net_142 : decode cX11_net 142 = .ok (.ireturn, 1) := by decide +kernel
theorem dX11_ofPerson_0 : decode cX11_ofPerson 0 = .ok (.aload_n 0, 1) := by decide +kernel
theorem dX11_ofPerson_1 : decode cX11_ofPerson 1 = .ok (.iload_n 1, 1) := by decide +kernel
theorem dX11_ofPerson_2 : decode cX11_ofPerson 2 = .ok (.invokevirtual 96, 3) := by decide +kernel
theorem dX11_ofPerson_5 : decode cX11_ofPerson 5 = .ok (.ifCond .ne 5, 3) := by decide +kernel
theorem dX11_ofPerson_8 : decode cX11_ofPerson 8 = .ok (.iconst (-1), 1) := by decide +kernel
theorem dX11_ofPerson_9 : decode cX11_ofPerson 9 = .ok (.ireturn, 1) := by decide +kernel
theorem dX11_ofPerson_10 : decode cX11_ofPerson 10 = .ok (.iload_n 2, 1) := by decide +kernel
theorem dX11_ofPerson_11 : decode cX11_ofPerson 11 = .ok (.tableswitch 102 0 5 #[37, 46, 55, 64, 76, 89], 37) := by decide +kernel
theorem dX11_ofPerson_48 : decode cX11_ofPerson 48 = .ok (.aload_n 0, 1) := by decide +kernel
theorem dX11_ofPerson_49 : decode cX11_ofPerson 49 = .ok (.getfield 99, 3) := by decide +kernel
theorem dX11_ofPerson_52 : decode cX11_ofPerson 52 = .ok (.iload_n 1, 1) := by decide +kernel
theorem dX11_ofPerson_53 : decode cX11_ofPerson 53 = .ok (.invokestatic 103, 3) := by decide +kernel
theorem dX11_ofPerson_56 : decode cX11_ofPerson 56 = .ok (.ireturn, 1) := by decide +kernel
theorem dX11_ofPerson_57 : decode cX11_ofPerson 57 = .ok (.aload_n 0, 1) := by decide +kernel
theorem dX11_ofPerson_58 : decode cX11_ofPerson 58 = .ok (.getfield 99, 3) := by decide +kernel
theorem dX11_ofPerson_61 : decode cX11_ofPerson 61 = .ok (.iload_n 1, 1) := by decide +kernel
theorem dX11_ofPerson_62 : decode cX11_ofPerson 62 = .ok (.invokestatic 107, 3) := by decide +kernel
theorem dX11_ofPerson_65 : decode cX11_ofPerson 65 = .ok (.ireturn, 1) := by decide +kernel
theorem dX11_ofPerson_66 : decode cX11_ofPerson 66 = .ok (.aload_n 0, 1) := by decide +kernel
theorem dX11_ofPerson_67 : decode cX11_ofPerson 67 = .ok (.getfield 110, 3) := by decide +kernel
theorem dX11_ofPerson_70 : decode cX11_ofPerson 70 = .ok (.iload_n 1, 1) := by decide +kernel
theorem dX11_ofPerson_71 : decode cX11_ofPerson 71 = .ok (.invokestatic 107, 3) := by decide +kernel
theorem dX11_ofPerson_74 : decode cX11_ofPerson 74 = .ok (.ireturn, 1) := by decide +kernel
theorem dX11_ofPerson_75 : decode cX11_ofPerson 75 = .ok (.aload_n 0, 1) := by decide +kernel
theorem dX11_ofPerson_76 : decode cX11_ofPerson 76 = .ok (.getfield 99, 3) := by decide +kernel
theorem dX11_ofPerson_79 : decode cX11_ofPerson 79 = .ok (.iload_n 1, 1) := by decide +kernel
theorem dX11_ofPerson_80 : decode cX11_ofPerson 80 = .ok (.invokestatic 113, 3) := by decide +kernel
theorem dX11_ofPerson_83 : decode cX11_ofPerson 83 = .ok (.invokestatic 117, 3) := by decide +kernel
theorem dX11_ofPerson_86 : decode cX11_ofPerson 86 = .ok (.ireturn, 1) := by decide +kernel
theorem dX11_ofPerson_87 : decode cX11_ofPerson 87 = .ok (.aload_n 0, 1) := by decide +kernel
theorem dX11_ofPerson_88 : decode cX11_ofPerson 88 = .ok (.getfield 99, 3) := by decide +kernel
theorem dX11_ofPerson_91 : decode cX11_ofPerson 91 = .ok (.iconst 2, 1) := by decide +kernel
theorem dX11_ofPerson_92 : decode cX11_ofPerson 92 = .ok (.iload_n 1, 1) := by decide +kernel
theorem dX11_ofPerson_93 : decode cX11_ofPerson 93 = .ok (.invokestatic 121, 3) := by decide +kernel
theorem dX11_ofPerson_96 : decode cX11_ofPerson 96 = .ok (.invokestatic 117, 3) := by decide +kernel
theorem dX11_ofPerson_99 : decode cX11_ofPerson 99 = .ok (.ireturn, 1) := by decide +kernel
theorem dX11_ofPerson_100 : decode cX11_ofPerson 100 = .ok (.aload_n 0, 1) := by decide +kernel
theorem dX11_ofPerson_101 : decode cX11_ofPerson 101 = .ok (.getfield 99, 3) := by decide +kernel
theorem dX11_ofPerson_104 : decode cX11_ofPerson 104 = .ok (.iconst 3, 1) := by decide +kernel
theorem dX11_ofPerson_105 : decode cX11_ofPerson 105 = .ok (.iload_n 1, 1) := by decide +kernel
theorem dX11_ofPerson_106 : decode cX11_ofPerson 106 = .ok (.invokestatic 121, 3) := by decide +kernel
theorem dX11_ofPerson_109 : decode cX11_ofPerson 109 = .ok (.invokestatic 117, 3) := by decide +kernel
theorem dX11_ofPerson_112 : decode cX11_ofPerson 112 = .ok (.ireturn, 1) := by decide +kernel
theorem dX11_ofPerson_113 : decode cX11_ofPerson 113 = .ok (.bipush (-2), 2) := by decide +kernel
theorem dX11_ofPerson_115 : decode cX11_ofPerson 115 = .ok (.ireturn, 1) := by decide +kernel
theorem dX11_call_0 : decode cX11_call 0 = .ok (.aload_n 0, 1) := by decide +kernel
theorem dX11_call_1 : decode cX11_call 1 = .ok (.iload_n 1, 1) := by decide +kernel
theorem dX11_call_2 : decode cX11_call 2 = .ok (.invokevirtual 96, 3) := by decide +kernel
theorem dX11_call_5 : decode cX11_call 5 = .ok (.ifCond .eq 11, 3) := by decide +kernel
theorem dX11_call_8 : decode cX11_call 8 = .ok (.aload_n 0, 1) := by decide +kernel
theorem dX11_call_9 : decode cX11_call 9 = .ok (.iload_n 2, 1) := by decide +kernel
theorem dX11_call_10 : decode cX11_call 10 = .ok (.invokevirtual 96, 3) := by decide +kernel
theorem dX11_call_13 : decode cX11_call 13 = .ok (.ifCond .ne 5, 3) := by decide +kernel
theorem dX11_call_16 : decode cX11_call 16 = .ok (.iconst (-1), 1) := by decide +kernel
theorem dX11_call_17 : decode cX11_call 17 = .ok (.ireturn, 1) := by decide +kernel
theorem dX11_call_18 : decode cX11_call 18 = .ok (.iload_n 1, 1) := by decide +kernel
theorem dX11_call_19 : decode cX11_call 19 = .ok (.iload_n 2, 1) := by decide +kernel
theorem dX11_call_20 : decode cX11_call 20 = .ok (.if_icmp .ne 6, 3) := by decide +kernel
theorem dX11_call_23 : decode cX11_call 23 = .ok (.bipush (-2), 2) := by decide +kernel
theorem dX11_call_25 : decode cX11_call 25 = .ok (.ireturn, 1) := by decide +kernel
theorem dX11_call_26 : decode cX11_call 26 = .ok (.aload_n 0, 1) := by decide +kernel
theorem dX11_call_27 : decode cX11_call 27 = .ok (.getfield 99, 3) := by decide +kernel
theorem dX11_call_30 : decode cX11_call 30 = .ok (.iload_n 1, 1) := by decide +kernel
theorem dX11_call_31 : decode cX11_call 31 = .ok (.invokestatic 107, 3) := by decide +kernel
theorem dX11_call_34 : decode cX11_call 34 = .ok (.iload_n 2, 1) := by decide +kernel
theorem dX11_call_35 : decode cX11_call 35 = .ok (.invokestatic 125, 3) := by decide +kernel
theorem dX11_call_38 : decode cX11_call 38 = .ok (.ifCond .ne 6, 3) := by decide +kernel
theorem dX11_call_41 : decode cX11_call 41 = .ok (.bipush (-3), 2) := by decide +kernel
theorem dX11_call_43 : decode cX11_call 43 = .ok (.ireturn, 1) := by decide +kernel
theorem dX11_call_44 : decode cX11_call 44 = .ok (.aload_n 0, 1) := by decide +kernel
theorem dX11_call_45 : decode cX11_call 45 = .ok (.getfield 128, 3) := by decide +kernel
theorem dX11_call_48 : decode cX11_call 48 = .ok (.bipush 12, 2) := by decide +kernel
theorem dX11_call_50 : decode cX11_call 50 = .ok (.if_icmp .lt 6, 3) := by decide +kernel
theorem dX11_call_53 : decode cX11_call 53 = .ok (.bipush (-4), 2) := by decide +kernel
theorem dX11_call_55 : decode cX11_call 55 = .ok (.ireturn, 1) := by decide +kernel
theorem dX11_call_56 : decode cX11_call 56 = .ok (.aload_n 0, 1) := by decide +kernel
theorem dX11_call_57 : decode cX11_call 57 = .ok (.getfield 128, 3) := by decide +kernel
theorem dX11_call_60 : decode cX11_call 60 = .ok (.istore_n 3, 1) := by decide +kernel
theorem dX11_call_61 : decode cX11_call 61 = .ok (.aload_n 0, 1) := by decide +kernel
theorem dX11_call_62 : decode cX11_call 62 = .ok (.getfield 19, 3) := by decide +kernel
theorem dX11_call_65 : decode cX11_call 65 = .ok (.iload_n 3, 1) := by decide +kernel
theorem dX11_call_66 : decode cX11_call 66 = .ok (.aload_n 0, 1) := by decide +kernel
theorem dX11_call_67 : decode cX11_call 67 = .ok (.iload_n 3, 1) := by decide +kernel
theorem dX11_call_68 : decode cX11_call 68 = .ok (.iload_n 1, 1) := by decide +kernel
theorem dX11_call_69 : decode cX11_call 69 = .ok (.iload_n 2, 1) := by decide +kernel
theorem dX11_call_70 : decode cX11_call 70 = .ok (.invokevirtual 131, 3) := by decide +kernel
theorem dX11_call_73 : decode cX11_call 73 = .ok (.aastore, 1) := by decide +kernel
theorem dX11_call_74 : decode cX11_call 74 = .ok (.aload_n 0, 1) := by decide +kernel
theorem dX11_call_75 : decode cX11_call 75 = .ok (.iload_n 3, 1) := by decide +kernel
theorem dX11_call_76 : decode cX11_call 76 = .ok (.iconst 1, 1) := by decide +kernel
theorem dX11_call_77 : decode cX11_call 77 = .ok (.iadd, 1) := by decide +kernel
theorem dX11_call_78 : decode cX11_call 78 = .ok (.putfield 128, 3) := by decide +kernel
theorem dX11_call_81 : decode cX11_call 81 = .ok (.aload_n 0, 1) := by decide +kernel
theorem dX11_call_82 : decode cX11_call 82 = .ok (.aload_n 0, 1) := by decide +kernel
theorem dX11_call_83 : decode cX11_call 83 = .ok (.getfield 99, 3) := by decide +kernel
theorem dX11_call_86 : decode cX11_call 86 = .ok (.iload_n 1, 1) := by decide +kernel
theorem dX11_call_87 : decode cX11_call 87 = .ok (.iload_n 2, 1) := by decide +kernel
theorem dX11_call_88 : decode cX11_call 88 = .ok (.invokestatic 135, 3) := by decide +kernel
theorem dX11_call_91 : decode cX11_call 91 = .ok (.invokevirtual 139, 3) := by decide +kernel
theorem dX11_call_94 : decode cX11_call 94 = .ok (.iload_n 3, 1) := by decide +kernel
theorem dX11_call_95 : decode cX11_call 95 = .ok (.ireturn, 1) := by decide +kernel
theorem dX11_ofCall_0 : decode cX11_ofCall 0 = .ok (.aload_n 0, 1) := by decide +kernel
theorem dX11_ofCall_1 : decode cX11_ofCall 1 = .ok (.iload_n 1, 1) := by decide +kernel
theorem dX11_ofCall_2 : decode cX11_ofCall 2 = .ok (.invokevirtual 142, 3) := by decide +kernel
theorem dX11_ofCall_5 : decode cX11_ofCall 5 = .ok (.astore_n 3, 1) := by decide +kernel
theorem dX11_ofCall_6 : decode cX11_ofCall 6 = .ok (.aload_n 3, 1) := by decide +kernel
theorem dX11_ofCall_7 : decode cX11_ofCall 7 = .ok (.ifnonnull 5, 3) := by decide +kernel
theorem dX11_ofCall_10 : decode cX11_ofCall 10 = .ok (.iconst (-1), 1) := by decide +kernel
theorem dX11_ofCall_11 : decode cX11_ofCall 11 = .ok (.ireturn, 1) := by decide +kernel
theorem dX11_ofCall_12 : decode cX11_ofCall 12 = .ok (.iload_n 2, 1) := by decide +kernel
theorem dX11_ofCall_13 : decode cX11_ofCall 13 = .ok (.tableswitch 68 0 4 #[35, 40, 45, 50, 59], 35) := by decide +kernel
theorem dX11_ofCall_48 : decode cX11_ofCall 48 = .ok (.aload_n 3, 1) := by decide +kernel
theorem dX11_ofCall_49 : decode cX11_ofCall 49 = .ok (.invokevirtual 146, 3) := by decide +kernel
theorem dX11_ofCall_52 : decode cX11_ofCall 52 = .ok (.ireturn, 1) := by decide +kernel
theorem dX11_ofCall_53 : decode cX11_ofCall 53 = .ok (.aload_n 3, 1) := by decide +kernel
theorem dX11_ofCall_54 : decode cX11_ofCall 54 = .ok (.getfield 150, 3) := by decide +kernel
theorem dX11_ofCall_57 : decode cX11_ofCall 57 = .ok (.ireturn, 1) := by decide +kernel
theorem dX11_ofCall_58 : decode cX11_ofCall 58 = .ok (.aload_n 3, 1) := by decide +kernel
theorem dX11_ofCall_59 : decode cX11_ofCall 59 = .ok (.getfield 153, 3) := by decide +kernel
theorem dX11_ofCall_62 : decode cX11_ofCall 62 = .ok (.ireturn, 1) := by decide +kernel
theorem dX11_ofCall_63 : decode cX11_ofCall 63 = .ok (.aload_n 3, 1) := by decide +kernel
theorem dX11_ofCall_64 : decode cX11_ofCall 64 = .ok (.aload_n 3, 1) := by decide +kernel
theorem dX11_ofCall_65 : decode cX11_ofCall 65 = .ok (.getfield 150, 3) := by decide +kernel
theorem dX11_ofCall_68 : decode cX11_ofCall 68 = .ok (.invokevirtual 156, 3) := by decide +kernel
theorem dX11_ofCall_71 : decode cX11_ofCall 71 = .ok (.ireturn, 1) := by decide +kernel
theorem dX11_ofCall_72 : decode cX11_ofCall 72 = .ok (.aload_n 3, 1) := by decide +kernel
theorem dX11_ofCall_73 : decode cX11_ofCall 73 = .ok (.aload_n 3, 1) := by decide +kernel
theorem dX11_ofCall_74 : decode cX11_ofCall 74 = .ok (.getfield 153, 3) := by decide +kernel
theorem dX11_ofCall_77 : decode cX11_ofCall 77 = .ok (.invokevirtual 156, 3) := by decide +kernel
theorem dX11_ofCall_80 : decode cX11_ofCall 80 = .ok (.ireturn, 1) := by decide +kernel
theorem dX11_ofCall_81 : decode cX11_ofCall 81 = .ok (.bipush (-2), 2) := by decide +kernel
theorem dX11_ofCall_83 : decode cX11_ofCall 83 = .ok (.ireturn, 1) := by decide +kernel
theorem dX11_back_0 : decode cX11_back 0 = .ok (.aload_n 0, 1) := by decide +kernel
theorem dX11_back_1 : decode cX11_back 1 = .ok (.aload_n 0, 1) := by decide +kernel
theorem dX11_back_2 : decode cX11_back 2 = .ok (.getfield 128, 3) := by decide +kernel
theorem dX11_back_5 : decode cX11_back 5 = .ok (.iconst 1, 1) := by decide +kernel
theorem dX11_back_6 : decode cX11_back 6 = .ok (.isub, 1) := by decide +kernel
theorem dX11_back_7 : decode cX11_back 7 = .ok (.invokevirtual 142, 3) := by decide +kernel
theorem dX11_back_10 : decode cX11_back 10 = .ok (.astore_n 1, 1) := by decide +kernel
theorem dX11_back_11 : decode cX11_back 11 = .ok (.aload_n 1, 1) := by decide +kernel
theorem dX11_back_12 : decode cX11_back 12 = .ok (.ifnonnull 6, 3) := by decide +kernel
theorem dX11_back_15 : decode cX11_back 15 = .ok (.bipush (-3), 2) := by decide +kernel
theorem dX11_back_17 : decode cX11_back 17 = .ok (.ireturn, 1) := by decide +kernel
theorem dX11_back_18 : decode cX11_back 18 = .ok (.aload_n 0, 1) := by decide +kernel
theorem dX11_back_19 : decode cX11_back 19 = .ok (.aload_n 1, 1) := by decide +kernel
theorem dX11_back_20 : decode cX11_back 20 = .ok (.getfield 159, 3) := by decide +kernel
theorem dX11_back_23 : decode cX11_back 23 = .ok (.putfield 128, 3) := by decide +kernel
theorem dX11_back_26 : decode cX11_back 26 = .ok (.aload_n 0, 1) := by decide +kernel
theorem dX11_back_27 : decode cX11_back 27 = .ok (.aload_n 1, 1) := by decide +kernel
theorem dX11_back_28 : decode cX11_back 28 = .ok (.getfield 162, 3) := by decide +kernel
theorem dX11_back_31 : decode cX11_back 31 = .ok (.invokevirtual 139, 3) := by decide +kernel
theorem dX11_back_34 : decode cX11_back 34 = .ok (.aload_n 0, 1) := by decide +kernel
theorem dX11_back_35 : decode cX11_back 35 = .ok (.getfield 128, 3) := by decide +kernel
theorem dX11_back_38 : decode cX11_back 38 = .ok (.ireturn, 1) := by decide +kernel
theorem dX11_may_0 : decode cX11_may 0 = .ok (.aload_n 0, 1) := by decide +kernel
theorem dX11_may_1 : decode cX11_may 1 = .ok (.iload_n 1, 1) := by decide +kernel
theorem dX11_may_2 : decode cX11_may 2 = .ok (.invokevirtual 165, 3) := by decide +kernel
theorem dX11_may_5 : decode cX11_may 5 = .ok (.ifCond .eq 11, 3) := by decide +kernel
theorem dX11_may_8 : decode cX11_may 8 = .ok (.aload_n 0, 1) := by decide +kernel
theorem dX11_may_9 : decode cX11_may 9 = .ok (.iload_n 2, 1) := by decide +kernel
theorem dX11_may_10 : decode cX11_may 10 = .ok (.invokevirtual 96, 3) := by decide +kernel
theorem dX11_may_13 : decode cX11_may 13 = .ok (.ifCond .ne 5, 3) := by decide +kernel
theorem dX11_may_16 : decode cX11_may 16 = .ok (.iconst (-1), 1) := by decide +kernel
theorem dX11_may_17 : decode cX11_may 17 = .ok (.ireturn, 1) := by decide +kernel
theorem dX11_may_18 : decode cX11_may 18 = .ok (.aload_n 0, 1) := by decide +kernel
theorem dX11_may_19 : decode cX11_may 19 = .ok (.getfield 99, 3) := by decide +kernel
theorem dX11_may_22 : decode cX11_may 22 = .ok (.iload_n 1, 1) := by decide +kernel
theorem dX11_may_23 : decode cX11_may 23 = .ok (.iload_n 2, 1) := by decide +kernel
theorem dX11_may_24 : decode cX11_may 24 = .ok (.invokestatic 168, 3) := by decide +kernel
theorem dX11_may_27 : decode cX11_may 27 = .ok (.ireturn, 1) := by decide +kernel
theorem dX11_runs_0 : decode cX11_runs 0 = .ok (.aload_n 0, 1) := by decide +kernel
theorem dX11_runs_1 : decode cX11_runs 1 = .ok (.iload_n 1, 1) := by decide +kernel
theorem dX11_runs_2 : decode cX11_runs 2 = .ok (.invokevirtual 165, 3) := by decide +kernel
theorem dX11_runs_5 : decode cX11_runs 5 = .ok (.ifCond .eq 18, 3) := by decide +kernel
theorem dX11_runs_8 : decode cX11_runs 8 = .ok (.aload_n 0, 1) := by decide +kernel
theorem dX11_runs_9 : decode cX11_runs 9 = .ok (.iload_n 2, 1) := by decide +kernel
theorem dX11_runs_10 : decode cX11_runs 10 = .ok (.invokevirtual 172, 3) := by decide +kernel
theorem dX11_runs_13 : decode cX11_runs 13 = .ok (.ifCond .eq 10, 3) := by decide +kernel
theorem dX11_runs_16 : decode cX11_runs 16 = .ok (.aload_n 0, 1) := by decide +kernel
theorem dX11_runs_17 : decode cX11_runs 17 = .ok (.invokevirtual 175, 3) := by decide +kernel
theorem dX11_runs_20 : decode cX11_runs 20 = .ok (.ifCond .eq 7, 3) := by decide +kernel
theorem dX11_runs_23 : decode cX11_runs 23 = .ok (.ldc2_w 179, 3) := by decide +kernel
theorem dX11_runs_26 : decode cX11_runs 26 = .ok (.lreturn, 1) := by decide +kernel
theorem dX11_runs_27 : decode cX11_runs 27 = .ok (.iload_n 2, 1) := by decide +kernel
theorem dX11_runs_28 : decode cX11_runs 28 = .ok (.ifCond .ne 18, 3) := by decide +kernel
theorem dX11_runs_31 : decode cX11_runs 31 = .ok (.aload_n 0, 1) := by decide +kernel
theorem dX11_runs_32 : decode cX11_runs 32 = .ok (.getfield 33, 3) := by decide +kernel
theorem dX11_runs_35 : decode cX11_runs 35 = .ok (.aload_n 0, 1) := by decide +kernel
theorem dX11_runs_36 : decode cX11_runs 36 = .ok (.getfield 99, 3) := by decide +kernel
theorem dX11_runs_39 : decode cX11_runs 39 = .ok (.iload_n 1, 1) := by decide +kernel
theorem dX11_runs_40 : decode cX11_runs 40 = .ok (.invokevirtual 181, 3) := by decide +kernel
theorem dX11_runs_43 : decode cX11_runs 43 = .ok (.goto 15, 3) := by decide +kernel
theorem dX11_runs_46 : decode cX11_runs 46 = .ok (.aload_n 0, 1) := by decide +kernel
theorem dX11_runs_47 : decode cX11_runs 47 = .ok (.getfield 33, 3) := by decide +kernel
theorem dX11_runs_50 : decode cX11_runs 50 = .ok (.aload_n 0, 1) := by decide +kernel
theorem dX11_runs_51 : decode cX11_runs 51 = .ok (.getfield 99, 3) := by decide +kernel
theorem dX11_runs_54 : decode cX11_runs 54 = .ok (.iload_n 1, 1) := by decide +kernel
theorem dX11_runs_55 : decode cX11_runs 55 = .ok (.invokevirtual 185, 3) := by decide +kernel
theorem dX11_runs_58 : decode cX11_runs 58 = .ok (.lreturn, 1) := by decide +kernel
theorem dX11_verdict_0 : decode cX11_verdict 0 = .ok (.aload_n 0, 1) := by decide +kernel
theorem dX11_verdict_1 : decode cX11_verdict 1 = .ok (.iload_n 1, 1) := by decide +kernel
theorem dX11_verdict_2 : decode cX11_verdict 2 = .ok (.invokevirtual 165, 3) := by decide +kernel
theorem dX11_verdict_5 : decode cX11_verdict 5 = .ok (.ifCond .ne 5, 3) := by decide +kernel
theorem dX11_verdict_8 : decode cX11_verdict 8 = .ok (.iconst (-1), 1) := by decide +kernel
theorem dX11_verdict_9 : decode cX11_verdict 9 = .ok (.ireturn, 1) := by decide +kernel
theorem dX11_verdict_10 : decode cX11_verdict 10 = .ok (.aload_n 0, 1) := by decide +kernel
theorem dX11_verdict_11 : decode cX11_verdict 11 = .ok (.invokevirtual 175, 3) := by decide +kernel
theorem dX11_verdict_14 : decode cX11_verdict 14 = .ok (.ifCond .eq 6, 3) := by decide +kernel
theorem dX11_verdict_17 : decode cX11_verdict 17 = .ok (.bipush (-3), 2) := by decide +kernel
theorem dX11_verdict_19 : decode cX11_verdict 19 = .ok (.ireturn, 1) := by decide +kernel
theorem dX11_verdict_20 : decode cX11_verdict 20 = .ok (.aload_n 0, 1) := by decide +kernel
theorem dX11_verdict_21 : decode cX11_verdict 21 = .ok (.getfield 33, 3) := by decide +kernel
theorem dX11_verdict_24 : decode cX11_verdict 24 = .ok (.aload_n 0, 1) := by decide +kernel
theorem dX11_verdict_25 : decode cX11_verdict 25 = .ok (.getfield 99, 3) := by decide +kernel
theorem dX11_verdict_28 : decode cX11_verdict 28 = .ok (.iload_n 1, 1) := by decide +kernel
theorem dX11_verdict_29 : decode cX11_verdict 29 = .ok (.invokevirtual 188, 3) := by decide +kernel
theorem dX11_verdict_32 : decode cX11_verdict 32 = .ok (.ireturn, 1) := by decide +kernel
theorem dX11_calls_0 : decode cX11_calls 0 = .ok (.aload_n 0, 1) := by decide +kernel
theorem dX11_calls_1 : decode cX11_calls 1 = .ok (.iload_n 1, 1) := by decide +kernel
theorem dX11_calls_2 : decode cX11_calls 2 = .ok (.invokevirtual 165, 3) := by decide +kernel
theorem dX11_calls_5 : decode cX11_calls 5 = .ok (.ifCond .ne 5, 3) := by decide +kernel
theorem dX11_calls_8 : decode cX11_calls 8 = .ok (.iconst (-1), 1) := by decide +kernel
theorem dX11_calls_9 : decode cX11_calls 9 = .ok (.ireturn, 1) := by decide +kernel
theorem dX11_calls_10 : decode cX11_calls 10 = .ok (.aload_n 0, 1) := by decide +kernel
theorem dX11_calls_11 : decode cX11_calls 11 = .ok (.iload_n 2, 1) := by decide +kernel
theorem dX11_calls_12 : decode cX11_calls 12 = .ok (.invokevirtual 172, 3) := by decide +kernel
theorem dX11_calls_15 : decode cX11_calls 15 = .ok (.ifCond .ne 6, 3) := by decide +kernel
theorem dX11_calls_18 : decode cX11_calls 18 = .ok (.bipush (-2), 2) := by decide +kernel
theorem dX11_calls_20 : decode cX11_calls 20 = .ok (.ireturn, 1) := by decide +kernel
theorem dX11_calls_21 : decode cX11_calls 21 = .ok (.aload_n 0, 1) := by decide +kernel
theorem dX11_calls_22 : decode cX11_calls 22 = .ok (.invokevirtual 175, 3) := by decide +kernel
theorem dX11_calls_25 : decode cX11_calls 25 = .ok (.ifCond .eq 6, 3) := by decide +kernel
theorem dX11_calls_28 : decode cX11_calls 28 = .ok (.bipush (-3), 2) := by decide +kernel
theorem dX11_calls_30 : decode cX11_calls 30 = .ok (.ireturn, 1) := by decide +kernel
theorem dX11_calls_31 : decode cX11_calls 31 = .ok (.iload_n 2, 1) := by decide +kernel
theorem dX11_calls_32 : decode cX11_calls 32 = .ok (.ifCond .ne 18, 3) := by decide +kernel
theorem dX11_calls_35 : decode cX11_calls 35 = .ok (.aload_n 0, 1) := by decide +kernel
theorem dX11_calls_36 : decode cX11_calls 36 = .ok (.getfield 33, 3) := by decide +kernel
theorem dX11_calls_39 : decode cX11_calls 39 = .ok (.aload_n 0, 1) := by decide +kernel
theorem dX11_calls_40 : decode cX11_calls 40 = .ok (.getfield 99, 3) := by decide +kernel
theorem dX11_calls_43 : decode cX11_calls 43 = .ok (.iload_n 1, 1) := by decide +kernel
theorem dX11_calls_44 : decode cX11_calls 44 = .ok (.invokevirtual 191, 3) := by decide +kernel
theorem dX11_calls_47 : decode cX11_calls 47 = .ok (.goto 15, 3) := by decide +kernel
theorem dX11_calls_50 : decode cX11_calls 50 = .ok (.aload_n 0, 1) := by decide +kernel
theorem dX11_calls_51 : decode cX11_calls 51 = .ok (.getfield 33, 3) := by decide +kernel
theorem dX11_calls_54 : decode cX11_calls 54 = .ok (.aload_n 0, 1) := by decide +kernel
theorem dX11_calls_55 : decode cX11_calls 55 = .ok (.getfield 99, 3) := by decide +kernel
theorem dX11_calls_58 : decode cX11_calls 58 = .ok (.iload_n 1, 1) := by decide +kernel
theorem dX11_calls_59 : decode cX11_calls 59 = .ok (.invokevirtual 194, 3) := by decide +kernel
theorem dX11_calls_62 : decode cX11_calls 62 = .ok (.ireturn, 1) := by decide +kernel
theorem dX11_keeps_0 : decode cX11_keeps 0 = .ok (.aload_n 0, 1) := by decide +kernel
theorem dX11_keeps_1 : decode cX11_keeps 1 = .ok (.iload_n 1, 1) := by decide +kernel
theorem dX11_keeps_2 : decode cX11_keeps 2 = .ok (.invokevirtual 165, 3) := by decide +kernel
theorem dX11_keeps_5 : decode cX11_keeps 5 = .ok (.ifCond .eq 19, 3) := by decide +kernel
theorem dX11_keeps_8 : decode cX11_keeps 8 = .ok (.aload_n 0, 1) := by decide +kernel
theorem dX11_keeps_9 : decode cX11_keeps 9 = .ok (.iload_n 2, 1) := by decide +kernel
theorem dX11_keeps_10 : decode cX11_keeps 10 = .ok (.invokevirtual 96, 3) := by decide +kernel
theorem dX11_keeps_13 : decode cX11_keeps 13 = .ok (.ifCond .eq 11, 3) := by decide +kernel
theorem dX11_keeps_16 : decode cX11_keeps 16 = .ok (.aload_n 0, 1) := by decide +kernel
theorem dX11_keeps_17 : decode cX11_keeps 17 = .ok (.iload_n 3, 1) := by decide +kernel
theorem dX11_keeps_18 : decode cX11_keeps 18 = .ok (.invokevirtual 96, 3) := by decide +kernel
theorem dX11_keeps_21 : decode cX11_keeps 21 = .ok (.ifCond .ne 5, 3) := by decide +kernel
theorem dX11_keeps_24 : decode cX11_keeps 24 = .ok (.iconst (-1), 1) := by decide +kernel
theorem dX11_keeps_25 : decode cX11_keeps 25 = .ok (.ireturn, 1) := by decide +kernel
theorem dX11_keeps_26 : decode cX11_keeps 26 = .ok (.iload_n 2, 1) := by decide +kernel
theorem dX11_keeps_27 : decode cX11_keeps 27 = .ok (.iload_n 3, 1) := by decide +kernel
theorem dX11_keeps_28 : decode cX11_keeps 28 = .ok (.if_icmp .ne 6, 3) := by decide +kernel
theorem dX11_keeps_31 : decode cX11_keeps 31 = .ok (.bipush (-2), 2) := by decide +kernel
theorem dX11_keeps_33 : decode cX11_keeps 33 = .ok (.ireturn, 1) := by decide +kernel
theorem dX11_keeps_34 : decode cX11_keeps 34 = .ok (.aload_n 0, 1) := by decide +kernel
theorem dX11_keeps_35 : decode cX11_keeps 35 = .ok (.getfield 99, 3) := by decide +kernel
theorem dX11_keeps_38 : decode cX11_keeps 38 = .ok (.iload_n 1, 1) := by decide +kernel
theorem dX11_keeps_39 : decode cX11_keeps 39 = .ok (.iload_n 2, 1) := by decide +kernel
theorem dX11_keeps_40 : decode cX11_keeps 40 = .ok (.invokestatic 168, 3) := by decide +kernel
theorem dX11_keeps_43 : decode cX11_keeps 43 = .ok (.iload_n 3, 1) := by decide +kernel
theorem dX11_keeps_44 : decode cX11_keeps 44 = .ok (.invokestatic 125, 3) := by decide +kernel
theorem dX11_keeps_47 : decode cX11_keeps 47 = .ok (.ifCond .ne 6, 3) := by decide +kernel
theorem dX11_keeps_50 : decode cX11_keeps 50 = .ok (.bipush (-3), 2) := by decide +kernel
theorem dX11_keeps_52 : decode cX11_keeps 52 = .ok (.ireturn, 1) := by decide +kernel
theorem dX11_keeps_53 : decode cX11_keeps 53 = .ok (.aload_n 0, 1) := by decide +kernel
theorem dX11_keeps_54 : decode cX11_keeps 54 = .ok (.getfield 33, 3) := by decide +kernel
theorem dX11_keeps_57 : decode cX11_keeps 57 = .ok (.aload_n 0, 1) := by decide +kernel
theorem dX11_keeps_58 : decode cX11_keeps 58 = .ok (.getfield 99, 3) := by decide +kernel
theorem dX11_keeps_61 : decode cX11_keeps 61 = .ok (.iload_n 2, 1) := by decide +kernel
theorem dX11_keeps_62 : decode cX11_keeps 62 = .ok (.iload_n 3, 1) := by decide +kernel
theorem dX11_keeps_63 : decode cX11_keeps 63 = .ok (.invokestatic 135, 3) := by decide +kernel
theorem dX11_keeps_66 : decode cX11_keeps 66 = .ok (.iload_n 1, 1) := by decide +kernel
theorem dX11_keeps_67 : decode cX11_keeps 67 = .ok (.invokevirtual 188, 3) := by decide +kernel
theorem dX11_keeps_70 : decode cX11_keeps 70 = .ok (.ireturn, 1) := by decide +kernel
theorem dX11_best_0 : decode cX11_best 0 = .ok (.aload_n 0, 1) := by decide +kernel
theorem dX11_best_1 : decode cX11_best 1 = .ok (.iload_n 1, 1) := by decide +kernel
theorem dX11_best_2 : decode cX11_best 2 = .ok (.invokevirtual 165, 3) := by decide +kernel
theorem dX11_best_5 : decode cX11_best 5 = .ok (.ifCond .ne 5, 3) := by decide +kernel
theorem dX11_best_8 : decode cX11_best 8 = .ok (.iconst (-1), 1) := by decide +kernel
theorem dX11_best_9 : decode cX11_best 9 = .ok (.ireturn, 1) := by decide +kernel
theorem dX11_best_10 : decode cX11_best 10 = .ok (.aload_n 0, 1) := by decide +kernel
theorem dX11_best_11 : decode cX11_best 11 = .ok (.iload_n 2, 1) := by decide +kernel
theorem dX11_best_12 : decode cX11_best 12 = .ok (.invokevirtual 172, 3) := by decide +kernel
theorem dX11_best_15 : decode cX11_best 15 = .ok (.ifCond .ne 6, 3) := by decide +kernel
theorem dX11_best_18 : decode cX11_best 18 = .ok (.bipush (-2), 2) := by decide +kernel
theorem dX11_best_20 : decode cX11_best 20 = .ok (.ireturn, 1) := by decide +kernel
theorem dX11_best_21 : decode cX11_best 21 = .ok (.aload_n 0, 1) := by decide +kernel
theorem dX11_best_22 : decode cX11_best 22 = .ok (.invokevirtual 175, 3) := by decide +kernel
theorem dX11_best_25 : decode cX11_best 25 = .ok (.ifCond .eq 6, 3) := by decide +kernel
theorem dX11_best_28 : decode cX11_best 28 = .ok (.bipush (-3), 2) := by decide +kernel
theorem dX11_best_30 : decode cX11_best 30 = .ok (.ireturn, 1) := by decide +kernel
theorem dX11_best_31 : decode cX11_best 31 = .ok (.aload_n 0, 1) := by decide +kernel
theorem dX11_best_32 : decode cX11_best 32 = .ok (.getfield 33, 3) := by decide +kernel
theorem dX11_best_35 : decode cX11_best 35 = .ok (.aload_n 0, 1) := by decide +kernel
theorem dX11_best_36 : decode cX11_best 36 = .ok (.getfield 99, 3) := by decide +kernel
theorem dX11_best_39 : decode cX11_best 39 = .ok (.iload_n 1, 1) := by decide +kernel
theorem dX11_best_40 : decode cX11_best 40 = .ok (.invokevirtual 197, 3) := by decide +kernel
theorem dX11_best_43 : decode cX11_best 43 = .ok (.istore_n 3, 1) := by decide +kernel
theorem dX11_best_44 : decode cX11_best 44 = .ok (.iload_n 3, 1) := by decide +kernel
theorem dX11_best_45 : decode cX11_best 45 = .ok (.bipush (-9), 2) := by decide +kernel
theorem dX11_best_47 : decode cX11_best 47 = .ok (.if_icmp .ne 6, 3) := by decide +kernel
theorem dX11_best_50 : decode cX11_best 50 = .ok (.bipush (-9), 2) := by decide +kernel
theorem dX11_best_52 : decode cX11_best 52 = .ok (.ireturn, 1) := by decide +kernel
theorem dX11_best_53 : decode cX11_best 53 = .ok (.iload_n 2, 1) := by decide +kernel
theorem dX11_best_54 : decode cX11_best 54 = .ok (.ifCond .ne 10, 3) := by decide +kernel
theorem dX11_best_57 : decode cX11_best 57 = .ok (.iload_n 3, 1) := by decide +kernel
theorem dX11_best_58 : decode cX11_best 58 = .ok (.invokestatic 200, 3) := by decide +kernel
theorem dX11_best_61 : decode cX11_best 61 = .ok (.goto 7, 3) := by decide +kernel
theorem dX11_best_64 : decode cX11_best 64 = .ok (.iload_n 3, 1) := by decide +kernel
theorem dX11_best_65 : decode cX11_best 65 = .ok (.invokestatic 203, 3) := by decide +kernel
theorem dX11_best_68 : decode cX11_best 68 = .ok (.ireturn, 1) := by decide +kernel
theorem dX11_alike_0 : decode cX11_alike 0 = .ok (.aload_n 0, 1) := by decide +kernel
theorem dX11_alike_1 : decode cX11_alike 1 = .ok (.iload_n 1, 1) := by decide +kernel
theorem dX11_alike_2 : decode cX11_alike 2 = .ok (.invokevirtual 96, 3) := by decide +kernel
theorem dX11_alike_5 : decode cX11_alike 5 = .ok (.ifCond .ne 5, 3) := by decide +kernel
theorem dX11_alike_8 : decode cX11_alike 8 = .ok (.iconst (-1), 1) := by decide +kernel
theorem dX11_alike_9 : decode cX11_alike 9 = .ok (.ireturn, 1) := by decide +kernel
theorem dX11_alike_10 : decode cX11_alike 10 = .ok (.aload_n 0, 1) := by decide +kernel
theorem dX11_alike_11 : decode cX11_alike 11 = .ok (.getfield 128, 3) := by decide +kernel
theorem dX11_alike_14 : decode cX11_alike 14 = .ok (.iconst 4, 1) := by decide +kernel
theorem dX11_alike_15 : decode cX11_alike 15 = .ok (.if_icmp .le 6, 3) := by decide +kernel
theorem dX11_alike_18 : decode cX11_alike 18 = .ok (.bipush (-3), 2) := by decide +kernel
theorem dX11_alike_20 : decode cX11_alike 20 = .ok (.ireturn, 1) := by decide +kernel
theorem dX11_alike_21 : decode cX11_alike 21 = .ok (.aload_n 0, 1) := by decide +kernel
theorem dX11_alike_22 : decode cX11_alike 22 = .ok (.getfield 40, 3) := by decide +kernel
theorem dX11_alike_25 : decode cX11_alike 25 = .ok (.iload_n 1, 1) := by decide +kernel
theorem dX11_alike_26 : decode cX11_alike 26 = .ok (.aload_n 0, 1) := by decide +kernel
theorem dX11_alike_27 : decode cX11_alike 27 = .ok (.getfield 110, 3) := by decide +kernel
theorem dX11_alike_30 : decode cX11_alike 30 = .ok (.aload_n 0, 1) := by decide +kernel
theorem dX11_alike_31 : decode cX11_alike 31 = .ok (.getfield 19, 3) := by decide +kernel
theorem dX11_alike_34 : decode cX11_alike 34 = .ok (.aload_n 0, 1) := by decide +kernel
theorem dX11_alike_35 : decode cX11_alike 35 = .ok (.getfield 128, 3) := by decide +kernel
theorem dX11_alike_38 : decode cX11_alike 38 = .ok (.invokevirtual 206, 3) := by decide +kernel
theorem dX11_alike_41 : decode cX11_alike 41 = .ok (.ireturn, 1) := by decide +kernel
theorem dX11_sure_0 : decode cX11_sure 0 = .ok (.aload_n 0, 1) := by decide +kernel
theorem dX11_sure_1 : decode cX11_sure 1 = .ok (.iload_n 1, 1) := by decide +kernel
theorem dX11_sure_2 : decode cX11_sure 2 = .ok (.invokevirtual 96, 3) := by decide +kernel
theorem dX11_sure_5 : decode cX11_sure 5 = .ok (.ifCond .eq 19, 3) := by decide +kernel
theorem dX11_sure_8 : decode cX11_sure 8 = .ok (.aload_n 0, 1) := by decide +kernel
theorem dX11_sure_9 : decode cX11_sure 9 = .ok (.iload_n 2, 1) := by decide +kernel
theorem dX11_sure_10 : decode cX11_sure 10 = .ok (.invokevirtual 96, 3) := by decide +kernel
theorem dX11_sure_13 : decode cX11_sure 13 = .ok (.ifCond .eq 11, 3) := by decide +kernel
theorem dX11_sure_16 : decode cX11_sure 16 = .ok (.aload_n 0, 1) := by decide +kernel
theorem dX11_sure_17 : decode cX11_sure 17 = .ok (.iload_n 3, 1) := by decide +kernel
theorem dX11_sure_18 : decode cX11_sure 18 = .ok (.invokevirtual 96, 3) := by decide +kernel
theorem dX11_sure_21 : decode cX11_sure 21 = .ok (.ifCond .ne 5, 3) := by decide +kernel
theorem dX11_sure_24 : decode cX11_sure 24 = .ok (.iconst (-1), 1) := by decide +kernel
theorem dX11_sure_25 : decode cX11_sure 25 = .ok (.ireturn, 1) := by decide +kernel
theorem dX11_sure_26 : decode cX11_sure 26 = .ok (.aload_n 0, 1) := by decide +kernel
theorem dX11_sure_27 : decode cX11_sure 27 = .ok (.getfield 128, 3) := by decide +kernel
theorem dX11_sure_30 : decode cX11_sure 30 = .ok (.iconst 4, 1) := by decide +kernel
theorem dX11_sure_31 : decode cX11_sure 31 = .ok (.if_icmp .le 6, 3) := by decide +kernel
theorem dX11_sure_34 : decode cX11_sure 34 = .ok (.bipush (-3), 2) := by decide +kernel
theorem dX11_sure_36 : decode cX11_sure 36 = .ok (.ireturn, 1) := by decide +kernel
theorem dX11_sure_37 : decode cX11_sure 37 = .ok (.aload_n 0, 1) := by decide +kernel
theorem dX11_sure_38 : decode cX11_sure 38 = .ok (.iload_n 1, 1) := by decide +kernel
theorem dX11_sure_39 : decode cX11_sure 39 = .ok (.iload_n 2, 1) := by decide +kernel
theorem dX11_sure_40 : decode cX11_sure 40 = .ok (.invokevirtual 210, 3) := by decide +kernel
theorem dX11_sure_43 : decode cX11_sure 43 = .ok (.iload_n 3, 1) := by decide +kernel
theorem dX11_sure_44 : decode cX11_sure 44 = .ok (.invokestatic 125, 3) := by decide +kernel
theorem dX11_sure_47 : decode cX11_sure 47 = .ok (.invokestatic 117, 3) := by decide +kernel
theorem dX11_sure_50 : decode cX11_sure 50 = .ok (.ireturn, 1) := by decide +kernel
theorem dX11_known_0 : decode cX11_known 0 = .ok (.aload_n 0, 1) := by decide +kernel
theorem dX11_known_1 : decode cX11_known 1 = .ok (.iload_n 1, 1) := by decide +kernel
theorem dX11_known_2 : decode cX11_known 2 = .ok (.invokevirtual 96, 3) := by decide +kernel
theorem dX11_known_5 : decode cX11_known 5 = .ok (.ifCond .eq 11, 3) := by decide +kernel
theorem dX11_known_8 : decode cX11_known 8 = .ok (.aload_n 0, 1) := by decide +kernel
theorem dX11_known_9 : decode cX11_known 9 = .ok (.iload_n 2, 1) := by decide +kernel
theorem dX11_known_10 : decode cX11_known 10 = .ok (.invokevirtual 96, 3) := by decide +kernel
theorem dX11_known_13 : decode cX11_known 13 = .ok (.ifCond .ne 5, 3) := by decide +kernel
theorem dX11_known_16 : decode cX11_known 16 = .ok (.iconst (-1), 1) := by decide +kernel
theorem dX11_known_17 : decode cX11_known 17 = .ok (.ireturn, 1) := by decide +kernel
theorem dX11_known_18 : decode cX11_known 18 = .ok (.aload_n 0, 1) := by decide +kernel
theorem dX11_known_19 : decode cX11_known 19 = .ok (.getfield 128, 3) := by decide +kernel
theorem dX11_known_22 : decode cX11_known 22 = .ok (.iconst 4, 1) := by decide +kernel
theorem dX11_known_23 : decode cX11_known 23 = .ok (.if_icmp .le 6, 3) := by decide +kernel
theorem dX11_known_26 : decode cX11_known 26 = .ok (.bipush (-3), 2) := by decide +kernel
theorem dX11_known_28 : decode cX11_known 28 = .ok (.ireturn, 1) := by decide +kernel
theorem dX11_known_29 : decode cX11_known 29 = .ok (.aload_n 0, 1) := by decide +kernel
theorem dX11_known_30 : decode cX11_known 30 = .ok (.iload_n 1, 1) := by decide +kernel
theorem dX11_known_31 : decode cX11_known 31 = .ok (.iload_n 2, 1) := by decide +kernel
theorem dX11_known_32 : decode cX11_known 32 = .ok (.invokevirtual 210, 3) := by decide +kernel
theorem dX11_known_35 : decode cX11_known 35 = .ok (.ireturn, 1) := by decide +kernel
theorem dX11_end_0 : decode cX11_end 0 = .ok (.aload_n 0, 1) := by decide +kernel
theorem dX11_end_1 : decode cX11_end 1 = .ok (.iload_n 1, 1) := by decide +kernel
theorem dX11_end_2 : decode cX11_end 2 = .ok (.invokevirtual 96, 3) := by decide +kernel
theorem dX11_end_5 : decode cX11_end 5 = .ok (.ifCond .ne 5, 3) := by decide +kernel
theorem dX11_end_8 : decode cX11_end 8 = .ok (.iconst (-1), 1) := by decide +kernel
theorem dX11_end_9 : decode cX11_end 9 = .ok (.ireturn, 1) := by decide +kernel
theorem dX11_end_10 : decode cX11_end 10 = .ok (.aload_n 0, 1) := by decide +kernel
theorem dX11_end_11 : decode cX11_end 11 = .ok (.getfield 128, 3) := by decide +kernel
theorem dX11_end_14 : decode cX11_end 14 = .ok (.iconst 4, 1) := by decide +kernel
theorem dX11_end_15 : decode cX11_end 15 = .ok (.if_icmp .le 6, 3) := by decide +kernel
theorem dX11_end_18 : decode cX11_end 18 = .ok (.bipush (-3), 2) := by decide +kernel
theorem dX11_end_20 : decode cX11_end 20 = .ok (.ireturn, 1) := by decide +kernel
theorem dX11_end_21 : decode cX11_end 21 = .ok (.aload_n 0, 1) := by decide +kernel
theorem dX11_end_22 : decode cX11_end 22 = .ok (.getfield 99, 3) := by decide +kernel
theorem dX11_end_25 : decode cX11_end 25 = .ok (.invokestatic 214, 3) := by decide +kernel
theorem dX11_end_28 : decode cX11_end 28 = .ok (.istore_n 2, 1) := by decide +kernel
theorem dX11_end_29 : decode cX11_end 29 = .ok (.iconst 0, 1) := by decide +kernel
theorem dX11_end_30 : decode cX11_end 30 = .ok (.istore_n 3, 1) := by decide +kernel
theorem dX11_end_31 : decode cX11_end 31 = .ok (.iload_n 3, 1) := by decide +kernel
theorem dX11_end_32 : decode cX11_end 32 = .ok (.iload_n 2, 1) := by decide +kernel
theorem dX11_end_33 : decode cX11_end 33 = .ok (.if_icmp .ge 27, 3) := by decide +kernel
theorem dX11_end_36 : decode cX11_end 36 = .ok (.aload_n 0, 1) := by decide +kernel
theorem dX11_end_37 : decode cX11_end 37 = .ok (.iload_n 1, 1) := by decide +kernel
theorem dX11_end_38 : decode cX11_end 38 = .ok (.iload_n 3, 1) := by decide +kernel
theorem dX11_end_39 : decode cX11_end 39 = .ok (.invokevirtual 210, 3) := by decide +kernel
theorem dX11_end_42 : decode cX11_end 42 = .ok (.aload_n 0, 1) := by decide +kernel
theorem dX11_end_43 : decode cX11_end 43 = .ok (.getfield 99, 3) := by decide +kernel
theorem dX11_end_46 : decode cX11_end 46 = .ok (.invokestatic 217, 3) := by decide +kernel
theorem dX11_end_49 : decode cX11_end 49 = .ok (.if_icmp .eq 5, 3) := by decide +kernel
theorem dX11_end_52 : decode cX11_end 52 = .ok (.iconst 0, 1) := by decide +kernel
theorem dX11_end_53 : decode cX11_end 53 = .ok (.ireturn, 1) := by decide +kernel
theorem dX11_end_54 : decode cX11_end 54 = .ok (.iinc 3 1, 3) := by decide +kernel
theorem dX11_end_57 : decode cX11_end 57 = .ok (.goto (-26), 3) := by decide +kernel
theorem dX11_end_60 : decode cX11_end 60 = .ok (.iconst 1, 1) := by decide +kernel
theorem dX11_end_61 : decode cX11_end 61 = .ok (.ireturn, 1) := by decide +kernel
theorem dX11_joined_0 : decode cX11_joined 0 = .ok (.aload_n 0, 1) := by decide +kernel
theorem dX11_joined_1 : decode cX11_joined 1 = .ok (.invokevirtual 175, 3) := by decide +kernel
theorem dX11_joined_4 : decode cX11_joined 4 = .ok (.ifCond .eq 6, 3) := by decide +kernel
theorem dX11_joined_7 : decode cX11_joined 7 = .ok (.bipush (-3), 2) := by decide +kernel
theorem dX11_joined_9 : decode cX11_joined 9 = .ok (.ireturn, 1) := by decide +kernel
theorem dX11_joined_10 : decode cX11_joined 10 = .ok (.aload_n 0, 1) := by decide +kernel
theorem dX11_joined_11 : decode cX11_joined 11 = .ok (.getfield 110, 3) := by decide +kernel
theorem dX11_joined_14 : decode cX11_joined 14 = .ok (.invokestatic 214, 3) := by decide +kernel
theorem dX11_joined_17 : decode cX11_joined 17 = .ok (.aload_n 0, 1) := by decide +kernel
theorem dX11_joined_18 : decode cX11_joined 18 = .ok (.getfield 110, 3) := by decide +kernel
theorem dX11_joined_21 : decode cX11_joined 21 = .ok (.invokestatic 220, 3) := by decide +kernel
theorem dX11_joined_24 : decode cX11_joined 24 = .ok (.invokestatic 223, 3) := by decide +kernel
theorem dX11_joined_27 : decode cX11_joined 27 = .ok (.invokestatic 117, 3) := by decide +kernel
theorem dX11_joined_30 : decode cX11_joined 30 = .ok (.ireturn, 1) := by decide +kernel
theorem dX11_bridge_0 : decode cX11_bridge 0 = .ok (.aload_n 0, 1) := by decide +kernel
theorem dX11_bridge_1 : decode cX11_bridge 1 = .ok (.iload_n 1, 1) := by decide +kernel
theorem dX11_bridge_2 : decode cX11_bridge 2 = .ok (.invokevirtual 228, 3) := by decide +kernel
theorem dX11_bridge_5 : decode cX11_bridge 5 = .ok (.ifCond .ne 5, 3) := by decide +kernel
theorem dX11_bridge_8 : decode cX11_bridge 8 = .ok (.iconst (-1), 1) := by decide +kernel
theorem dX11_bridge_9 : decode cX11_bridge 9 = .ok (.ireturn, 1) := by decide +kernel
theorem dX11_bridge_10 : decode cX11_bridge 10 = .ok (.aload_n 0, 1) := by decide +kernel
theorem dX11_bridge_11 : decode cX11_bridge 11 = .ok (.getfield 110, 3) := by decide +kernel
theorem dX11_bridge_14 : decode cX11_bridge 14 = .ok (.invokestatic 214, 3) := by decide +kernel
theorem dX11_bridge_17 : decode cX11_bridge 17 = .ok (.istore_n 2, 1) := by decide +kernel
theorem dX11_bridge_18 : decode cX11_bridge 18 = .ok (.aload_n 0, 1) := by decide +kernel
theorem dX11_bridge_19 : decode cX11_bridge 19 = .ok (.getfield 110, 3) := by decide +kernel
theorem dX11_bridge_22 : decode cX11_bridge 22 = .ok (.invokestatic 220, 3) := by decide +kernel
theorem dX11_bridge_25 : decode cX11_bridge 25 = .ok (.istore_n 3, 1) := by decide +kernel
theorem dX11_bridge_26 : decode cX11_bridge 26 = .ok (.aload_n 0, 1) := by decide +kernel
theorem dX11_bridge_27 : decode cX11_bridge 27 = .ok (.invokevirtual 175, 3) := by decide +kernel
theorem dX11_bridge_30 : decode cX11_bridge 30 = .ok (.ifCond .ne 11, 3) := by decide +kernel
theorem dX11_bridge_33 : decode cX11_bridge 33 = .ok (.iload_n 2, 1) := by decide +kernel
theorem dX11_bridge_34 : decode cX11_bridge 34 = .ok (.iload_n 3, 1) := by decide +kernel
theorem dX11_bridge_35 : decode cX11_bridge 35 = .ok (.invokestatic 223, 3) := by decide +kernel
theorem dX11_bridge_38 : decode cX11_bridge 38 = .ok (.ifCond .ne 6, 3) := by decide +kernel
theorem dX11_bridge_41 : decode cX11_bridge 41 = .ok (.bipush (-3), 2) := by decide +kernel
theorem dX11_bridge_43 : decode cX11_bridge 43 = .ok (.ireturn, 1) := by decide +kernel
theorem dX11_bridge_44 : decode cX11_bridge 44 = .ok (.iload_n 2, 1) := by decide +kernel
theorem dX11_bridge_45 : decode cX11_bridge 45 = .ok (.iload_n 3, 1) := by decide +kernel
theorem dX11_bridge_46 : decode cX11_bridge 46 = .ok (.invokestatic 231, 3) := by decide +kernel
theorem dX11_bridge_49 : decode cX11_bridge 49 = .ok (.iload_n 1, 1) := by decide +kernel
theorem dX11_bridge_50 : decode cX11_bridge 50 = .ok (.invokestatic 234, 3) := by decide +kernel
theorem dX11_bridge_53 : decode cX11_bridge 53 = .ok (.ireturn, 1) := by decide +kernel
theorem dX11_sun_0 : decode cX11_sun 0 = .ok (.aload_n 0, 1) := by decide +kernel
theorem dX11_sun_1 : decode cX11_sun 1 = .ok (.invokevirtual 175, 3) := by decide +kernel
theorem dX11_sun_4 : decode cX11_sun 4 = .ok (.ifCond .eq 6, 3) := by decide +kernel
theorem dX11_sun_7 : decode cX11_sun 7 = .ok (.bipush (-3), 2) := by decide +kernel
theorem dX11_sun_9 : decode cX11_sun 9 = .ok (.ireturn, 1) := by decide +kernel
theorem dX11_sun_10 : decode cX11_sun 10 = .ok (.aload_n 0, 1) := by decide +kernel
theorem dX11_sun_11 : decode cX11_sun 11 = .ok (.getfield 110, 3) := by decide +kernel
theorem dX11_sun_14 : decode cX11_sun 14 = .ok (.invokestatic 214, 3) := by decide +kernel
theorem dX11_sun_17 : decode cX11_sun 17 = .ok (.aload_n 0, 1) := by decide +kernel
theorem dX11_sun_18 : decode cX11_sun 18 = .ok (.getfield 110, 3) := by decide +kernel
theorem dX11_sun_21 : decode cX11_sun 21 = .ok (.invokestatic 220, 3) := by decide +kernel
theorem dX11_sun_24 : decode cX11_sun 24 = .ok (.invokestatic 237, 3) := by decide +kernel
theorem dX11_sun_27 : decode cX11_sun 27 = .ok (.invokestatic 117, 3) := by decide +kernel
theorem dX11_sun_30 : decode cX11_sun 30 = .ok (.ireturn, 1) := by decide +kernel
theorem dX11_mend_0 : decode cX11_mend 0 = .ok (.aload_n 0, 1) := by decide +kernel
theorem dX11_mend_1 : decode cX11_mend 1 = .ok (.iload_n 1, 1) := by decide +kernel
theorem dX11_mend_2 : decode cX11_mend 2 = .ok (.invokevirtual 165, 3) := by decide +kernel
theorem dX11_mend_5 : decode cX11_mend 5 = .ok (.ifCond .eq 11, 3) := by decide +kernel
theorem dX11_mend_8 : decode cX11_mend 8 = .ok (.aload_n 0, 1) := by decide +kernel
theorem dX11_mend_9 : decode cX11_mend 9 = .ok (.iload_n 2, 1) := by decide +kernel
theorem dX11_mend_10 : decode cX11_mend 10 = .ok (.invokevirtual 228, 3) := by decide +kernel
theorem dX11_mend_13 : decode cX11_mend 13 = .ok (.ifCond .ne 5, 3) := by decide +kernel
theorem dX11_mend_16 : decode cX11_mend 16 = .ok (.iconst (-1), 1) := by decide +kernel
theorem dX11_mend_17 : decode cX11_mend 17 = .ok (.ireturn, 1) := by decide +kernel
theorem dX11_mend_18 : decode cX11_mend 18 = .ok (.aload_n 0, 1) := by decide +kernel
theorem dX11_mend_19 : decode cX11_mend 19 = .ok (.invokevirtual 175, 3) := by decide +kernel
theorem dX11_mend_22 : decode cX11_mend 22 = .ok (.ifCond .eq 6, 3) := by decide +kernel
theorem dX11_mend_25 : decode cX11_mend 25 = .ok (.bipush (-3), 2) := by decide +kernel
theorem dX11_mend_27 : decode cX11_mend 27 = .ok (.ireturn, 1) := by decide +kernel
theorem dX11_mend_28 : decode cX11_mend 28 = .ok (.aload_n 0, 1) := by decide +kernel
theorem dX11_mend_29 : decode cX11_mend 29 = .ok (.getfield 240, 3) := by decide +kernel
theorem dX11_mend_32 : decode cX11_mend 32 = .ok (.iload_n 1, 1) := by decide +kernel
theorem dX11_mend_33 : decode cX11_mend 33 = .ok (.invokestatic 125, 3) := by decide +kernel
theorem dX11_mend_36 : decode cX11_mend 36 = .ok (.ifCond .ne 26, 3) := by decide +kernel
theorem dX11_mend_39 : decode cX11_mend 39 = .ok (.aload_n 0, 1) := by decide +kernel
theorem dX11_mend_40 : decode cX11_mend 40 = .ok (.getfield 44, 3) := by decide +kernel
theorem dX11_mend_43 : decode cX11_mend 43 = .ok (.iload_n 1, 1) := by decide +kernel
theorem dX11_mend_44 : decode cX11_mend 44 = .ok (.aload_n 0, 1) := by decide +kernel
theorem dX11_mend_45 : decode cX11_mend 45 = .ok (.iload_n 1, 1) := by decide +kernel
theorem dX11_mend_46 : decode cX11_mend 46 = .ok (.invokevirtual 243, 3) := by decide +kernel
theorem dX11_mend_49 : decode cX11_mend 49 = .ok (.iastore, 1) := by decide +kernel
theorem dX11_mend_50 : decode cX11_mend 50 = .ok (.aload_n 0, 1) := by decide +kernel
theorem dX11_mend_51 : decode cX11_mend 51 = .ok (.dup, 1) := by decide +kernel
theorem dX11_mend_52 : decode cX11_mend 52 = .ok (.getfield 240, 3) := by decide +kernel
theorem dX11_mend_55 : decode cX11_mend 55 = .ok (.iconst 1, 1) := by decide +kernel
theorem dX11_mend_56 : decode cX11_mend 56 = .ok (.iload_n 1, 1) := by decide +kernel
theorem dX11_mend_57 : decode cX11_mend 57 = .ok (.ishl, 1) := by decide +kernel
theorem dX11_mend_58 : decode cX11_mend 58 = .ok (.ior, 1) := by decide +kernel
theorem dX11_mend_59 : decode cX11_mend 59 = .ok (.putfield 240, 3) := by decide +kernel
theorem dX11_mend_62 : decode cX11_mend 62 = .ok (.aload_n 0, 1) := by decide +kernel
theorem dX11_mend_63 : decode cX11_mend 63 = .ok (.getfield 44, 3) := by decide +kernel
theorem dX11_mend_66 : decode cX11_mend 66 = .ok (.iload_n 1, 1) := by decide +kernel
theorem dX11_mend_67 : decode cX11_mend 67 = .ok (.iaload, 1) := by decide +kernel
theorem dX11_mend_68 : decode cX11_mend 68 = .ok (.iload_n 2, 1) := by decide +kernel
theorem dX11_mend_69 : decode cX11_mend 69 = .ok (.invokestatic 234, 3) := by decide +kernel
theorem dX11_mend_72 : decode cX11_mend 72 = .ok (.ireturn, 1) := by decide +kernel
theorem dX11_nets_0 : decode cX11_nets 0 = .ok (.aload_n 0, 1) := by decide +kernel
theorem dX11_nets_1 : decode cX11_nets 1 = .ok (.iload_n 2, 1) := by decide +kernel
theorem dX11_nets_2 : decode cX11_nets 2 = .ok (.invokevirtual 165, 3) := by decide +kernel
theorem dX11_nets_5 : decode cX11_nets 5 = .ok (.ifCond .ne 5, 3) := by decide +kernel
theorem dX11_nets_8 : decode cX11_nets 8 = .ok (.iconst (-1), 1) := by decide +kernel
theorem dX11_nets_9 : decode cX11_nets 9 = .ok (.ireturn, 1) := by decide +kernel
theorem dX11_nets_10 : decode cX11_nets 10 = .ok (.iload_n 1, 1) := by decide +kernel
theorem dX11_nets_11 : decode cX11_nets 11 = .ok (.iconst 1, 1) := by decide +kernel
theorem dX11_nets_12 : decode cX11_nets 12 = .ok (.if_icmp .lt 17, 3) := by decide +kernel
theorem dX11_nets_15 : decode cX11_nets 15 = .ok (.iload_n 1, 1) := by decide +kernel
theorem dX11_nets_16 : decode cX11_nets 16 = .ok (.iconst 3, 1) := by decide +kernel
theorem dX11_nets_17 : decode cX11_nets 17 = .ok (.if_icmp .gt 12, 3) := by decide +kernel
theorem dX11_nets_20 : decode cX11_nets 20 = .ok (.iload_n 3, 1) := by decide +kernel
theorem dX11_nets_21 : decode cX11_nets 21 = .ok (.ifCond .lt 8, 3) := by decide +kernel
theorem dX11_nets_24 : decode cX11_nets 24 = .ok (.iload_n 3, 1) := by decide +kernel
theorem dX11_nets_25 : decode cX11_nets 25 = .ok (.iconst 4, 1) := by decide +kernel
theorem dX11_nets_26 : decode cX11_nets 26 = .ok (.if_icmp .lt 6, 3) := by decide +kernel
theorem dX11_nets_29 : decode cX11_nets 29 = .ok (.bipush (-2), 2) := by decide +kernel
theorem dX11_nets_31 : decode cX11_nets 31 = .ok (.ireturn, 1) := by decide +kernel
theorem dX11_nets_32 : decode cX11_nets 32 = .ok (.iload_n 1, 1) := by decide +kernel
theorem dX11_nets_33 : decode cX11_nets 33 = .ok (.iconst 1, 1) := by decide +kernel
theorem dX11_nets_34 : decode cX11_nets 34 = .ok (.isub, 1) := by decide +kernel
theorem dX11_nets_35 : decode cX11_nets 35 = .ok (.iconst 4, 1) := by decide +kernel
theorem dX11_nets_36 : decode cX11_nets 36 = .ok (.imul, 1) := by decide +kernel
theorem dX11_nets_37 : decode cX11_nets 37 = .ok (.iload_n 2, 1) := by decide +kernel
theorem dX11_nets_38 : decode cX11_nets 38 = .ok (.iadd, 1) := by decide +kernel
theorem dX11_nets_39 : decode cX11_nets 39 = .ok (.istore 4, 2) := by decide +kernel
theorem dX11_nets_41 : decode cX11_nets 41 = .ok (.aload_n 0, 1) := by decide +kernel
theorem dX11_nets_42 : decode cX11_nets 42 = .ok (.getfield 246, 3) := by decide +kernel
theorem dX11_nets_45 : decode cX11_nets 45 = .ok (.iload 4, 2) := by decide +kernel
theorem dX11_nets_47 : decode cX11_nets 47 = .ok (.invokestatic 125, 3) := by decide +kernel
theorem dX11_nets_50 : decode cX11_nets 50 = .ok (.ifCond .ne 26, 3) := by decide +kernel
theorem dX11_nets_53 : decode cX11_nets 53 = .ok (.aload_n 0, 1) := by decide +kernel
theorem dX11_nets_54 : decode cX11_nets 54 = .ok (.iload_n 1, 1) := by decide +kernel
theorem dX11_nets_55 : decode cX11_nets 55 = .ok (.iload_n 2, 1) := by decide +kernel
theorem dX11_nets_56 : decode cX11_nets 56 = .ok (.iconst 4, 1) := by decide +kernel
theorem dX11_nets_57 : decode cX11_nets 57 = .ok (.iload 4, 2) := by decide +kernel
theorem dX11_nets_59 : decode cX11_nets 59 = .ok (.imul, 1) := by decide +kernel
theorem dX11_nets_60 : decode cX11_nets 60 = .ok (.invokevirtual 249, 3) := by decide +kernel
theorem dX11_nets_63 : decode cX11_nets 63 = .ok (.aload_n 0, 1) := by decide +kernel
theorem dX11_nets_64 : decode cX11_nets 64 = .ok (.dup, 1) := by decide +kernel
theorem dX11_nets_65 : decode cX11_nets 65 = .ok (.getfield 246, 3) := by decide +kernel
theorem dX11_nets_68 : decode cX11_nets 68 = .ok (.iconst 1, 1) := by decide +kernel
theorem dX11_nets_69 : decode cX11_nets 69 = .ok (.iload 4, 2) := by decide +kernel
theorem dX11_nets_71 : decode cX11_nets 71 = .ok (.ishl, 1) := by decide +kernel
theorem dX11_nets_72 : decode cX11_nets 72 = .ok (.ior, 1) := by decide +kernel
theorem dX11_nets_73 : decode cX11_nets 73 = .ok (.putfield 246, 3) := by decide +kernel
theorem dX11_nets_76 : decode cX11_nets 76 = .ok (.aload_n 0, 1) := by decide +kernel
theorem dX11_nets_77 : decode cX11_nets 77 = .ok (.getfield 48, 3) := by decide +kernel
theorem dX11_nets_80 : decode cX11_nets 80 = .ok (.iconst 4, 1) := by decide +kernel
theorem dX11_nets_81 : decode cX11_nets 81 = .ok (.iload 4, 2) := by decide +kernel
theorem dX11_nets_83 : decode cX11_nets 83 = .ok (.imul, 1) := by decide +kernel
theorem dX11_nets_84 : decode cX11_nets 84 = .ok (.iload_n 3, 1) := by decide +kernel
theorem dX11_nets_85 : decode cX11_nets 85 = .ok (.iadd, 1) := by decide +kernel
theorem dX11_nets_86 : decode cX11_nets 86 = .ok (.iaload, 1) := by decide +kernel
theorem dX11_nets_87 : decode cX11_nets 87 = .ok (.ireturn, 1) := by decide +kernel
theorem dX11_within_0 : decode cX11_within 0 = .ok (.aload_n 0, 1) := by decide +kernel
theorem dX11_within_1 : decode cX11_within 1 = .ok (.iload_n 1, 1) := by decide +kernel
theorem dX11_within_2 : decode cX11_within 2 = .ok (.invokevirtual 165, 3) := by decide +kernel
theorem dX11_within_5 : decode cX11_within 5 = .ok (.ifCond .eq 11, 3) := by decide +kernel
theorem dX11_within_8 : decode cX11_within 8 = .ok (.aload_n 0, 1) := by decide +kernel
theorem dX11_within_9 : decode cX11_within 9 = .ok (.iload_n 2, 1) := by decide +kernel
theorem dX11_within_10 : decode cX11_within 10 = .ok (.invokevirtual 165, 3) := by decide +kernel
theorem dX11_within_13 : decode cX11_within 13 = .ok (.ifCond .ne 5, 3) := by decide +kernel
theorem dX11_within_16 : decode cX11_within 16 = .ok (.iconst (-1), 1) := by decide +kernel
theorem dX11_within_17 : decode cX11_within 17 = .ok (.ireturn, 1) := by decide +kernel
theorem dX11_within_18 : decode cX11_within 18 = .ok (.iload_n 1, 1) := by decide +kernel
theorem dX11_within_19 : decode cX11_within 19 = .ok (.iconst 2, 1) := by decide +kernel
theorem dX11_within_20 : decode cX11_within 20 = .ok (.if_icmp .ne 8, 3) := by decide +kernel
theorem dX11_within_23 : decode cX11_within 23 = .ok (.iload_n 2, 1) := by decide +kernel
theorem dX11_within_24 : decode cX11_within 24 = .ok (.iconst 3, 1) := by decide +kernel
theorem dX11_within_25 : decode cX11_within 25 = .ok (.if_icmp .eq 13, 3) := by decide +kernel
theorem dX11_within_28 : decode cX11_within 28 = .ok (.iload_n 1, 1) := by decide +kernel
theorem dX11_within_29 : decode cX11_within 29 = .ok (.iconst 3, 1) := by decide +kernel
theorem dX11_within_30 : decode cX11_within 30 = .ok (.if_icmp .ne 11, 3) := by decide +kernel
theorem dX11_within_33 : decode cX11_within 33 = .ok (.iload_n 2, 1) := by decide +kernel
theorem dX11_within_34 : decode cX11_within 34 = .ok (.iconst 2, 1) := by decide +kernel
theorem dX11_within_35 : decode cX11_within 35 = .ok (.if_icmp .ne 6, 3) := by decide +kernel
theorem dX11_within_38 : decode cX11_within 38 = .ok (.bipush (-2), 2) := by decide +kernel
theorem dX11_within_40 : decode cX11_within 40 = .ok (.ireturn, 1) := by decide +kernel
theorem dX11_within_41 : decode cX11_within 41 = .ok (.aload_n 0, 1) := by decide +kernel
theorem dX11_within_42 : decode cX11_within 42 = .ok (.invokevirtual 175, 3) := by decide +kernel
theorem dX11_within_45 : decode cX11_within 45 = .ok (.ifCond .eq 6, 3) := by decide +kernel
theorem dX11_within_48 : decode cX11_within 48 = .ok (.bipush (-3), 2) := by decide +kernel
theorem dX11_within_50 : decode cX11_within 50 = .ok (.ireturn, 1) := by decide +kernel
theorem dX11_within_51 : decode cX11_within 51 = .ok (.aload_n 0, 1) := by decide +kernel
theorem dX11_within_52 : decode cX11_within 52 = .ok (.getfield 33, 3) := by decide +kernel
theorem dX11_within_55 : decode cX11_within 55 = .ok (.aload_n 0, 1) := by decide +kernel
theorem dX11_within_56 : decode cX11_within 56 = .ok (.getfield 99, 3) := by decide +kernel
theorem dX11_within_59 : decode cX11_within 59 = .ok (.iload_n 1, 1) := by decide +kernel
theorem dX11_within_60 : decode cX11_within 60 = .ok (.iload_n 2, 1) := by decide +kernel
theorem dX11_within_61 : decode cX11_within 61 = .ok (.invokevirtual 253, 3) := by decide +kernel
theorem dX11_within_64 : decode cX11_within 64 = .ok (.invokestatic 117, 3) := by decide +kernel
theorem dX11_within_67 : decode cX11_within 67 = .ok (.ireturn, 1) := by decide +kernel
theorem dX11_sheet_0 : decode cX11_sheet 0 = .ok (.aload_n 0, 1) := by decide +kernel
theorem dX11_sheet_1 : decode cX11_sheet 1 = .ok (.iconst 0, 1) := by decide +kernel
theorem dX11_sheet_2 : decode cX11_sheet 2 = .ok (.putfield 51, 3) := by decide +kernel
theorem dX11_sheet_5 : decode cX11_sheet 5 = .ok (.aload_n 0, 1) := by decide +kernel
theorem dX11_sheet_6 : decode cX11_sheet 6 = .ok (.iload_n 1, 1) := by decide +kernel
theorem dX11_sheet_7 : decode cX11_sheet 7 = .ok (.invokevirtual 55, 3) := by decide +kernel
theorem dX11_sheet_10 : decode cX11_sheet 10 = .ok (.ifCond .ne 5, 3) := by decide +kernel
theorem dX11_sheet_13 : decode cX11_sheet 13 = .ok (.iconst (-1), 1) := by decide +kernel
theorem dX11_sheet_14 : decode cX11_sheet 14 = .ok (.ireturn, 1) := by decide +kernel
theorem dX11_sheet_15 : decode cX11_sheet 15 = .ok (.aload_n 0, 1) := by decide +kernel
theorem dX11_sheet_16 : decode cX11_sheet 16 = .ok (.iload_n 2, 1) := by decide +kernel
theorem dX11_sheet_17 : decode cX11_sheet 17 = .ok (.invokevirtual 59, 3) := by decide +kernel
theorem dX11_sheet_20 : decode cX11_sheet 20 = .ok (.ifCond .eq 9, 3) := by decide +kernel
theorem dX11_sheet_23 : decode cX11_sheet 23 = .ok (.iload_n 3, 1) := by decide +kernel
theorem dX11_sheet_24 : decode cX11_sheet 24 = .ok (.bipush 60, 2) := by decide +kernel
theorem dX11_sheet_26 : decode cX11_sheet 26 = .ok (.if_icmp .le 6, 3) := by decide +kernel
theorem dX11_sheet_29 : decode cX11_sheet 29 = .ok (.bipush (-2), 2) := by decide +kernel
theorem dX11_sheet_31 : decode cX11_sheet 31 = .ok (.ireturn, 1) := by decide +kernel
theorem dX11_sheet_32 : decode cX11_sheet 32 = .ok (.iload_n 3, 1) := by decide +kernel
theorem dX11_sheet_33 : decode cX11_sheet 33 = .ok (.ifCond .ge 9, 3) := by decide +kernel
theorem dX11_sheet_36 : decode cX11_sheet 36 = .ok (.aload_n 0, 1) := by decide +kernel
theorem dX11_sheet_37 : decode cX11_sheet 37 = .ok (.iconst 4, 1) := by decide +kernel
theorem dX11_sheet_38 : decode cX11_sheet 38 = .ok (.invokevirtual 62, 3) := by decide +kernel
theorem dX11_sheet_41 : decode cX11_sheet 41 = .ok (.ireturn, 1) := by decide +kernel
theorem dX11_sheet_42 : decode cX11_sheet 42 = .ok (.aload_n 0, 1) := by decide +kernel
theorem dX11_sheet_43 : decode cX11_sheet 43 = .ok (.getfield 13, 3) := by decide +kernel
theorem dX11_sheet_46 : decode cX11_sheet 46 = .ok (.iload_n 1, 1) := by decide +kernel
theorem dX11_sheet_47 : decode cX11_sheet 47 = .ok (.new 11, 3) := by decide +kernel
theorem dX11_sheet_50 : decode cX11_sheet 50 = .ok (.dup, 1) := by decide +kernel
theorem dX11_sheet_51 : decode cX11_sheet 51 = .ok (.iload_n 2, 1) := by decide +kernel
theorem dX11_sheet_52 : decode cX11_sheet 52 = .ok (.iload_n 3, 1) := by decide +kernel
theorem dX11_sheet_53 : decode cX11_sheet 53 = .ok (.invokespecial 256, 3) := by decide +kernel
theorem dX11_sheet_56 : decode cX11_sheet 56 = .ok (.aastore, 1) := by decide +kernel
theorem dX11_sheet_57 : decode cX11_sheet 57 = .ok (.iconst 1, 1) := by decide +kernel
theorem dX11_sheet_58 : decode cX11_sheet 58 = .ok (.ireturn, 1) := by decide +kernel
theorem dX11_lose_0 : decode cX11_lose 0 = .ok (.aload_n 0, 1) := by decide +kernel
theorem dX11_lose_1 : decode cX11_lose 1 = .ok (.iload_n 1, 1) := by decide +kernel
theorem dX11_lose_2 : decode cX11_lose 2 = .ok (.invokevirtual 55, 3) := by decide +kernel
theorem dX11_lose_5 : decode cX11_lose 5 = .ok (.ifCond .ne 5, 3) := by decide +kernel
theorem dX11_lose_8 : decode cX11_lose 8 = .ok (.iconst (-1), 1) := by decide +kernel
theorem dX11_lose_9 : decode cX11_lose 9 = .ok (.ireturn, 1) := by decide +kernel
theorem dX11_lose_10 : decode cX11_lose 10 = .ok (.aload_n 0, 1) := by decide +kernel
theorem dX11_lose_11 : decode cX11_lose 11 = .ok (.getfield 13, 3) := by decide +kernel
theorem dX11_lose_14 : decode cX11_lose 14 = .ok (.iload_n 1, 1) := by decide +kernel
theorem dX11_lose_15 : decode cX11_lose 15 = .ok (.aaload, 1) := by decide +kernel
theorem dX11_lose_16 : decode cX11_lose 16 = .ok (.ifnonnull 5, 3) := by decide +kernel
theorem dX11_lose_19 : decode cX11_lose 19 = .ok (.iconst 0, 1) := by decide +kernel
theorem dX11_lose_20 : decode cX11_lose 20 = .ok (.ireturn, 1) := by decide +kernel
theorem dX11_lose_21 : decode cX11_lose 21 = .ok (.aload_n 0, 1) := by decide +kernel
theorem dX11_lose_22 : decode cX11_lose 22 = .ok (.getfield 13, 3) := by decide +kernel
theorem dX11_lose_25 : decode cX11_lose 25 = .ok (.iload_n 1, 1) := by decide +kernel
theorem dX11_lose_26 : decode cX11_lose 26 = .ok (.aconst_null, 1) := by decide +kernel
theorem dX11_lose_27 : decode cX11_lose 27 = .ok (.aastore, 1) := by decide +kernel
theorem dX11_lose_28 : decode cX11_lose 28 = .ok (.iconst 1, 1) := by decide +kernel
theorem dX11_lose_29 : decode cX11_lose 29 = .ok (.ireturn, 1) := by decide +kernel
theorem dX11_put_0 : decode cX11_put 0 = .ok (.aload_n 0, 1) := by decide +kernel
theorem dX11_put_1 : decode cX11_put 1 = .ok (.iconst 0, 1) := by decide +kernel
theorem dX11_put_2 : decode cX11_put 2 = .ok (.putfield 51, 3) := by decide +kernel
theorem dX11_put_5 : decode cX11_put 5 = .ok (.aload_n 0, 1) := by decide +kernel
theorem dX11_put_6 : decode cX11_put 6 = .ok (.iload_n 1, 1) := by decide +kernel
theorem dX11_put_7 : decode cX11_put 7 = .ok (.invokevirtual 55, 3) := by decide +kernel
theorem dX11_put_10 : decode cX11_put 10 = .ok (.ifCond .ne 5, 3) := by decide +kernel
theorem dX11_put_13 : decode cX11_put 13 = .ok (.iconst (-1), 1) := by decide +kernel
theorem dX11_put_14 : decode cX11_put 14 = .ok (.ireturn, 1) := by decide +kernel
theorem dX11_put_15 : decode cX11_put 15 = .ok (.aload_n 0, 1) := by decide +kernel
theorem dX11_put_16 : decode cX11_put 16 = .ok (.getfield 13, 3) := by decide +kernel
theorem dX11_put_19 : decode cX11_put 19 = .ok (.iload_n 1, 1) := by decide +kernel
theorem dX11_put_20 : decode cX11_put 20 = .ok (.aaload, 1) := by decide +kernel
theorem dX11_put_21 : decode cX11_put 21 = .ok (.astore 4, 2) := by decide +kernel
theorem dX11_put_23 : decode cX11_put 23 = .ok (.aload 4, 2) := by decide +kernel
theorem dX11_put_25 : decode cX11_put 25 = .ok (.ifnonnull 9, 3) := by decide +kernel
theorem dX11_put_28 : decode cX11_put 28 = .ok (.aload_n 0, 1) := by decide +kernel
theorem dX11_put_29 : decode cX11_put 29 = .ok (.iconst 1, 1) := by decide +kernel
theorem dX11_put_30 : decode cX11_put 30 = .ok (.invokevirtual 62, 3) := by decide +kernel
theorem dX11_put_33 : decode cX11_put 33 = .ok (.ireturn, 1) := by decide +kernel
theorem dX11_put_34 : decode cX11_put 34 = .ok (.aload 4, 2) := by decide +kernel
theorem dX11_put_36 : decode cX11_put 36 = .ok (.iload_n 2, 1) := by decide +kernel
theorem dX11_put_37 : decode cX11_put 37 = .ok (.iconst 1, 1) := by decide +kernel
theorem dX11_put_38 : decode cX11_put 38 = .ok (.invokevirtual 69, 3) := by decide +kernel
theorem dX11_put_41 : decode cX11_put 41 = .ok (.ifCond .ne 9, 3) := by decide +kernel
theorem dX11_put_44 : decode cX11_put 44 = .ok (.aload_n 0, 1) := by decide +kernel
theorem dX11_put_45 : decode cX11_put 45 = .ok (.iconst 3, 1) := by decide +kernel
theorem dX11_put_46 : decode cX11_put 46 = .ok (.invokevirtual 62, 3) := by decide +kernel
theorem dX11_put_49 : decode cX11_put 49 = .ok (.ireturn, 1) := by decide +kernel
theorem dX11_put_50 : decode cX11_put 50 = .ok (.aload 4, 2) := by decide +kernel
theorem dX11_put_52 : decode cX11_put 52 = .ok (.iload_n 2, 1) := by decide +kernel
theorem dX11_put_53 : decode cX11_put 53 = .ok (.iload_n 3, 1) := by decide +kernel
theorem dX11_put_54 : decode cX11_put 54 = .ok (.invokevirtual 259, 3) := by decide +kernel
theorem dX11_put_57 : decode cX11_put 57 = .ok (.iconst 1, 1) := by decide +kernel
theorem dX11_put_58 : decode cX11_put 58 = .ok (.ireturn, 1) := by decide +kernel
theorem dX11_cell_0 : decode cX11_cell 0 = .ok (.aload_n 0, 1) := by decide +kernel
theorem dX11_cell_1 : decode cX11_cell 1 = .ok (.iconst 0, 1) := by decide +kernel
theorem dX11_cell_2 : decode cX11_cell 2 = .ok (.putfield 51, 3) := by decide +kernel
theorem dX11_cell_5 : decode cX11_cell 5 = .ok (.aload_n 0, 1) := by decide +kernel
theorem dX11_cell_6 : decode cX11_cell 6 = .ok (.iload_n 1, 1) := by decide +kernel
theorem dX11_cell_7 : decode cX11_cell 7 = .ok (.invokevirtual 55, 3) := by decide +kernel
theorem dX11_cell_10 : decode cX11_cell 10 = .ok (.ifCond .eq 11, 3) := by decide +kernel
theorem dX11_cell_13 : decode cX11_cell 13 = .ok (.aload_n 0, 1) := by decide +kernel
theorem dX11_cell_14 : decode cX11_cell 14 = .ok (.iload_n 3, 1) := by decide +kernel
theorem dX11_cell_15 : decode cX11_cell 15 = .ok (.invokevirtual 59, 3) := by decide +kernel
theorem dX11_cell_18 : decode cX11_cell 18 = .ok (.ifCond .ne 7, 3) := by decide +kernel
theorem dX11_cell_21 : decode cX11_cell 21 = .ok (.ldc2_w 179, 3) := by decide +kernel
theorem dX11_cell_24 : decode cX11_cell 24 = .ok (.lreturn, 1) := by decide +kernel
theorem dX11_cell_25 : decode cX11_cell 25 = .ok (.aload_n 0, 1) := by decide +kernel
theorem dX11_cell_26 : decode cX11_cell 26 = .ok (.getfield 13, 3) := by decide +kernel
theorem dX11_cell_29 : decode cX11_cell 29 = .ok (.iload_n 1, 1) := by decide +kernel
theorem dX11_cell_30 : decode cX11_cell 30 = .ok (.aaload, 1) := by decide +kernel
theorem dX11_cell_31 : decode cX11_cell 31 = .ok (.astore 4, 2) := by decide +kernel
theorem dX11_cell_33 : decode cX11_cell 33 = .ok (.aload_n 0, 1) := by decide +kernel
theorem dX11_cell_34 : decode cX11_cell 34 = .ok (.aload 4, 2) := by decide +kernel
theorem dX11_cell_36 : decode cX11_cell 36 = .ok (.ifnonnull 7, 3) := by decide +kernel
theorem dX11_cell_39 : decode cX11_cell 39 = .ok (.iconst 1, 1) := by decide +kernel
theorem dX11_cell_40 : decode cX11_cell 40 = .ok (.goto 31, 3) := by decide +kernel
theorem dX11_cell_43 : decode cX11_cell 43 = .ok (.aload 4, 2) := by decide +kernel
theorem dX11_cell_45 : decode cX11_cell 45 = .ok (.getfield 66, 3) := by decide +kernel
theorem dX11_cell_48 : decode cX11_cell 48 = .ok (.iload_n 3, 1) := by decide +kernel
theorem dX11_cell_49 : decode cX11_cell 49 = .ok (.if_icmp .eq 7, 3) := by decide +kernel
theorem dX11_cell_52 : decode cX11_cell 52 = .ok (.iconst 2, 1) := by decide +kernel
theorem dX11_cell_53 : decode cX11_cell 53 = .ok (.goto 18, 3) := by decide +kernel
theorem dX11_cell_56 : decode cX11_cell 56 = .ok (.aload 4, 2) := by decide +kernel
theorem dX11_cell_58 : decode cX11_cell 58 = .ok (.iload_n 2, 1) := by decide +kernel
theorem dX11_cell_59 : decode cX11_cell 59 = .ok (.iconst 1, 1) := by decide +kernel
theorem dX11_cell_60 : decode cX11_cell 60 = .ok (.invokevirtual 69, 3) := by decide +kernel
theorem dX11_cell_63 : decode cX11_cell 63 = .ok (.ifCond .ne 7, 3) := by decide +kernel
theorem dX11_cell_66 : decode cX11_cell 66 = .ok (.iconst 3, 1) := by decide +kernel
theorem dX11_cell_67 : decode cX11_cell 67 = .ok (.goto 4, 3) := by decide +kernel
theorem dX11_cell_70 : decode cX11_cell 70 = .ok (.iconst 0, 1) := by decide +kernel
theorem dX11_cell_71 : decode cX11_cell 71 = .ok (.putfield 51, 3) := by decide +kernel
theorem dX11_cell_74 : decode cX11_cell 74 = .ok (.aload 4, 2) := by decide +kernel
theorem dX11_cell_76 : decode cX11_cell 76 = .ok (.ifnull 10, 3) := by decide +kernel
theorem dX11_cell_79 : decode cX11_cell 79 = .ok (.aload_n 0, 1) := by decide +kernel
theorem dX11_cell_80 : decode cX11_cell 80 = .ok (.getfield 51, 3) := by decide +kernel
theorem dX11_cell_83 : decode cX11_cell 83 = .ok (.ifCond .eq 9, 3) := by decide +kernel
theorem dX11_cell_86 : decode cX11_cell 86 = .ok (.ldc2_w 179, 3) := by decide +kernel
theorem dX11_cell_89 : decode cX11_cell 89 = .ok (.goto 10, 3) := by decide +kernel
theorem dX11_cell_92 : decode cX11_cell 92 = .ok (.aload 4, 2) := by decide +kernel
theorem dX11_cell_94 : decode cX11_cell 94 = .ok (.iload_n 2, 1) := by decide +kernel
theorem dX11_cell_95 : decode cX11_cell 95 = .ok (.invokevirtual 262, 3) := by decide +kernel
theorem dX11_cell_98 : decode cX11_cell 98 = .ok (.i2l, 1) := by decide +kernel
theorem dX11_cell_99 : decode cX11_cell 99 = .ok (.lreturn, 1) := by decide +kernel
theorem dX11_copy_0 : decode cX11_copy 0 = .ok (.aload_n 0, 1) := by decide +kernel
theorem dX11_copy_1 : decode cX11_copy 1 = .ok (.iconst 0, 1) := by decide +kernel
theorem dX11_copy_2 : decode cX11_copy 2 = .ok (.putfield 51, 3) := by decide +kernel
theorem dX11_copy_5 : decode cX11_copy 5 = .ok (.aload_n 0, 1) := by decide +kernel
theorem dX11_copy_6 : decode cX11_copy 6 = .ok (.iload_n 1, 1) := by decide +kernel
theorem dX11_copy_7 : decode cX11_copy 7 = .ok (.invokevirtual 55, 3) := by decide +kernel
theorem dX11_copy_10 : decode cX11_copy 10 = .ok (.ifCond .eq 11, 3) := by decide +kernel
theorem dX11_copy_13 : decode cX11_copy 13 = .ok (.aload_n 0, 1) := by decide +kernel
theorem dX11_copy_14 : decode cX11_copy 14 = .ok (.iload_n 3, 1) := by decide +kernel
theorem dX11_copy_15 : decode cX11_copy 15 = .ok (.invokevirtual 55, 3) := by decide +kernel
theorem dX11_copy_18 : decode cX11_copy 18 = .ok (.ifCond .ne 5, 3) := by decide +kernel
theorem dX11_copy_21 : decode cX11_copy 21 = .ok (.iconst (-1), 1) := by decide +kernel
theorem dX11_copy_22 : decode cX11_copy 22 = .ok (.ireturn, 1) := by decide +kernel
theorem dX11_copy_23 : decode cX11_copy 23 = .ok (.aload_n 0, 1) := by decide +kernel
theorem dX11_copy_24 : decode cX11_copy 24 = .ok (.getfield 13, 3) := by decide +kernel
theorem dX11_copy_27 : decode cX11_copy 27 = .ok (.iload_n 1, 1) := by decide +kernel
theorem dX11_copy_28 : decode cX11_copy 28 = .ok (.aaload, 1) := by decide +kernel
theorem dX11_copy_29 : decode cX11_copy 29 = .ok (.astore 6, 2) := by decide +kernel
theorem dX11_copy_31 : decode cX11_copy 31 = .ok (.aload_n 0, 1) := by decide +kernel
theorem dX11_copy_32 : decode cX11_copy 32 = .ok (.getfield 13, 3) := by decide +kernel
theorem dX11_copy_35 : decode cX11_copy 35 = .ok (.iload_n 3, 1) := by decide +kernel
theorem dX11_copy_36 : decode cX11_copy 36 = .ok (.aaload, 1) := by decide +kernel
theorem dX11_copy_37 : decode cX11_copy 37 = .ok (.astore 7, 2) := by decide +kernel
theorem dX11_copy_39 : decode cX11_copy 39 = .ok (.aload 6, 2) := by decide +kernel
theorem dX11_copy_41 : decode cX11_copy 41 = .ok (.ifnull 8, 3) := by decide +kernel
theorem dX11_copy_44 : decode cX11_copy 44 = .ok (.aload 7, 2) := by decide +kernel
theorem dX11_copy_46 : decode cX11_copy 46 = .ok (.ifnonnull 9, 3) := by decide +kernel
theorem dX11_copy_49 : decode cX11_copy 49 = .ok (.aload_n 0, 1) := by decide +kernel
theorem dX11_copy_50 : decode cX11_copy 50 = .ok (.iconst 1, 1) := by decide +kernel
theorem dX11_copy_51 : decode cX11_copy 51 = .ok (.invokevirtual 62, 3) := by decide +kernel
theorem dX11_copy_54 : decode cX11_copy 54 = .ok (.ireturn, 1) := by decide +kernel
theorem dX11_copy_55 : decode cX11_copy 55 = .ok (.aload 6, 2) := by decide +kernel
theorem dX11_copy_57 : decode cX11_copy 57 = .ok (.getfield 66, 3) := by decide +kernel
theorem dX11_copy_60 : decode cX11_copy 60 = .ok (.aload 7, 2) := by decide +kernel
theorem dX11_copy_62 : decode cX11_copy 62 = .ok (.getfield 66, 3) := by decide +kernel
theorem dX11_copy_65 : decode cX11_copy 65 = .ok (.if_icmp .eq 9, 3) := by decide +kernel
theorem dX11_copy_68 : decode cX11_copy 68 = .ok (.aload_n 0, 1) := by decide +kernel
theorem dX11_copy_69 : decode cX11_copy 69 = .ok (.iconst 2, 1) := by decide +kernel
theorem dX11_copy_70 : decode cX11_copy 70 = .ok (.invokevirtual 62, 3) := by decide +kernel
theorem dX11_copy_73 : decode cX11_copy 73 = .ok (.ireturn, 1) := by decide +kernel
theorem dX11_copy_74 : decode cX11_copy 74 = .ok (.aload 6, 2) := by decide +kernel
theorem dX11_copy_76 : decode cX11_copy 76 = .ok (.iload_n 2, 1) := by decide +kernel
theorem dX11_copy_77 : decode cX11_copy 77 = .ok (.iload 5, 2) := by decide +kernel
theorem dX11_copy_79 : decode cX11_copy 79 = .ok (.invokevirtual 69, 3) := by decide +kernel
theorem dX11_copy_82 : decode cX11_copy 82 = .ok (.ifCond .eq 15, 3) := by decide +kernel
theorem dX11_copy_85 : decode cX11_copy 85 = .ok (.aload 7, 2) := by decide +kernel
theorem dX11_copy_87 : decode cX11_copy 87 = .ok (.iload 4, 2) := by decide +kernel
theorem dX11_copy_89 : decode cX11_copy 89 = .ok (.iload 5, 2) := by decide +kernel
theorem dX11_copy_91 : decode cX11_copy 91 = .ok (.invokevirtual 69, 3) := by decide +kernel
theorem dX11_copy_94 : decode cX11_copy 94 = .ok (.ifCond .ne 9, 3) := by decide +kernel
theorem dX11_copy_97 : decode cX11_copy 97 = .ok (.aload_n 0, 1) := by decide +kernel
theorem dX11_copy_98 : decode cX11_copy 98 = .ok (.iconst 3, 1) := by decide +kernel
theorem dX11_copy_99 : decode cX11_copy 99 = .ok (.invokevirtual 62, 3) := by decide +kernel
theorem dX11_copy_102 : decode cX11_copy 102 = .ok (.ireturn, 1) := by decide +kernel
theorem dX11_copy_103 : decode cX11_copy 103 = .ok (.aload 6, 2) := by decide +kernel
theorem dX11_copy_105 : decode cX11_copy 105 = .ok (.getfield 265, 3) := by decide +kernel
theorem dX11_copy_108 : decode cX11_copy 108 = .ok (.iload_n 2, 1) := by decide +kernel
theorem dX11_copy_109 : decode cX11_copy 109 = .ok (.aload 7, 2) := by decide +kernel
theorem dX11_copy_111 : decode cX11_copy 111 = .ok (.getfield 265, 3) := by decide +kernel
theorem dX11_copy_114 : decode cX11_copy 114 = .ok (.iload 4, 2) := by decide +kernel
theorem dX11_copy_116 : decode cX11_copy 116 = .ok (.iload 5, 2) := by decide +kernel
theorem dX11_copy_118 : decode cX11_copy 118 = .ok (.invokestatic 268, 3) := by decide +kernel
theorem dX11_copy_121 : decode cX11_copy 121 = .ok (.iload 5, 2) := by decide +kernel
theorem dX11_copy_123 : decode cX11_copy 123 = .ok (.ireturn, 1) := by decide +kernel
theorem dX11_tell_0 : decode cX11_tell 0 = .ok (.aload_n 0, 1) := by decide +kernel
theorem dX11_tell_1 : decode cX11_tell 1 = .ok (.iload_n 1, 1) := by decide +kernel
theorem dX11_tell_2 : decode cX11_tell 2 = .ok (.invokevirtual 142, 3) := by decide +kernel
theorem dX11_tell_5 : decode cX11_tell 5 = .ok (.astore_n 2, 1) := by decide +kernel
theorem dX11_tell_6 : decode cX11_tell 6 = .ok (.aload_n 2, 1) := by decide +kernel
theorem dX11_tell_7 : decode cX11_tell 7 = .ok (.ifnonnull 7, 3) := by decide +kernel
theorem dX11_tell_10 : decode cX11_tell 10 = .ok (.iconst (-1), 1) := by decide +kernel
theorem dX11_tell_11 : decode cX11_tell 11 = .ok (.goto 11, 3) := by decide +kernel
theorem dX11_tell_14 : decode cX11_tell 14 = .ok (.aload_n 2, 1) := by decide +kernel
theorem dX11_tell_15 : decode cX11_tell 15 = .ok (.aload_n 0, 1) := by decide +kernel
theorem dX11_tell_16 : decode cX11_tell 16 = .ok (.getfield 26, 3) := by decide +kernel
theorem dX11_tell_19 : decode cX11_tell 19 = .ok (.invokevirtual 274, 3) := by decide +kernel
theorem dX11_tell_22 : decode cX11_tell 22 = .ok (.ireturn, 1) := by decide +kernel
theorem dX11_log_0 : decode cX11_log 0 = .ok (.aload_n 0, 1) := by decide +kernel
theorem dX11_log_1 : decode cX11_log 1 = .ok (.iload_n 1, 1) := by decide +kernel
theorem dX11_log_2 : decode cX11_log 2 = .ok (.invokevirtual 142, 3) := by decide +kernel
theorem dX11_log_5 : decode cX11_log 5 = .ok (.astore_n 2, 1) := by decide +kernel
theorem dX11_log_6 : decode cX11_log 6 = .ok (.aload_n 2, 1) := by decide +kernel
theorem dX11_log_7 : decode cX11_log 7 = .ok (.ifnonnull 7, 3) := by decide +kernel
theorem dX11_log_10 : decode cX11_log 10 = .ok (.iconst (-1), 1) := by decide +kernel
theorem dX11_log_11 : decode cX11_log 11 = .ok (.goto 11, 3) := by decide +kernel
theorem dX11_log_14 : decode cX11_log 14 = .ok (.aload_n 2, 1) := by decide +kernel
theorem dX11_log_15 : decode cX11_log 15 = .ok (.aload_n 0, 1) := by decide +kernel
theorem dX11_log_16 : decode cX11_log 16 = .ok (.getfield 26, 3) := by decide +kernel
theorem dX11_log_19 : decode cX11_log 19 = .ok (.invokevirtual 278, 3) := by decide +kernel
theorem dX11_log_22 : decode cX11_log 22 = .ok (.ireturn, 1) := by decide +kernel
theorem dX11_as_0 : decode cX11_as 0 = .ok (.aload_n 0, 1) := by decide +kernel
theorem dX11_as_1 : decode cX11_as 1 = .ok (.iconst 0, 1) := by decide +kernel
theorem dX11_as_2 : decode cX11_as 2 = .ok (.putfield 51, 3) := by decide +kernel
theorem dX11_as_5 : decode cX11_as 5 = .ok (.aload_n 0, 1) := by decide +kernel
theorem dX11_as_6 : decode cX11_as 6 = .ok (.iload_n 1, 1) := by decide +kernel
theorem dX11_as_7 : decode cX11_as 7 = .ok (.invokevirtual 142, 3) := by decide +kernel
theorem dX11_as_10 : decode cX11_as 10 = .ok (.astore_n 3, 1) := by decide +kernel
theorem dX11_as_11 : decode cX11_as 11 = .ok (.aload_n 3, 1) := by decide +kernel
theorem dX11_as_12 : decode cX11_as 12 = .ok (.ifnonnull 5, 3) := by decide +kernel
theorem dX11_as_15 : decode cX11_as 15 = .ok (.iconst (-1), 1) := by decide +kernel
theorem dX11_as_16 : decode cX11_as 16 = .ok (.ireturn, 1) := by decide +kernel
theorem dX11_as_17 : decode cX11_as 17 = .ok (.iload_n 2, 1) := by decide +kernel
theorem dX11_as_18 : decode cX11_as 18 = .ok (.ifCond .lt 8, 3) := by decide +kernel
theorem dX11_as_21 : decode cX11_as 21 = .ok (.iload_n 2, 1) := by decide +kernel
theorem dX11_as_22 : decode cX11_as 22 = .ok (.iconst 3, 1) := by decide +kernel
theorem dX11_as_23 : decode cX11_as 23 = .ok (.if_icmp .lt 6, 3) := by decide +kernel
theorem dX11_as_26 : decode cX11_as 26 = .ok (.bipush (-2), 2) := by decide +kernel
theorem dX11_as_28 : decode cX11_as 28 = .ok (.ireturn, 1) := by decide +kernel
theorem dX11_as_29 : decode cX11_as 29 = .ok (.aload_n 3, 1) := by decide +kernel
theorem dX11_as_30 : decode cX11_as 30 = .ok (.invokevirtual 146, 3) := by decide +kernel
theorem dX11_as_33 : decode cX11_as 33 = .ok (.iload_n 2, 1) := by decide +kernel
theorem dX11_as_34 : decode cX11_as 34 = .ok (.if_icmp .ge 11, 3) := by decide +kernel
theorem dX11_as_37 : decode cX11_as 37 = .ok (.aload_n 0, 1) := by decide +kernel
theorem dX11_as_38 : decode cX11_as 38 = .ok (.iconst 2, 1) := by decide +kernel
theorem dX11_as_39 : decode cX11_as 39 = .ok (.invokevirtual 62, 3) := by decide +kernel
theorem dX11_as_42 : decode cX11_as 42 = .ok (.goto 4, 3) := by decide +kernel
theorem dX11_as_45 : decode cX11_as 45 = .ok (.iconst 1, 1) := by decide +kernel
theorem dX11_as_46 : decode cX11_as 46 = .ok (.ireturn, 1) := by decide +kernel
theorem dX11_trace_0 : decode cX11_trace 0 = .ok (.aload_n 0, 1) := by decide +kernel
theorem dX11_trace_1 : decode cX11_trace 1 = .ok (.getfield 26, 3) := by decide +kernel
theorem dX11_trace_4 : decode cX11_trace 4 = .ok (.getfield 281, 3) := by decide +kernel
theorem dX11_trace_7 : decode cX11_trace 7 = .ok (.ireturn, 1) := by decide +kernel
theorem dX11_fault_0 : decode cX11_fault 0 = .ok (.aload_n 0, 1) := by decide +kernel
theorem dX11_fault_1 : decode cX11_fault 1 = .ok (.getfield 51, 3) := by decide +kernel
theorem dX11_fault_4 : decode cX11_fault 4 = .ok (.ireturn, 1) := by decide +kernel
theorem dX11_many_0 : decode cX11_many 0 = .ok (.iload_n 1, 1) := by decide +kernel
theorem dX11_many_1 : decode cX11_many 1 = .ok (.tableswitch 71 0 3 #[31, 39, 44, 52], 31) := by decide +kernel
theorem dX11_many_32 : decode cX11_many 32 = .ok (.aload_n 0, 1) := by decide +kernel
theorem dX11_many_33 : decode cX11_many 33 = .ok (.getfield 99, 3) := by decide +kernel
theorem dX11_many_36 : decode cX11_many 36 = .ok (.invokestatic 214, 3) := by decide +kernel
theorem dX11_many_39 : decode cX11_many 39 = .ok (.ireturn, 1) := by decide +kernel
theorem dX11_many_40 : decode cX11_many 40 = .ok (.aload_n 0, 1) := by decide +kernel
theorem dX11_many_41 : decode cX11_many 41 = .ok (.getfield 128, 3) := by decide +kernel
theorem dX11_many_44 : decode cX11_many 44 = .ok (.ireturn, 1) := by decide +kernel
theorem dX11_many_45 : decode cX11_many 45 = .ok (.aload_n 0, 1) := by decide +kernel
theorem dX11_many_46 : decode cX11_many 46 = .ok (.getfield 99, 3) := by decide +kernel
theorem dX11_many_49 : decode cX11_many 49 = .ok (.invokestatic 284, 3) := by decide +kernel
theorem dX11_many_52 : decode cX11_many 52 = .ok (.ireturn, 1) := by decide +kernel
theorem dX11_many_53 : decode cX11_many 53 = .ok (.aload_n 0, 1) := by decide +kernel
theorem dX11_many_54 : decode cX11_many 54 = .ok (.getfield 110, 3) := by decide +kernel
theorem dX11_many_57 : decode cX11_many 57 = .ok (.invokestatic 220, 3) := by decide +kernel
theorem dX11_many_60 : decode cX11_many 60 = .ok (.invokestatic 287, 3) := by decide +kernel
theorem dX11_many_63 : decode cX11_many 63 = .ok (.aload_n 0, 1) := by decide +kernel
theorem dX11_many_64 : decode cX11_many 64 = .ok (.getfield 110, 3) := by decide +kernel
theorem dX11_many_67 : decode cX11_many 67 = .ok (.invokestatic 214, 3) := by decide +kernel
theorem dX11_many_70 : decode cX11_many 70 = .ok (.isub, 1) := by decide +kernel
theorem dX11_many_71 : decode cX11_many 71 = .ok (.ireturn, 1) := by decide +kernel
theorem dX11_many_72 : decode cX11_many 72 = .ok (.bipush (-2), 2) := by decide +kernel
theorem dX11_many_74 : decode cX11_many 74 = .ok (.ireturn, 1) := by decide +kernel
theorem dX11_isSheet_0 : decode cX11_isSheet 0 = .ok (.iload_n 1, 1) := by decide +kernel
theorem dX11_isSheet_1 : decode cX11_isSheet 1 = .ok (.ifCond .lt 12, 3) := by decide +kernel
theorem dX11_isSheet_4 : decode cX11_isSheet 4 = .ok (.iload_n 1, 1) := by decide +kernel
theorem dX11_isSheet_5 : decode cX11_isSheet 5 = .ok (.iconst 4, 1) := by decide +kernel
theorem dX11_isSheet_6 : decode cX11_isSheet 6 = .ok (.if_icmp .ge 7, 3) := by decide +kernel
theorem dX11_isSheet_9 : decode cX11_isSheet 9 = .ok (.iconst 1, 1) := by decide +kernel
theorem dX11_isSheet_10 : decode cX11_isSheet 10 = .ok (.goto 4, 3) := by decide +kernel
theorem dX11_isSheet_13 : decode cX11_isSheet 13 = .ok (.iconst 0, 1) := by decide +kernel
theorem dX11_isSheet_14 : decode cX11_isSheet 14 = .ok (.ireturn, 1) := by decide +kernel
theorem dX11_isLane_0 : decode cX11_isLane 0 = .ok (.iload_n 1, 1) := by decide +kernel
theorem dX11_isLane_1 : decode cX11_isLane 1 = .ok (.ifCond .lt 12, 3) := by decide +kernel
theorem dX11_isLane_4 : decode cX11_isLane 4 = .ok (.iload_n 1, 1) := by decide +kernel
theorem dX11_isLane_5 : decode cX11_isLane 5 = .ok (.iconst 3, 1) := by decide +kernel
theorem dX11_isLane_6 : decode cX11_isLane 6 = .ok (.if_icmp .ge 7, 3) := by decide +kernel
theorem dX11_isLane_9 : decode cX11_isLane 9 = .ok (.iconst 1, 1) := by decide +kernel
theorem dX11_isLane_10 : decode cX11_isLane 10 = .ok (.goto 4, 3) := by decide +kernel
theorem dX11_isLane_13 : decode cX11_isLane 13 = .ok (.iconst 0, 1) := by decide +kernel
theorem dX11_isLane_14 : decode cX11_isLane 14 = .ok (.ireturn, 1) := by decide +kernel
theorem dX11_isRule_0 : decode cX11_isRule 0 = .ok (.iload_n 1, 1) := by decide +kernel
theorem dX11_isRule_1 : decode cX11_isRule 1 = .ok (.ifCond .lt 12, 3) := by decide +kernel
theorem dX11_isRule_4 : decode cX11_isRule 4 = .ok (.iload_n 1, 1) := by decide +kernel
theorem dX11_isRule_5 : decode cX11_isRule 5 = .ok (.iconst 4, 1) := by decide +kernel
theorem dX11_isRule_6 : decode cX11_isRule 6 = .ok (.if_icmp .ge 7, 3) := by decide +kernel
theorem dX11_isRule_9 : decode cX11_isRule 9 = .ok (.iconst 1, 1) := by decide +kernel
theorem dX11_isRule_10 : decode cX11_isRule 10 = .ok (.goto 4, 3) := by decide +kernel
theorem dX11_isRule_13 : decode cX11_isRule 13 = .ok (.iconst 0, 1) := by decide +kernel
theorem dX11_isRule_14 : decode cX11_isRule 14 = .ok (.ireturn, 1) := by decide +kernel
theorem dX11_isPerson_0 : decode cX11_isPerson 0 = .ok (.iload_n 1, 1) := by decide +kernel
theorem dX11_isPerson_1 : decode cX11_isPerson 1 = .ok (.ifCond .lt 18, 3) := by decide +kernel
theorem dX11_isPerson_4 : decode cX11_isPerson 4 = .ok (.iload_n 1, 1) := by decide +kernel
theorem dX11_isPerson_5 : decode cX11_isPerson 5 = .ok (.aload_n 0, 1) := by decide +kernel
theorem dX11_isPerson_6 : decode cX11_isPerson 6 = .ok (.getfield 99, 3) := by decide +kernel
theorem dX11_isPerson_9 : decode cX11_isPerson 9 = .ok (.invokestatic 214, 3) := by decide +kernel
theorem dX11_isPerson_12 : decode cX11_isPerson 12 = .ok (.if_icmp .ge 7, 3) := by decide +kernel
theorem dX11_isPerson_15 : decode cX11_isPerson 15 = .ok (.iconst 1, 1) := by decide +kernel
theorem dX11_isPerson_16 : decode cX11_isPerson 16 = .ok (.goto 4, 3) := by decide +kernel
theorem dX11_isPerson_19 : decode cX11_isPerson 19 = .ok (.iconst 0, 1) := by decide +kernel
theorem dX11_isPerson_20 : decode cX11_isPerson 20 = .ok (.ireturn, 1) := by decide +kernel
theorem dX11_isEither_0 : decode cX11_isEither 0 = .ok (.iload_n 1, 1) := by decide +kernel
theorem dX11_isEither_1 : decode cX11_isEither 1 = .ok (.ifCond .eq 8, 3) := by decide +kernel
theorem dX11_isEither_4 : decode cX11_isEither 4 = .ok (.iload_n 1, 1) := by decide +kernel
theorem dX11_isEither_5 : decode cX11_isEither 5 = .ok (.iconst 1, 1) := by decide +kernel
theorem dX11_isEither_6 : decode cX11_isEither 6 = .ok (.if_icmp .ne 7, 3) := by decide +kernel
theorem dX11_isEither_9 : decode cX11_isEither 9 = .ok (.iconst 1, 1) := by decide +kernel
theorem dX11_isEither_10 : decode cX11_isEither 10 = .ok (.goto 4, 3) := by decide +kernel
theorem dX11_isEither_13 : decode cX11_isEither 13 = .ok (.iconst 0, 1) := by decide +kernel
theorem dX11_isEither_14 : decode cX11_isEither 14 = .ok (.ireturn, 1) := by decide +kernel
theorem dX11_isPlaceOfNumber_0 : decode cX11_isPlaceOfNumber 0 = .ok (.iload_n 1, 1) := by decide +kernel
theorem dX11_isPlaceOfNumber_1 : decode cX11_isPlaceOfNumber 1 = .ok (.iconst (-1), 1) := by decide +kernel
theorem dX11_isPlaceOfNumber_2 : decode cX11_isPlaceOfNumber 2 = .ok (.if_icmp .lt 13, 3) := by decide +kernel
theorem dX11_isPlaceOfNumber_5 : decode cX11_isPlaceOfNumber 5 = .ok (.iload_n 1, 1) := by decide +kernel
theorem dX11_isPlaceOfNumber_6 : decode cX11_isPlaceOfNumber 6 = .ok (.bipush 12, 2) := by decide +kernel
theorem dX11_isPlaceOfNumber_8 : decode cX11_isPlaceOfNumber 8 = .ok (.if_icmp .ge 7, 3) := by decide +kernel
theorem dX11_isPlaceOfNumber_11 : decode cX11_isPlaceOfNumber 11 = .ok (.iconst 1, 1) := by decide +kernel
theorem dX11_isPlaceOfNumber_12 : decode cX11_isPlaceOfNumber 12 = .ok (.goto 4, 3) := by decide +kernel
theorem dX11_isPlaceOfNumber_15 : decode cX11_isPlaceOfNumber 15 = .ok (.iconst 0, 1) := by decide +kernel
theorem dX11_isPlaceOfNumber_16 : decode cX11_isPlaceOfNumber 16 = .ok (.ireturn, 1) := by decide +kernel
theorem dX11_noPersons_0 : decode cX11_noPersons 0 = .ok (.aload_n 0, 1) := by decide +kernel
theorem dX11_noPersons_1 : decode cX11_noPersons 1 = .ok (.getfield 99, 3) := by decide +kernel
theorem dX11_noPersons_4 : decode cX11_noPersons 4 = .ok (.invokestatic 214, 3) := by decide +kernel
theorem dX11_noPersons_7 : decode cX11_noPersons 7 = .ok (.ifCond .ne 7, 3) := by decide +kernel
theorem dX11_noPersons_10 : decode cX11_noPersons 10 = .ok (.iconst 1, 1) := by decide +kernel
theorem dX11_noPersons_11 : decode cX11_noPersons 11 = .ok (.goto 4, 3) := by decide +kernel
theorem dX11_noPersons_14 : decode cX11_noPersons 14 = .ok (.iconst 0, 1) := by decide +kernel
theorem dX11_noPersons_15 : decode cX11_noPersons 15 = .ok (.ireturn, 1) := by decide +kernel
theorem dX11_callAt_0 : decode cX11_callAt 0 = .ok (.iload_n 1, 1) := by decide +kernel
theorem dX11_callAt_1 : decode cX11_callAt 1 = .ok (.ifCond .lt 26, 3) := by decide +kernel
theorem dX11_callAt_4 : decode cX11_callAt 4 = .ok (.iload_n 1, 1) := by decide +kernel
theorem dX11_callAt_5 : decode cX11_callAt 5 = .ok (.aload_n 0, 1) := by decide +kernel
theorem dX11_callAt_6 : decode cX11_callAt 6 = .ok (.getfield 128, 3) := by decide +kernel
theorem dX11_callAt_9 : decode cX11_callAt 9 = .ok (.if_icmp .ge 18, 3) := by decide +kernel
theorem dX11_callAt_12 : decode cX11_callAt 12 = .ok (.iload_n 1, 1) := by decide +kernel
theorem dX11_callAt_13 : decode cX11_callAt 13 = .ok (.bipush 12, 2) := by decide +kernel
theorem dX11_callAt_15 : decode cX11_callAt 15 = .ok (.if_icmp .ge 12, 3) := by decide +kernel
theorem dX11_callAt_18 : decode cX11_callAt 18 = .ok (.aload_n 0, 1) := by decide +kernel
theorem dX11_callAt_19 : decode cX11_callAt 19 = .ok (.getfield 19, 3) := by decide +kernel
theorem dX11_callAt_22 : decode cX11_callAt 22 = .ok (.iload_n 1, 1) := by decide +kernel
theorem dX11_callAt_23 : decode cX11_callAt 23 = .ok (.aaload, 1) := by decide +kernel
theorem dX11_callAt_24 : decode cX11_callAt 24 = .ok (.goto 4, 3) := by decide +kernel
theorem dX11_callAt_27 : decode cX11_callAt 27 = .ok (.aconst_null, 1) := by decide +kernel
theorem dX11_callAt_28 : decode cX11_callAt 28 = .ok (.areturn, 1) := by decide +kernel
theorem dX11_faulted_0 : decode cX11_faulted 0 = .ok (.aload_n 0, 1) := by decide +kernel
theorem dX11_faulted_1 : decode cX11_faulted 1 = .ok (.iload_n 1, 1) := by decide +kernel
theorem dX11_faulted_2 : decode cX11_faulted 2 = .ok (.putfield 51, 3) := by decide +kernel
theorem dX11_faulted_5 : decode cX11_faulted 5 = .ok (.bipush (-10), 2) := by decide +kernel
theorem dX11_faulted_7 : decode cX11_faulted 7 = .ok (.iload_n 1, 1) := by decide +kernel
theorem dX11_faulted_8 : decode cX11_faulted 8 = .ok (.isub, 1) := by decide +kernel
theorem dX11_faulted_9 : decode cX11_faulted 9 = .ok (.ireturn, 1) := by decide +kernel
theorem dX11_begin_0 : decode cX11_begin 0 = .ok (.aload_n 0, 1) := by decide +kernel
theorem dX11_begin_1 : decode cX11_begin 1 = .ok (.lload_n 1, 1) := by decide +kernel
theorem dX11_begin_2 : decode cX11_begin 2 = .ok (.putfield 110, 3) := by decide +kernel
theorem dX11_begin_5 : decode cX11_begin 5 = .ok (.aload_n 0, 1) := by decide +kernel
theorem dX11_begin_6 : decode cX11_begin 6 = .ok (.iconst 0, 1) := by decide +kernel
theorem dX11_begin_7 : decode cX11_begin 7 = .ok (.putfield 128, 3) := by decide +kernel
theorem dX11_begin_10 : decode cX11_begin 10 = .ok (.aload_n 0, 1) := by decide +kernel
theorem dX11_begin_11 : decode cX11_begin 11 = .ok (.iconst 0, 1) := by decide +kernel
theorem dX11_begin_12 : decode cX11_begin 12 = .ok (.putfield 240, 3) := by decide +kernel
theorem dX11_begin_15 : decode cX11_begin 15 = .ok (.aload_n 0, 1) := by decide +kernel
theorem dX11_begin_16 : decode cX11_begin 16 = .ok (.lload_n 1, 1) := by decide +kernel
theorem dX11_begin_17 : decode cX11_begin 17 = .ok (.invokevirtual 139, 3) := by decide +kernel
theorem dX11_begin_20 : decode cX11_begin 20 = .ok (.return_, 1) := by decide +kernel
theorem dX11_moveTo_0 : decode cX11_moveTo 0 = .ok (.aload_n 0, 1) := by decide +kernel
theorem dX11_moveTo_1 : decode cX11_moveTo 1 = .ok (.lload_n 1, 1) := by decide +kernel
theorem dX11_moveTo_2 : decode cX11_moveTo 2 = .ok (.putfield 99, 3) := by decide +kernel
theorem dX11_moveTo_5 : decode cX11_moveTo 5 = .ok (.aload_n 0, 1) := by decide +kernel
theorem dX11_moveTo_6 : decode cX11_moveTo 6 = .ok (.getfield 40, 3) := by decide +kernel
theorem dX11_moveTo_9 : decode cX11_moveTo 9 = .ok (.invokevirtual 292, 3) := by decide +kernel
theorem dX11_moveTo_12 : decode cX11_moveTo 12 = .ok (.return_, 1) := by decide +kernel
theorem dX11_newCall_0 : decode cX11_newCall 0 = .ok (.aload_n 0, 1) := by decide +kernel
theorem dX11_newCall_1 : decode cX11_newCall 1 = .ok (.getfield 99, 3) := by decide +kernel
theorem dX11_newCall_4 : decode cX11_newCall 4 = .ok (.iload_n 2, 1) := by decide +kernel
theorem dX11_newCall_5 : decode cX11_newCall 5 = .ok (.iload_n 3, 1) := by decide +kernel
theorem dX11_newCall_6 : decode cX11_newCall 6 = .ok (.invokestatic 135, 3) := by decide +kernel
theorem dX11_newCall_9 : decode cX11_newCall 9 = .ok (.lstore 4, 2) := by decide +kernel
theorem dX11_newCall_11 : decode cX11_newCall 11 = .ok (.aload_n 0, 1) := by decide +kernel
theorem dX11_newCall_12 : decode cX11_newCall 12 = .ok (.getfield 99, 3) := by decide +kernel
theorem dX11_newCall_15 : decode cX11_newCall 15 = .ok (.iload_n 2, 1) := by decide +kernel
theorem dX11_newCall_16 : decode cX11_newCall 16 = .ok (.invokestatic 103, 3) := by decide +kernel
theorem dX11_newCall_19 : decode cX11_newCall 19 = .ok (.aload_n 0, 1) := by decide +kernel
theorem dX11_newCall_20 : decode cX11_newCall 20 = .ok (.getfield 99, 3) := by decide +kernel
theorem dX11_newCall_23 : decode cX11_newCall 23 = .ok (.iload_n 3, 1) := by decide +kernel
theorem dX11_newCall_24 : decode cX11_newCall 24 = .ok (.invokestatic 103, 3) := by decide +kernel
theorem dX11_newCall_27 : decode cX11_newCall 27 = .ok (.if_icmp .ne 20, 3) := by decide +kernel
theorem dX11_newCall_30 : decode cX11_newCall 30 = .ok (.new 17, 3) := by decide +kernel
theorem dX11_newCall_33 : decode cX11_newCall 33 = .ok (.dup, 1) := by decide +kernel
theorem dX11_newCall_34 : decode cX11_newCall 34 = .ok (.iload_n 1, 1) := by decide +kernel
theorem dX11_newCall_35 : decode cX11_newCall 35 = .ok (.iload_n 2, 1) := by decide +kernel
theorem dX11_newCall_36 : decode cX11_newCall 36 = .ok (.iload_n 3, 1) := by decide +kernel
theorem dX11_newCall_37 : decode cX11_newCall 37 = .ok (.aload_n 0, 1) := by decide +kernel
theorem dX11_newCall_38 : decode cX11_newCall 38 = .ok (.getfield 99, 3) := by decide +kernel
theorem dX11_newCall_41 : decode cX11_newCall 41 = .ok (.lload 4, 2) := by decide +kernel
theorem dX11_newCall_43 : decode cX11_newCall 43 = .ok (.invokespecial 295, 3) := by decide +kernel
theorem dX11_newCall_46 : decode cX11_newCall 46 = .ok (.areturn, 1) := by decide +kernel
theorem dX11_newCall_47 : decode cX11_newCall 47 = .ok (.lload 4, 2) := by decide +kernel
theorem dX11_newCall_49 : decode cX11_newCall 49 = .ok (.iload_n 2, 1) := by decide +kernel
theorem dX11_newCall_50 : decode cX11_newCall 50 = .ok (.invokestatic 113, 3) := by decide +kernel
theorem dX11_newCall_53 : decode cX11_newCall 53 = .ok (.ifCond .eq 22, 3) := by decide +kernel
theorem dX11_newCall_56 : decode cX11_newCall 56 = .ok (.new 298, 3) := by decide +kernel
theorem dX11_newCall_59 : decode cX11_newCall 59 = .ok (.dup, 1) := by decide +kernel
theorem dX11_newCall_60 : decode cX11_newCall 60 = .ok (.iload_n 1, 1) := by decide +kernel
theorem dX11_newCall_61 : decode cX11_newCall 61 = .ok (.iload_n 2, 1) := by decide +kernel
theorem dX11_newCall_62 : decode cX11_newCall 62 = .ok (.iload_n 3, 1) := by decide +kernel
theorem dX11_newCall_63 : decode cX11_newCall 63 = .ok (.aload_n 0, 1) := by decide +kernel
theorem dX11_newCall_64 : decode cX11_newCall 64 = .ok (.getfield 99, 3) := by decide +kernel
theorem dX11_newCall_67 : decode cX11_newCall 67 = .ok (.lload 4, 2) := by decide +kernel
theorem dX11_newCall_69 : decode cX11_newCall 69 = .ok (.invokespecial 300, 3) := by decide +kernel
theorem dX11_newCall_72 : decode cX11_newCall 72 = .ok (.goto 19, 3) := by decide +kernel
theorem dX11_newCall_75 : decode cX11_newCall 75 = .ok (.new 301, 3) := by decide +kernel
theorem dX11_newCall_78 : decode cX11_newCall 78 = .ok (.dup, 1) := by decide +kernel
theorem dX11_newCall_79 : decode cX11_newCall 79 = .ok (.iload_n 1, 1) := by decide +kernel
theorem dX11_newCall_80 : decode cX11_newCall 80 = .ok (.iload_n 2, 1) := by decide +kernel
theorem dX11_newCall_81 : decode cX11_newCall 81 = .ok (.iload_n 3, 1) := by decide +kernel
theorem dX11_newCall_82 : decode cX11_newCall 82 = .ok (.aload_n 0, 1) := by decide +kernel
theorem dX11_newCall_83 : decode cX11_newCall 83 = .ok (.getfield 99, 3) := by decide +kernel
theorem dX11_newCall_86 : decode cX11_newCall 86 = .ok (.lload 4, 2) := by decide +kernel
theorem dX11_newCall_88 : decode cX11_newCall 88 = .ok (.invokespecial 303, 3) := by decide +kernel
theorem dX11_newCall_91 : decode cX11_newCall 91 = .ok (.areturn, 1) := by decide +kernel
theorem dX11_surelyHad_0 : decode cX11_surelyHad 0 = .ok (.aload_n 0, 1) := by decide +kernel
theorem dX11_surelyHad_1 : decode cX11_surelyHad 1 = .ok (.getfield 40, 3) := by decide +kernel
theorem dX11_surelyHad_4 : decode cX11_surelyHad 4 = .ok (.iload_n 1, 1) := by decide +kernel
theorem dX11_surelyHad_5 : decode cX11_surelyHad 5 = .ok (.aload_n 0, 1) := by decide +kernel
theorem dX11_surelyHad_6 : decode cX11_surelyHad 6 = .ok (.getfield 110, 3) := by decide +kernel
theorem dX11_surelyHad_9 : decode cX11_surelyHad 9 = .ok (.aload_n 0, 1) := by decide +kernel
theorem dX11_surelyHad_10 : decode cX11_surelyHad 10 = .ok (.getfield 19, 3) := by decide +kernel
theorem dX11_surelyHad_13 : decode cX11_surelyHad 13 = .ok (.aload_n 0, 1) := by decide +kernel
theorem dX11_surelyHad_14 : decode cX11_surelyHad 14 = .ok (.getfield 128, 3) := by decide +kernel
theorem dX11_surelyHad_17 : decode cX11_surelyHad 17 = .ok (.invokevirtual 304, 3) := by decide +kernel
theorem dX11_surelyHad_20 : decode cX11_surelyHad 20 = .ok (.iload_n 2, 1) := by decide +kernel
theorem dX11_surelyHad_21 : decode cX11_surelyHad 21 = .ok (.invokestatic 307, 3) := by decide +kernel
theorem dX11_surelyHad_24 : decode cX11_surelyHad 24 = .ok (.ireturn, 1) := by decide +kernel
theorem dX11_findMending_0 : decode cX11_findMending 0 = .ok (.aload_n 0, 1) := by decide +kernel
theorem dX11_findMending_1 : decode cX11_findMending 1 = .ok (.getfield 110, 3) := by decide +kernel
theorem dX11_findMending_4 : decode cX11_findMending 4 = .ok (.invokestatic 214, 3) := by decide +kernel
theorem dX11_findMending_7 : decode cX11_findMending 7 = .ok (.istore_n 2, 1) := by decide +kernel
theorem dX11_findMending_8 : decode cX11_findMending 8 = .ok (.aload_n 0, 1) := by decide +kernel
theorem dX11_findMending_9 : decode cX11_findMending 9 = .ok (.getfield 110, 3) := by decide +kernel
theorem dX11_findMending_12 : decode cX11_findMending 12 = .ok (.invokestatic 220, 3) := by decide +kernel
theorem dX11_findMending_15 : decode cX11_findMending 15 = .ok (.istore_n 3, 1) := by decide +kernel
theorem dX11_findMending_16 : decode cX11_findMending 16 = .ok (.iconst 0, 1) := by decide +kernel
theorem dX11_findMending_17 : decode cX11_findMending 17 = .ok (.istore 4, 2) := by decide +kernel
theorem dX11_findMending_19 : decode cX11_findMending 19 = .ok (.iconst 0, 1) := by decide +kernel
theorem dX11_findMending_20 : decode cX11_findMending 20 = .ok (.istore 5, 2) := by decide +kernel
theorem dX11_findMending_22 : decode cX11_findMending 22 = .ok (.iload 5, 2) := by decide +kernel
theorem dX11_findMending_24 : decode cX11_findMending 24 = .ok (.iload_n 2, 1) := by decide +kernel
theorem dX11_findMending_25 : decode cX11_findMending 25 = .ok (.if_icmp .ge 72, 3) := by decide +kernel
theorem dX11_findMending_28 : decode cX11_findMending 28 = .ok (.iconst 0, 1) := by decide +kernel
theorem dX11_findMending_29 : decode cX11_findMending 29 = .ok (.istore 6, 2) := by decide +kernel
theorem dX11_findMending_31 : decode cX11_findMending 31 = .ok (.iload 6, 2) := by decide +kernel
theorem dX11_findMending_33 : decode cX11_findMending 33 = .ok (.iload_n 2, 1) := by decide +kernel
theorem dX11_findMending_34 : decode cX11_findMending 34 = .ok (.if_icmp .ge 57, 3) := by decide +kernel
theorem dX11_findMending_37 : decode cX11_findMending 37 = .ok (.iconst 1, 1) := by decide +kernel
theorem dX11_findMending_38 : decode cX11_findMending 38 = .ok (.iload 5, 2) := by decide +kernel
theorem dX11_findMending_40 : decode cX11_findMending 40 = .ok (.iload 6, 2) := by decide +kernel
theorem dX11_findMending_42 : decode cX11_findMending 42 = .ok (.invokestatic 310, 3) := by decide +kernel
theorem dX11_findMending_45 : decode cX11_findMending 45 = .ok (.ishl, 1) := by decide +kernel
theorem dX11_findMending_46 : decode cX11_findMending 46 = .ok (.istore 7, 2) := by decide +kernel
theorem dX11_findMending_48 : decode cX11_findMending 48 = .ok (.iload_n 3, 1) := by decide +kernel
theorem dX11_findMending_49 : decode cX11_findMending 49 = .ok (.iload 7, 2) := by decide +kernel
theorem dX11_findMending_51 : decode cX11_findMending 51 = .ok (.iand, 1) := by decide +kernel
theorem dX11_findMending_52 : decode cX11_findMending 52 = .ok (.ifCond .eq 6, 3) := by decide +kernel
theorem dX11_findMending_55 : decode cX11_findMending 55 = .ok (.goto 30, 3) := by decide +kernel
theorem dX11_findMending_58 : decode cX11_findMending 58 = .ok (.aload_n 0, 1) := by decide +kernel
theorem dX11_findMending_59 : decode cX11_findMending 59 = .ok (.getfield 33, 3) := by decide +kernel
theorem dX11_findMending_62 : decode cX11_findMending 62 = .ok (.iload_n 2, 1) := by decide +kernel
theorem dX11_findMending_63 : decode cX11_findMending 63 = .ok (.iload_n 3, 1) := by decide +kernel
theorem dX11_findMending_64 : decode cX11_findMending 64 = .ok (.iload 7, 2) := by decide +kernel
theorem dX11_findMending_66 : decode cX11_findMending 66 = .ok (.ior, 1) := by decide +kernel
theorem dX11_findMending_67 : decode cX11_findMending 67 = .ok (.invokestatic 86, 3) := by decide +kernel
theorem dX11_findMending_70 : decode cX11_findMending 70 = .ok (.iload_n 1, 1) := by decide +kernel
theorem dX11_findMending_71 : decode cX11_findMending 71 = .ok (.invokevirtual 188, 3) := by decide +kernel
theorem dX11_findMending_74 : decode cX11_findMending 74 = .ok (.iconst 2, 1) := by decide +kernel
theorem dX11_findMending_75 : decode cX11_findMending 75 = .ok (.if_icmp .ne 10, 3) := by decide +kernel
theorem dX11_findMending_78 : decode cX11_findMending 78 = .ok (.iload 4, 2) := by decide +kernel
theorem dX11_findMending_80 : decode cX11_findMending 80 = .ok (.iload 7, 2) := by decide +kernel
theorem dX11_findMending_82 : decode cX11_findMending 82 = .ok (.ior, 1) := by decide +kernel
theorem dX11_findMending_83 : decode cX11_findMending 83 = .ok (.istore 4, 2) := by decide +kernel
theorem dX11_findMending_85 : decode cX11_findMending 85 = .ok (.iinc 6 1, 3) := by decide +kernel
theorem dX11_findMending_88 : decode cX11_findMending 88 = .ok (.goto (-57), 3) := by decide +kernel
theorem dX11_findMending_91 : decode cX11_findMending 91 = .ok (.iinc 5 1, 3) := by decide +kernel
theorem dX11_findMending_94 : decode cX11_findMending 94 = .ok (.goto (-72), 3) := by decide +kernel
theorem dX11_findMending_97 : decode cX11_findMending 97 = .ok (.iload 4, 2) := by decide +kernel
theorem dX11_findMending_99 : decode cX11_findMending 99 = .ok (.ireturn, 1) := by decide +kernel
theorem dX11_countNets_0 : decode cX11_countNets 0 = .ok (.iconst 1, 1) := by decide +kernel
theorem dX11_countNets_1 : decode cX11_countNets 1 = .ok (.iload_n 1, 1) := by decide +kernel
theorem dX11_countNets_2 : decode cX11_countNets 2 = .ok (.iload_n 1, 1) := by decide +kernel
theorem dX11_countNets_3 : decode cX11_countNets 3 = .ok (.iconst 1, 1) := by decide +kernel
theorem dX11_countNets_4 : decode cX11_countNets 4 = .ok (.isub, 1) := by decide +kernel
theorem dX11_countNets_5 : decode cX11_countNets 5 = .ok (.imul, 1) := by decide +kernel
theorem dX11_countNets_6 : decode cX11_countNets 6 = .ok (.ishl, 1) := by decide +kernel
theorem dX11_countNets_7 : decode cX11_countNets 7 = .ok (.istore 4, 2) := by decide +kernel
theorem dX11_countNets_9 : decode cX11_countNets 9 = .ok (.iconst 0, 1) := by decide +kernel
theorem dX11_countNets_10 : decode cX11_countNets 10 = .ok (.istore 5, 2) := by decide +kernel
theorem dX11_countNets_12 : decode cX11_countNets 12 = .ok (.iload 5, 2) := by decide +kernel
theorem dX11_countNets_14 : decode cX11_countNets 14 = .ok (.iload 4, 2) := by decide +kernel
theorem dX11_countNets_16 : decode cX11_countNets 16 = .ok (.if_icmp .ge 66, 3) := by decide +kernel
theorem dX11_countNets_19 : decode cX11_countNets 19 = .ok (.iload_n 1, 1) := by decide +kernel
theorem dX11_countNets_20 : decode cX11_countNets 20 = .ok (.iload 5, 2) := by decide +kernel
theorem dX11_countNets_22 : decode cX11_countNets 22 = .ok (.invokestatic 313, 3) := by decide +kernel
theorem dX11_countNets_25 : decode cX11_countNets 25 = .ok (.istore 6, 2) := by decide +kernel
theorem dX11_countNets_27 : decode cX11_countNets 27 = .ok (.iload_n 1, 1) := by decide +kernel
theorem dX11_countNets_28 : decode cX11_countNets 28 = .ok (.iload 6, 2) := by decide +kernel
theorem dX11_countNets_30 : decode cX11_countNets 30 = .ok (.invokestatic 223, 3) := by decide +kernel
theorem dX11_countNets_33 : decode cX11_countNets 33 = .ok (.ifCond .ne 6, 3) := by decide +kernel
theorem dX11_countNets_36 : decode cX11_countNets 36 = .ok (.goto 40, 3) := by decide +kernel
theorem dX11_countNets_39 : decode cX11_countNets 39 = .ok (.aload_n 0, 1) := by decide +kernel
theorem dX11_countNets_40 : decode cX11_countNets 40 = .ok (.getfield 48, 3) := by decide +kernel
theorem dX11_countNets_43 : decode cX11_countNets 43 = .ok (.iload_n 3, 1) := by decide +kernel
theorem dX11_countNets_44 : decode cX11_countNets 44 = .ok (.iconst 3, 1) := by decide +kernel
theorem dX11_countNets_45 : decode cX11_countNets 45 = .ok (.iadd, 1) := by decide +kernel
theorem dX11_countNets_46 : decode cX11_countNets 46 = .ok (.dup2, 1) := by decide +kernel
theorem dX11_countNets_47 : decode cX11_countNets 47 = .ok (.iaload, 1) := by decide +kernel
theorem dX11_countNets_48 : decode cX11_countNets 48 = .ok (.iconst 1, 1) := by decide +kernel
theorem dX11_countNets_49 : decode cX11_countNets 49 = .ok (.iadd, 1) := by decide +kernel
theorem dX11_countNets_50 : decode cX11_countNets 50 = .ok (.iastore, 1) := by decide +kernel
theorem dX11_countNets_51 : decode cX11_countNets 51 = .ok (.aload_n 0, 1) := by decide +kernel
theorem dX11_countNets_52 : decode cX11_countNets 52 = .ok (.getfield 48, 3) := by decide +kernel
theorem dX11_countNets_55 : decode cX11_countNets 55 = .ok (.iload_n 3, 1) := by decide +kernel
theorem dX11_countNets_56 : decode cX11_countNets 56 = .ok (.aload_n 0, 1) := by decide +kernel
theorem dX11_countNets_57 : decode cX11_countNets 57 = .ok (.getfield 33, 3) := by decide +kernel
theorem dX11_countNets_60 : decode cX11_countNets 60 = .ok (.iload_n 1, 1) := by decide +kernel
theorem dX11_countNets_61 : decode cX11_countNets 61 = .ok (.iload 6, 2) := by decide +kernel
theorem dX11_countNets_63 : decode cX11_countNets 63 = .ok (.invokestatic 86, 3) := by decide +kernel
theorem dX11_countNets_66 : decode cX11_countNets 66 = .ok (.iload_n 2, 1) := by decide +kernel
theorem dX11_countNets_67 : decode cX11_countNets 67 = .ok (.invokevirtual 188, 3) := by decide +kernel
theorem dX11_countNets_70 : decode cX11_countNets 70 = .ok (.iadd, 1) := by decide +kernel
theorem dX11_countNets_71 : decode cX11_countNets 71 = .ok (.dup2, 1) := by decide +kernel
theorem dX11_countNets_72 : decode cX11_countNets 72 = .ok (.iaload, 1) := by decide +kernel
theorem dX11_countNets_73 : decode cX11_countNets 73 = .ok (.iconst 1, 1) := by decide +kernel
theorem dX11_countNets_74 : decode cX11_countNets 74 = .ok (.iadd, 1) := by decide +kernel
theorem dX11_countNets_75 : decode cX11_countNets 75 = .ok (.iastore, 1) := by decide +kernel
theorem dX11_countNets_76 : decode cX11_countNets 76 = .ok (.iinc 5 1, 3) := by decide +kernel
theorem dX11_countNets_79 : decode cX11_countNets 79 = .ok (.goto (-67), 3) := by decide +kernel
theorem dX11_countNets_82 : decode cX11_countNets 82 = .ok (.return_, 1) := by decide +kernel
theorem dX11_truth_0 : decode cX11_truth 0 = .ok (.iload_n 0, 1) := by decide +kernel
theorem dX11_truth_1 : decode cX11_truth 1 = .ok (.ifCond .eq 7, 3) := by decide +kernel
theorem dX11_truth_4 : decode cX11_truth 4 = .ok (.iconst 1, 1) := by decide +kernel
theorem dX11_truth_5 : decode cX11_truth 5 = .ok (.goto 4, 3) := by decide +kernel
theorem dX11_truth_8 : decode cX11_truth 8 = .ok (.iconst 0, 1) := by decide +kernel
theorem dX11_truth_9 : decode cX11_truth 9 = .ok (.ireturn, 1) := by decide +kernel
theorem dX11_contains_0 : decode cX11_contains 0 = .ok (.iload_n 0, 1) := by decide +kernel
theorem dX11_contains_1 : decode cX11_contains 1 = .ok (.iload_n 1, 1) := by decide +kernel
theorem dX11_contains_2 : decode cX11_contains 2 = .ok (.ishr, 1) := by decide +kernel
theorem dX11_contains_3 : decode cX11_contains 3 = .ok (.iconst 1, 1) := by decide +kernel
theorem dX11_contains_4 : decode cX11_contains 4 = .ok (.iand, 1) := by decide +kernel
theorem dX11_contains_5 : decode cX11_contains 5 = .ok (.iconst 1, 1) := by decide +kernel
theorem dX11_contains_6 : decode cX11_contains 6 = .ok (.if_icmp .ne 7, 3) := by decide +kernel
theorem dX11_contains_9 : decode cX11_contains 9 = .ok (.iconst 1, 1) := by decide +kernel
theorem dX11_contains_10 : decode cX11_contains 10 = .ok (.goto 4, 3) := by decide +kernel
theorem dX11_contains_13 : decode cX11_contains 13 = .ok (.iconst 0, 1) := by decide +kernel
theorem dX11_contains_14 : decode cX11_contains 14 = .ok (.ireturn, 1) := by decide +kernel
theorem dX11_pairOf_0 : decode cX11_pairOf 0 = .ok (.iconst 4, 1) := by decide +kernel
theorem dX11_pairOf_1 : decode cX11_pairOf 1 = .ok (.iload_n 0, 1) := by decide +kernel
theorem dX11_pairOf_2 : decode cX11_pairOf 2 = .ok (.imul, 1) := by decide +kernel
theorem dX11_pairOf_3 : decode cX11_pairOf 3 = .ok (.iload_n 1, 1) := by decide +kernel
theorem dX11_pairOf_4 : decode cX11_pairOf 4 = .ok (.iadd, 1) := by decide +kernel
theorem dX11_pairOf_5 : decode cX11_pairOf 5 = .ok (.ireturn, 1) := by decide +kernel
theorem dX11_ringerOf_0 : decode cX11_ringerOf 0 = .ok (.iload_n 0, 1) := by decide +kernel
theorem dX11_ringerOf_1 : decode cX11_ringerOf 1 = .ok (.iconst 2, 1) := by decide +kernel
theorem dX11_ringerOf_2 : decode cX11_ringerOf 2 = .ok (.ishr, 1) := by decide +kernel
theorem dX11_ringerOf_3 : decode cX11_ringerOf 3 = .ok (.ireturn, 1) := by decide +kernel
theorem dX11_rungOf_0 : decode cX11_rungOf 0 = .ok (.iload_n 0, 1) := by decide +kernel
theorem dX11_rungOf_1 : decode cX11_rungOf 1 = .ok (.iconst 3, 1) := by decide +kernel
theorem dX11_rungOf_2 : decode cX11_rungOf 2 = .ok (.iand, 1) := by decide +kernel
theorem dX11_rungOf_3 : decode cX11_rungOf 3 = .ok (.ireturn, 1) := by decide +kernel
theorem dX11_countOrPick_0 : decode cX11_countOrPick 0 = .ok (.iload_n 1, 1) := by decide +kernel
theorem dX11_countOrPick_1 : decode cX11_countOrPick 1 = .ok (.iconst (-1), 1) := by decide +kernel
theorem dX11_countOrPick_2 : decode cX11_countOrPick 2 = .ok (.if_icmp .ne 8, 3) := by decide +kernel
theorem dX11_countOrPick_5 : decode cX11_countOrPick 5 = .ok (.iload_n 0, 1) := by decide +kernel
theorem dX11_countOrPick_6 : decode cX11_countOrPick 6 = .ok (.invokestatic 287, 3) := by decide +kernel
theorem dX11_countOrPick_9 : decode cX11_countOrPick 9 = .ok (.ireturn, 1) := by decide +kernel
theorem dX11_countOrPick_10 : decode cX11_countOrPick 10 = .ok (.iconst 0, 1) := by decide +kernel
theorem dX11_countOrPick_11 : decode cX11_countOrPick 11 = .ok (.istore_n 2, 1) := by decide +kernel
theorem dX11_countOrPick_12 : decode cX11_countOrPick 12 = .ok (.iconst 0, 1) := by decide +kernel
theorem dX11_countOrPick_13 : decode cX11_countOrPick 13 = .ok (.istore_n 3, 1) := by decide +kernel
theorem dX11_countOrPick_14 : decode cX11_countOrPick 14 = .ok (.iload_n 3, 1) := by decide +kernel
theorem dX11_countOrPick_15 : decode cX11_countOrPick 15 = .ok (.bipush 16, 2) := by decide +kernel
theorem dX11_countOrPick_17 : decode cX11_countOrPick 17 = .ok (.if_icmp .ge 41, 3) := by decide +kernel
theorem dX11_countOrPick_20 : decode cX11_countOrPick 20 = .ok (.iload_n 0, 1) := by decide +kernel
theorem dX11_countOrPick_21 : decode cX11_countOrPick 21 = .ok (.iload_n 3, 1) := by decide +kernel
theorem dX11_countOrPick_22 : decode cX11_countOrPick 22 = .ok (.invokestatic 125, 3) := by decide +kernel
theorem dX11_countOrPick_25 : decode cX11_countOrPick 25 = .ok (.ifCond .ne 6, 3) := by decide +kernel
theorem dX11_countOrPick_28 : decode cX11_countOrPick 28 = .ok (.goto 24, 3) := by decide +kernel
theorem dX11_countOrPick_31 : decode cX11_countOrPick 31 = .ok (.iload_n 2, 1) := by decide +kernel
theorem dX11_countOrPick_32 : decode cX11_countOrPick 32 = .ok (.iload_n 1, 1) := by decide +kernel
theorem dX11_countOrPick_33 : decode cX11_countOrPick 33 = .ok (.if_icmp .ne 16, 3) := by decide +kernel
theorem dX11_countOrPick_36 : decode cX11_countOrPick 36 = .ok (.bipush 10, 2) := by decide +kernel
theorem dX11_countOrPick_38 : decode cX11_countOrPick 38 = .ok (.iload_n 3, 1) := by decide +kernel
theorem dX11_countOrPick_39 : decode cX11_countOrPick 39 = .ok (.invokestatic 200, 3) := by decide +kernel
theorem dX11_countOrPick_42 : decode cX11_countOrPick 42 = .ok (.imul, 1) := by decide +kernel
theorem dX11_countOrPick_43 : decode cX11_countOrPick 43 = .ok (.iload_n 3, 1) := by decide +kernel
theorem dX11_countOrPick_44 : decode cX11_countOrPick 44 = .ok (.invokestatic 203, 3) := by decide +kernel
theorem dX11_countOrPick_47 : decode cX11_countOrPick 47 = .ok (.iadd, 1) := by decide +kernel
theorem dX11_countOrPick_48 : decode cX11_countOrPick 48 = .ok (.ireturn, 1) := by decide +kernel
theorem dX11_countOrPick_49 : decode cX11_countOrPick 49 = .ok (.iinc 2 1, 3) := by decide +kernel
theorem dX11_countOrPick_52 : decode cX11_countOrPick 52 = .ok (.iinc 3 1, 3) := by decide +kernel
theorem dX11_countOrPick_55 : decode cX11_countOrPick 55 = .ok (.goto (-41), 3) := by decide +kernel
theorem dX11_countOrPick_58 : decode cX11_countOrPick 58 = .ok (.bipush (-9), 2) := by decide +kernel
theorem dX11_countOrPick_60 : decode cX11_countOrPick 60 = .ok (.ireturn, 1) := by decide +kernel
theorem dJ6_bitCount_0f7a4_0 : decode cJ6_bitCount_0f7a4 0 = .ok (.iload_n 0, 1) := by decide +kernel
theorem dJ6_bitCount_0f7a4_1 : decode cJ6_bitCount_0f7a4 1 = .ok (.iload_n 0, 1) := by decide +kernel
theorem dJ6_bitCount_0f7a4_2 : decode cJ6_bitCount_0f7a4 2 = .ok (.iconst 1, 1) := by decide +kernel
theorem dJ6_bitCount_0f7a4_3 : decode cJ6_bitCount_0f7a4 3 = .ok (.iushr, 1) := by decide +kernel
theorem dJ6_bitCount_0f7a4_4 : decode cJ6_bitCount_0f7a4 4 = .ok (.ldc_w 265, 3) := by decide +kernel
theorem dJ6_bitCount_0f7a4_7 : decode cJ6_bitCount_0f7a4 7 = .ok (.iand, 1) := by decide +kernel
theorem dJ6_bitCount_0f7a4_8 : decode cJ6_bitCount_0f7a4 8 = .ok (.isub, 1) := by decide +kernel
theorem dJ6_bitCount_0f7a4_9 : decode cJ6_bitCount_0f7a4 9 = .ok (.istore_n 0, 1) := by decide +kernel
theorem dJ6_bitCount_0f7a4_10 : decode cJ6_bitCount_0f7a4 10 = .ok (.iload_n 0, 1) := by decide +kernel
theorem dJ6_bitCount_0f7a4_11 : decode cJ6_bitCount_0f7a4 11 = .ok (.ldc_w 266, 3) := by decide +kernel
theorem dJ6_bitCount_0f7a4_14 : decode cJ6_bitCount_0f7a4 14 = .ok (.iand, 1) := by decide +kernel
theorem dJ6_bitCount_0f7a4_15 : decode cJ6_bitCount_0f7a4 15 = .ok (.iload_n 0, 1) := by decide +kernel
theorem dJ6_bitCount_0f7a4_16 : decode cJ6_bitCount_0f7a4 16 = .ok (.iconst 2, 1) := by decide +kernel
theorem dJ6_bitCount_0f7a4_17 : decode cJ6_bitCount_0f7a4 17 = .ok (.iushr, 1) := by decide +kernel
theorem dJ6_bitCount_0f7a4_18 : decode cJ6_bitCount_0f7a4 18 = .ok (.ldc_w 266, 3) := by decide +kernel
theorem dJ6_bitCount_0f7a4_21 : decode cJ6_bitCount_0f7a4 21 = .ok (.iand, 1) := by decide +kernel
theorem dJ6_bitCount_0f7a4_22 : decode cJ6_bitCount_0f7a4 22 = .ok (.iadd, 1) := by decide +kernel
theorem dJ6_bitCount_0f7a4_23 : decode cJ6_bitCount_0f7a4 23 = .ok (.istore_n 0, 1) := by decide +kernel
theorem dJ6_bitCount_0f7a4_24 : decode cJ6_bitCount_0f7a4 24 = .ok (.iload_n 0, 1) := by decide +kernel
theorem dJ6_bitCount_0f7a4_25 : decode cJ6_bitCount_0f7a4 25 = .ok (.iload_n 0, 1) := by decide +kernel
theorem dJ6_bitCount_0f7a4_26 : decode cJ6_bitCount_0f7a4 26 = .ok (.iconst 4, 1) := by decide +kernel
theorem dJ6_bitCount_0f7a4_27 : decode cJ6_bitCount_0f7a4 27 = .ok (.iushr, 1) := by decide +kernel
theorem dJ6_bitCount_0f7a4_28 : decode cJ6_bitCount_0f7a4 28 = .ok (.iadd, 1) := by decide +kernel
theorem dJ6_bitCount_0f7a4_29 : decode cJ6_bitCount_0f7a4 29 = .ok (.ldc_w 267, 3) := by decide +kernel
theorem dJ6_bitCount_0f7a4_32 : decode cJ6_bitCount_0f7a4 32 = .ok (.iand, 1) := by decide +kernel
theorem dJ6_bitCount_0f7a4_33 : decode cJ6_bitCount_0f7a4 33 = .ok (.istore_n 0, 1) := by decide +kernel
theorem dJ6_bitCount_0f7a4_34 : decode cJ6_bitCount_0f7a4 34 = .ok (.iload_n 0, 1) := by decide +kernel
theorem dJ6_bitCount_0f7a4_35 : decode cJ6_bitCount_0f7a4 35 = .ok (.iload_n 0, 1) := by decide +kernel
theorem dJ6_bitCount_0f7a4_36 : decode cJ6_bitCount_0f7a4 36 = .ok (.bipush 8, 2) := by decide +kernel
theorem dJ6_bitCount_0f7a4_38 : decode cJ6_bitCount_0f7a4 38 = .ok (.iushr, 1) := by decide +kernel
theorem dJ6_bitCount_0f7a4_39 : decode cJ6_bitCount_0f7a4 39 = .ok (.iadd, 1) := by decide +kernel
theorem dJ6_bitCount_0f7a4_40 : decode cJ6_bitCount_0f7a4 40 = .ok (.istore_n 0, 1) := by decide +kernel
theorem dJ6_bitCount_0f7a4_41 : decode cJ6_bitCount_0f7a4 41 = .ok (.iload_n 0, 1) := by decide +kernel
theorem dJ6_bitCount_0f7a4_42 : decode cJ6_bitCount_0f7a4 42 = .ok (.iload_n 0, 1) := by decide +kernel
theorem dJ6_bitCount_0f7a4_43 : decode cJ6_bitCount_0f7a4 43 = .ok (.bipush 16, 2) := by decide +kernel
theorem dJ6_bitCount_0f7a4_45 : decode cJ6_bitCount_0f7a4 45 = .ok (.iushr, 1) := by decide +kernel
theorem dJ6_bitCount_0f7a4_46 : decode cJ6_bitCount_0f7a4 46 = .ok (.iadd, 1) := by decide +kernel
theorem dJ6_bitCount_0f7a4_47 : decode cJ6_bitCount_0f7a4 47 = .ok (.istore_n 0, 1) := by decide +kernel
theorem dJ6_bitCount_0f7a4_48 : decode cJ6_bitCount_0f7a4 48 = .ok (.iload_n 0, 1) := by decide +kernel
theorem dJ6_bitCount_0f7a4_49 : decode cJ6_bitCount_0f7a4 49 = .ok (.bipush 63, 2) := by decide +kernel
theorem dJ6_bitCount_0f7a4_51 : decode cJ6_bitCount_0f7a4 51 = .ok (.iand, 1) := by decide +kernel
theorem dJ6_bitCount_0f7a4_52 : decode cJ6_bitCount_0f7a4 52 = .ok (.ireturn, 1) := by decide +kernel
theorem dJ9_max_7cf53_0 : decode cJ9_max_7cf53 0 = .ok (.iload_n 0, 1) := by decide +kernel
theorem dJ9_max_7cf53_1 : decode cJ9_max_7cf53 1 = .ok (.iload_n 1, 1) := by decide +kernel
theorem dJ9_max_7cf53_2 : decode cJ9_max_7cf53 2 = .ok (.if_icmp .lt 7, 3) := by decide +kernel
theorem dJ9_max_7cf53_5 : decode cJ9_max_7cf53 5 = .ok (.iload_n 0, 1) := by decide +kernel
theorem dJ9_max_7cf53_6 : decode cJ9_max_7cf53 6 = .ok (.goto 4, 3) := by decide +kernel
theorem dJ9_max_7cf53_9 : decode cJ9_max_7cf53 9 = .ok (.iload_n 1, 1) := by decide +kernel
theorem dJ9_max_7cf53_10 : decode cJ9_max_7cf53 10 = .ok (.ireturn, 1) := by decide +kernel
theorem dJ9_min_7cf53_0 : decode cJ9_min_7cf53 0 = .ok (.iload_n 0, 1) := by decide +kernel
theorem dJ9_min_7cf53_1 : decode cJ9_min_7cf53 1 = .ok (.iload_n 1, 1) := by decide +kernel
theorem dJ9_min_7cf53_2 : decode cJ9_min_7cf53 2 = .ok (.if_icmp .gt 7, 3) := by decide +kernel
theorem dJ9_min_7cf53_5 : decode cJ9_min_7cf53 5 = .ok (.iload_n 0, 1) := by decide +kernel
theorem dJ9_min_7cf53_6 : decode cJ9_min_7cf53 6 = .ok (.goto 4, 3) := by decide +kernel
theorem dJ9_min_7cf53_9 : decode cJ9_min_7cf53 9 = .ok (.iload_n 1, 1) := by decide +kernel
theorem dJ9_min_7cf53_10 : decode cJ9_min_7cf53 10 = .ok (.ireturn, 1) := by decide +kernel
theorem dJ7_fill_d0a16_0 : decode cJ7_fill_d0a16 0 = .ok (.iconst 0, 1) := by decide +kernel
theorem dJ7_fill_d0a16_1 : decode cJ7_fill_d0a16 1 = .ok (.istore_n 3, 1) := by decide +kernel
theorem dJ7_fill_d0a16_2 : decode cJ7_fill_d0a16 2 = .ok (.aload_n 0, 1) := by decide +kernel
theorem dJ7_fill_d0a16_3 : decode cJ7_fill_d0a16 3 = .ok (.arraylength, 1) := by decide +kernel
theorem dJ7_fill_d0a16_4 : decode cJ7_fill_d0a16 4 = .ok (.istore 4, 2) := by decide +kernel
theorem dJ7_fill_d0a16_6 : decode cJ7_fill_d0a16 6 = .ok (.iload_n 3, 1) := by decide +kernel
theorem dJ7_fill_d0a16_7 : decode cJ7_fill_d0a16 7 = .ok (.iload 4, 2) := by decide +kernel
theorem dJ7_fill_d0a16_9 : decode cJ7_fill_d0a16 9 = .ok (.if_icmp .ge 13, 3) := by decide +kernel
theorem dJ7_fill_d0a16_12 : decode cJ7_fill_d0a16 12 = .ok (.aload_n 0, 1) := by decide +kernel
theorem dJ7_fill_d0a16_13 : decode cJ7_fill_d0a16 13 = .ok (.iload_n 3, 1) := by decide +kernel
theorem dJ7_fill_d0a16_14 : decode cJ7_fill_d0a16 14 = .ok (.lload_n 1, 1) := by decide +kernel
theorem dJ7_fill_d0a16_15 : decode cJ7_fill_d0a16 15 = .ok (.lastore, 1) := by decide +kernel
theorem dJ7_fill_d0a16_16 : decode cJ7_fill_d0a16 16 = .ok (.iinc 3 1, 3) := by decide +kernel
theorem dJ7_fill_d0a16_19 : decode cJ7_fill_d0a16 19 = .ok (.goto (-13), 3) := by decide +kernel
theorem dJ7_fill_d0a16_22 : decode cJ7_fill_d0a16 22 = .ok (.return_, 1) := by decide +kernel
