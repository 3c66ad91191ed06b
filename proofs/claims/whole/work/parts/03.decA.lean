theorem dX12_init_0 : decode cX12_init 0 = .ok (.aload_n 0, 1) := by decide +kernel
theorem dX12_init_1 : decode cX12_init 1 = .ok (.invokespecial 1, 3) := by decide +kernel
theorem dX12_init_4 : decode cX12_init 4 = .ok (.aload_n 0, 1) := by decide +kernel
theorem dX12_init_5 : decode cX12_init 5 = .ok (.iconst 4, 1) := by decide +kernel
theorem dX12_init_6 : decode cX12_init 6 = .ok (.newarray .int, 2) := by decide +kernel
theorem dX12_init_8 : decode cX12_init 8 = .ok (.dup, 1) := by decide +kernel
theorem dX12_init_9 : decode cX12_init 9 = .ok (.iconst 0, 1) := by decide +kernel
theorem dX12_init_10 : decode cX12_init 10 = .ok (.bipush (-9), 2) := by decide +kernel
theorem dX12_init_12 : decode cX12_init 12 = .ok (.iastore, 1) := by decide +kernel
theorem dX12_init_13 : decode cX12_init 13 = .ok (.dup, 1) := by decide +kernel
theorem dX12_init_14 : decode cX12_init 14 = .ok (.iconst 1, 1) := by decide +kernel
theorem dX12_init_15 : decode cX12_init 15 = .ok (.bipush (-9), 2) := by decide +kernel
theorem dX12_init_17 : decode cX12_init 17 = .ok (.iastore, 1) := by decide +kernel
theorem dX12_init_18 : decode cX12_init 18 = .ok (.dup, 1) := by decide +kernel
theorem dX12_init_19 : decode cX12_init 19 = .ok (.iconst 2, 1) := by decide +kernel
theorem dX12_init_20 : decode cX12_init 20 = .ok (.bipush (-9), 2) := by decide +kernel
theorem dX12_init_22 : decode cX12_init 22 = .ok (.iastore, 1) := by decide +kernel
theorem dX12_init_23 : decode cX12_init 23 = .ok (.dup, 1) := by decide +kernel
theorem dX12_init_24 : decode cX12_init 24 = .ok (.iconst 3, 1) := by decide +kernel
theorem dX12_init_25 : decode cX12_init 25 = .ok (.bipush (-9), 2) := by decide +kernel
theorem dX12_init_27 : decode cX12_init 27 = .ok (.iastore, 1) := by decide +kernel
theorem dX12_init_28 : decode cX12_init 28 = .ok (.putfield 9, 3) := by decide +kernel
theorem dX12_init_31 : decode cX12_init 31 = .ok (.aload_n 0, 1) := by decide +kernel
theorem dX12_init_32 : decode cX12_init 32 = .ok (.iconst 4, 1) := by decide +kernel
theorem dX12_init_33 : decode cX12_init 33 = .ok (.newarray .int, 2) := by decide +kernel
theorem dX12_init_35 : decode cX12_init 35 = .ok (.putfield 13, 3) := by decide +kernel
theorem dX12_init_38 : decode cX12_init 38 = .ok (.aload_n 0, 1) := by decide +kernel
theorem dX12_init_39 : decode cX12_init 39 = .ok (.sipush 240, 3) := by decide +kernel
theorem dX12_init_42 : decode cX12_init 42 = .ok (.newarray .int, 2) := by decide +kernel
theorem dX12_init_44 : decode cX12_init 44 = .ok (.putfield 16, 3) := by decide +kernel
theorem dX12_init_47 : decode cX12_init 47 = .ok (.aload_n 0, 1) := by decide +kernel
theorem dX12_init_48 : decode cX12_init 48 = .ok (.iconst 4, 1) := by decide +kernel
theorem dX12_init_49 : decode cX12_init 49 = .ok (.newarray .int, 2) := by decide +kernel
theorem dX12_init_51 : decode cX12_init 51 = .ok (.putfield 19, 3) := by decide +kernel
theorem dX12_init_54 : decode cX12_init 54 = .ok (.aload_n 0, 1) := by decide +kernel
theorem dX12_init_55 : decode cX12_init 55 = .ok (.iconst 4, 1) := by decide +kernel
theorem dX12_init_56 : decode cX12_init 56 = .ok (.newarray .int, 2) := by decide +kernel
theorem dX12_init_58 : decode cX12_init 58 = .ok (.putfield 22, 3) := by decide +kernel
theorem dX12_init_61 : decode cX12_init 61 = .ok (.aload_n 0, 1) := by decide +kernel
theorem dX12_init_62 : decode cX12_init 62 = .ok (.bipush 12, 2) := by decide +kernel
theorem dX12_init_64 : decode cX12_init 64 = .ok (.newarray .int, 2) := by decide +kernel
theorem dX12_init_66 : decode cX12_init 66 = .ok (.putfield 25, 3) := by decide +kernel
theorem dX12_init_69 : decode cX12_init 69 = .ok (.aload_n 0, 1) := by decide +kernel
theorem dX12_init_70 : decode cX12_init 70 = .ok (.bipush 12, 2) := by decide +kernel
theorem dX12_init_72 : decode cX12_init 72 = .ok (.newarray .int, 2) := by decide +kernel
theorem dX12_init_74 : decode cX12_init 74 = .ok (.putfield 28, 3) := by decide +kernel
theorem dX12_init_77 : decode cX12_init 77 = .ok (.aload_n 0, 1) := by decide +kernel
theorem dX12_init_78 : decode cX12_init 78 = .ok (.ldc 31, 2) := by decide +kernel
theorem dX12_init_80 : decode cX12_init 80 = .ok (.newarray .int, 2) := by decide +kernel
theorem dX12_init_82 : decode cX12_init 82 = .ok (.putfield 32, 3) := by decide +kernel
theorem dX12_init_85 : decode cX12_init 85 = .ok (.aload_n 0, 1) := by decide +kernel
theorem dX12_init_86 : decode cX12_init 86 = .ok (.ldc 31, 2) := by decide +kernel
theorem dX12_init_88 : decode cX12_init 88 = .ok (.newarray .long, 2) := by decide +kernel
theorem dX12_init_90 : decode cX12_init 90 = .ok (.putfield 35, 3) := by decide +kernel
theorem dX12_init_93 : decode cX12_init 93 = .ok (.aload_n 0, 1) := by decide +kernel
theorem dX12_init_94 : decode cX12_init 94 = .ok (.ldc 31, 2) := by decide +kernel
theorem dX12_init_96 : decode cX12_init 96 = .ok (.newarray .long, 2) := by decide +kernel
theorem dX12_init_98 : decode cX12_init 98 = .ok (.putfield 39, 3) := by decide +kernel
theorem dX12_init_101 : decode cX12_init 101 = .ok (.aload_n 0, 1) := by decide +kernel
theorem dX12_init_102 : decode cX12_init 102 = .ok (.ldc 31, 2) := by decide +kernel
theorem dX12_init_104 : decode cX12_init 104 = .ok (.newarray .int, 2) := by decide +kernel
theorem dX12_init_106 : decode cX12_init 106 = .ok (.putfield 42, 3) := by decide +kernel
theorem dX12_init_109 : decode cX12_init 109 = .ok (.aload_n 0, 1) := by decide +kernel
theorem dX12_init_110 : decode cX12_init 110 = .ok (.ldc 31, 2) := by decide +kernel
theorem dX12_init_112 : decode cX12_init 112 = .ok (.newarray .int, 2) := by decide +kernel
theorem dX12_init_114 : decode cX12_init 114 = .ok (.putfield 45, 3) := by decide +kernel
theorem dX12_init_117 : decode cX12_init 117 = .ok (.aload_n 0, 1) := by decide +kernel
theorem dX12_init_118 : decode cX12_init 118 = .ok (.bipush 16, 2) := by decide +kernel
theorem dX12_init_120 : decode cX12_init 120 = .ok (.newarray .int, 2) := by decide +kernel
theorem dX12_init_122 : decode cX12_init 122 = .ok (.putfield 48, 3) := by decide +kernel
theorem dX12_init_125 : decode cX12_init 125 = .ok (.aload_n 0, 1) := by decide +kernel
theorem dX12_init_126 : decode cX12_init 126 = .ok (.bipush 16, 2) := by decide +kernel
theorem dX12_init_128 : decode cX12_init 128 = .ok (.newarray .int, 2) := by decide +kernel
theorem dX12_init_130 : decode cX12_init 130 = .ok (.putfield 51, 3) := by decide +kernel
theorem dX12_init_133 : decode cX12_init 133 = .ok (.aload_n 0, 1) := by decide +kernel
theorem dX12_init_134 : decode cX12_init 134 = .ok (.bipush 16, 2) := by decide +kernel
theorem dX12_init_136 : decode cX12_init 136 = .ok (.newarray .int, 2) := by decide +kernel
theorem dX12_init_138 : decode cX12_init 138 = .ok (.putfield 54, 3) := by decide +kernel
theorem dX12_init_141 : decode cX12_init 141 = .ok (.aload_n 0, 1) := by decide +kernel
theorem dX12_init_142 : decode cX12_init 142 = .ok (.aload_n 0, 1) := by decide +kernel
theorem dX12_init_143 : decode cX12_init 143 = .ok (.getfield 19, 3) := by decide +kernel
theorem dX12_init_146 : decode cX12_init 146 = .ok (.putfield 57, 3) := by decide +kernel
theorem dX12_init_149 : decode cX12_init 149 = .ok (.aload_n 0, 1) := by decide +kernel
theorem dX12_init_150 : decode cX12_init 150 = .ok (.iconst 4, 1) := by decide +kernel
theorem dX12_init_151 : decode cX12_init 151 = .ok (.newarray .int, 2) := by decide +kernel
theorem dX12_init_153 : decode cX12_init 153 = .ok (.putfield 60, 3) := by decide +kernel
theorem dX12_init_156 : decode cX12_init 156 = .ok (.aload_n 0, 1) := by decide +kernel
theorem dX12_init_157 : decode cX12_init 157 = .ok (.iconst 4, 1) := by decide +kernel
theorem dX12_init_158 : decode cX12_init 158 = .ok (.newarray .int, 2) := by decide +kernel
theorem dX12_init_160 : decode cX12_init 160 = .ok (.putfield 63, 3) := by decide +kernel
theorem dX12_init_163 : decode cX12_init 163 = .ok (.aload_n 0, 1) := by decide +kernel
theorem dX12_init_164 : decode cX12_init 164 = .ok (.iconst 4, 1) := by decide +kernel
theorem dX12_init_165 : decode cX12_init 165 = .ok (.newarray .int, 2) := by decide +kernel
theorem dX12_init_167 : decode cX12_init 167 = .ok (.putfield 66, 3) := by decide +kernel
theorem dX12_init_170 : decode cX12_init 170 = .ok (.aload_n 0, 1) := by decide +kernel
theorem dX12_init_171 : decode cX12_init 171 = .ok (.ldc 31, 2) := by decide +kernel
theorem dX12_init_173 : decode cX12_init 173 = .ok (.newarray .int, 2) := by decide +kernel
theorem dX12_init_175 : decode cX12_init 175 = .ok (.putfield 69, 3) := by decide +kernel
theorem dX12_init_178 : decode cX12_init 178 = .ok (.return_, 1) := by decide +kernel
theorem dX12_fails_0 : decode cX12_fails 0 = .ok (.aload_n 0, 1) := by decide +kernel
theorem dX12_fails_1 : decode cX12_fails 1 = .ok (.iload_n 1, 1) := by decide +kernel
theorem dX12_fails_2 : decode cX12_fails 2 = .ok (.putfield 72, 3) := by decide +kernel
theorem dX12_fails_5 : decode cX12_fails 5 = .ok (.bipush (-10), 2) := by decide +kernel
theorem dX12_fails_7 : decode cX12_fails 7 = .ok (.iload_n 1, 1) := by decide +kernel
theorem dX12_fails_8 : decode cX12_fails 8 = .ok (.isub, 1) := by decide +kernel
theorem dX12_fails_9 : decode cX12_fails 9 = .ok (.ireturn, 1) := by decide +kernel
theorem dX12_lost_0 : decode cX12_lost 0 = .ok (.aload_n 0, 1) := by decide +kernel
theorem dX12_lost_1 : decode cX12_lost 1 = .ok (.iload_n 1, 1) := by decide +kernel
theorem dX12_lost_2 : decode cX12_lost 2 = .ok (.putfield 72, 3) := by decide +kernel
theorem dX12_lost_5 : decode cX12_lost 5 = .ok (.ldc2_w 76, 3) := by decide +kernel
theorem dX12_lost_8 : decode cX12_lost 8 = .ok (.lreturn, 1) := by decide +kernel
theorem dX12_isIn_0 : decode cX12_isIn 0 = .ok (.iload_n 0, 1) := by decide +kernel
theorem dX12_isIn_1 : decode cX12_isIn 1 = .ok (.iload_n 1, 1) := by decide +kernel
theorem dX12_isIn_2 : decode cX12_isIn 2 = .ok (.if_icmp .lt 12, 3) := by decide +kernel
theorem dX12_isIn_5 : decode cX12_isIn 5 = .ok (.iload_n 0, 1) := by decide +kernel
theorem dX12_isIn_6 : decode cX12_isIn 6 = .ok (.iload_n 2, 1) := by decide +kernel
theorem dX12_isIn_7 : decode cX12_isIn 7 = .ok (.if_icmp .gt 7, 3) := by decide +kernel
theorem dX12_isIn_10 : decode cX12_isIn 10 = .ok (.iconst 1, 1) := by decide +kernel
theorem dX12_isIn_11 : decode cX12_isIn 11 = .ok (.goto 4, 3) := by decide +kernel
theorem dX12_isIn_14 : decode cX12_isIn 14 = .ok (.iconst 0, 1) := by decide +kernel
theorem dX12_isIn_15 : decode cX12_isIn 15 = .ok (.ireturn, 1) := by decide +kernel
theorem dX12_has_0 : decode cX12_has 0 = .ok (.iload_n 0, 1) := by decide +kernel
theorem dX12_has_1 : decode cX12_has 1 = .ok (.iload_n 1, 1) := by decide +kernel
theorem dX12_has_2 : decode cX12_has 2 = .ok (.ishr, 1) := by decide +kernel
theorem dX12_has_3 : decode cX12_has 3 = .ok (.iconst 1, 1) := by decide +kernel
theorem dX12_has_4 : decode cX12_has 4 = .ok (.iand, 1) := by decide +kernel
theorem dX12_has_5 : decode cX12_has 5 = .ok (.iconst 1, 1) := by decide +kernel
theorem dX12_has_6 : decode cX12_has 6 = .ok (.if_icmp .ne 7, 3) := by decide +kernel
theorem dX12_has_9 : decode cX12_has 9 = .ok (.iconst 1, 1) := by decide +kernel
theorem dX12_has_10 : decode cX12_has 10 = .ok (.goto 4, 3) := by decide +kernel
theorem dX12_has_13 : decode cX12_has 13 = .ok (.iconst 0, 1) := by decide +kernel
theorem dX12_has_14 : decode cX12_has 14 = .ok (.ireturn, 1) := by decide +kernel
theorem dX12_bitsOf_0 : decode cX12_bitsOf 0 = .ok (.iconst 0, 1) := by decide +kernel
theorem dX12_bitsOf_1 : decode cX12_bitsOf 1 = .ok (.istore_n 1, 1) := by decide +kernel
theorem dX12_bitsOf_2 : decode cX12_bitsOf 2 = .ok (.iconst 0, 1) := by decide +kernel
theorem dX12_bitsOf_3 : decode cX12_bitsOf 3 = .ok (.istore_n 2, 1) := by decide +kernel
theorem dX12_bitsOf_4 : decode cX12_bitsOf 4 = .ok (.iload_n 2, 1) := by decide +kernel
theorem dX12_bitsOf_5 : decode cX12_bitsOf 5 = .ok (.bipush 16, 2) := by decide +kernel
theorem dX12_bitsOf_7 : decode cX12_bitsOf 7 = .ok (.if_icmp .ge 17, 3) := by decide +kernel
theorem dX12_bitsOf_10 : decode cX12_bitsOf 10 = .ok (.iload_n 1, 1) := by decide +kernel
theorem dX12_bitsOf_11 : decode cX12_bitsOf 11 = .ok (.iload_n 0, 1) := by decide +kernel
theorem dX12_bitsOf_12 : decode cX12_bitsOf 12 = .ok (.iload_n 2, 1) := by decide +kernel
theorem dX12_bitsOf_13 : decode cX12_bitsOf 13 = .ok (.ishr, 1) := by decide +kernel
theorem dX12_bitsOf_14 : decode cX12_bitsOf 14 = .ok (.iconst 1, 1) := by decide +kernel
theorem dX12_bitsOf_15 : decode cX12_bitsOf 15 = .ok (.iand, 1) := by decide +kernel
theorem dX12_bitsOf_16 : decode cX12_bitsOf 16 = .ok (.iadd, 1) := by decide +kernel
theorem dX12_bitsOf_17 : decode cX12_bitsOf 17 = .ok (.istore_n 1, 1) := by decide +kernel
theorem dX12_bitsOf_18 : decode cX12_bitsOf 18 = .ok (.iinc 2 1, 3) := by decide +kernel
theorem dX12_bitsOf_21 : decode cX12_bitsOf 21 = .ok (.goto (-17), 3) := by decide +kernel
theorem dX12_bitsOf_24 : decode cX12_bitsOf 24 = .ok (.iload_n 1, 1) := by decide +kernel
theorem dX12_bitsOf_25 : decode cX12_bitsOf 25 = .ok (.ireturn, 1) := by decide +kernel
theorem dX12_isSheet_0 : decode cX12_isSheet 0 = .ok (.iload_n 0, 1) := by decide +kernel
theorem dX12_isSheet_1 : decode cX12_isSheet 1 = .ok (.iconst 0, 1) := by decide +kernel
theorem dX12_isSheet_2 : decode cX12_isSheet 2 = .ok (.iconst 3, 1) := by decide +kernel
theorem dX12_isSheet_3 : decode cX12_isSheet 3 = .ok (.invokestatic 78, 3) := by decide +kernel
theorem dX12_isSheet_6 : decode cX12_isSheet 6 = .ok (.ireturn, 1) := by decide +kernel
theorem dX12_isLane_0 : decode cX12_isLane 0 = .ok (.iload_n 0, 1) := by decide +kernel
theorem dX12_isLane_1 : decode cX12_isLane 1 = .ok (.iconst 0, 1) := by decide +kernel
theorem dX12_isLane_2 : decode cX12_isLane 2 = .ok (.iconst 2, 1) := by decide +kernel
theorem dX12_isLane_3 : decode cX12_isLane 3 = .ok (.invokestatic 78, 3) := by decide +kernel
theorem dX12_isLane_6 : decode cX12_isLane 6 = .ok (.ireturn, 1) := by decide +kernel
theorem dX12_isPerson_0 : decode cX12_isPerson 0 = .ok (.iload_n 1, 1) := by decide +kernel
theorem dX12_isPerson_1 : decode cX12_isPerson 1 = .ok (.ifCond .lt 15, 3) := by decide +kernel
theorem dX12_isPerson_4 : decode cX12_isPerson 4 = .ok (.iload_n 1, 1) := by decide +kernel
theorem dX12_isPerson_5 : decode cX12_isPerson 5 = .ok (.aload_n 0, 1) := by decide +kernel
theorem dX12_isPerson_6 : decode cX12_isPerson 6 = .ok (.getfield 82, 3) := by decide +kernel
theorem dX12_isPerson_9 : decode cX12_isPerson 9 = .ok (.if_icmp .ge 7, 3) := by decide +kernel
theorem dX12_isPerson_12 : decode cX12_isPerson 12 = .ok (.iconst 1, 1) := by decide +kernel
theorem dX12_isPerson_13 : decode cX12_isPerson 13 = .ok (.goto 4, 3) := by decide +kernel
theorem dX12_isPerson_16 : decode cX12_isPerson 16 = .ok (.iconst 0, 1) := by decide +kernel
theorem dX12_isPerson_17 : decode cX12_isPerson 17 = .ok (.ireturn, 1) := by decide +kernel
theorem dX12_isRule_0 : decode cX12_isRule 0 = .ok (.iload_n 0, 1) := by decide +kernel
theorem dX12_isRule_1 : decode cX12_isRule 1 = .ok (.iconst 0, 1) := by decide +kernel
theorem dX12_isRule_2 : decode cX12_isRule 2 = .ok (.iconst 3, 1) := by decide +kernel
theorem dX12_isRule_3 : decode cX12_isRule 3 = .ok (.invokestatic 78, 3) := by decide +kernel
theorem dX12_isRule_6 : decode cX12_isRule 6 = .ok (.ireturn, 1) := by decide +kernel
theorem dX12_net_0 : decode cX12_net 0 = .ok (.aload_n 0, 1) := by decide +kernel
theorem dX12_net_1 : decode cX12_net 1 = .ok (.iconst 0, 1) := by decide +kernel
theorem dX12_net_2 : decode cX12_net 2 = .ok (.putfield 72, 3) := by decide +kernel
theorem dX12_net_5 : decode cX12_net 5 = .ok (.iload_n 1, 1) := by decide +kernel
theorem dX12_net_6 : decode cX12_net 6 = .ok (.invokestatic 85, 3) := by decide +kernel
theorem dX12_net_9 : decode cX12_net 9 = .ok (.ifCond .ne 5, 3) := by decide +kernel
theorem dX12_net_12 : decode cX12_net 12 = .ok (.iconst (-1), 1) := by decide +kernel
theorem dX12_net_13 : decode cX12_net 13 = .ok (.ireturn, 1) := by decide +kernel
theorem dX12_net_14 : decode cX12_net 14 = .ok (.iload_n 2, 1) := by decide +kernel
theorem dX12_net_15 : decode cX12_net 15 = .ok (.invokestatic 89, 3) := by decide +kernel
theorem dX12_net_18 : decode cX12_net 18 = .ok (.ifCond .ne 6, 3) := by decide +kernel
theorem dX12_net_21 : decode cX12_net 21 = .ok (.bipush (-2), 2) := by decide +kernel
theorem dX12_net_23 : decode cX12_net 23 = .ok (.ireturn, 1) := by decide +kernel
theorem dX12_net_24 : decode cX12_net 24 = .ok (.aload_n 0, 1) := by decide +kernel
theorem dX12_net_25 : decode cX12_net 25 = .ok (.getfield 9, 3) := by decide +kernel
theorem dX12_net_28 : decode cX12_net 28 = .ok (.iload_n 1, 1) := by decide +kernel
theorem dX12_net_29 : decode cX12_net 29 = .ok (.iaload, 1) := by decide +kernel
theorem dX12_net_30 : decode cX12_net 30 = .ok (.bipush (-9), 2) := by decide +kernel
theorem dX12_net_32 : decode cX12_net 32 = .ok (.if_icmp .eq 19, 3) := by decide +kernel
theorem dX12_net_35 : decode cX12_net 35 = .ok (.aload_n 0, 1) := by decide +kernel
theorem dX12_net_36 : decode cX12_net 36 = .ok (.getfield 9, 3) := by decide +kernel
theorem dX12_net_39 : decode cX12_net 39 = .ok (.iload_n 1, 1) := by decide +kernel
theorem dX12_net_40 : decode cX12_net 40 = .ok (.iaload, 1) := by decide +kernel
theorem dX12_net_41 : decode cX12_net 41 = .ok (.iload_n 2, 1) := by decide +kernel
theorem dX12_net_42 : decode cX12_net 42 = .ok (.if_icmp .eq 9, 3) := by decide +kernel
theorem dX12_net_45 : decode cX12_net 45 = .ok (.aload_n 0, 1) := by decide +kernel
theorem dX12_net_46 : decode cX12_net 46 = .ok (.iconst 2, 1) := by decide +kernel
theorem dX12_net_47 : decode cX12_net 47 = .ok (.invokevirtual 92, 3) := by decide +kernel
theorem dX12_net_50 : decode cX12_net 50 = .ok (.ireturn, 1) := by decide +kernel
theorem dX12_net_51 : decode cX12_net 51 = .ok (.aload_n 0, 1) := by decide +kernel
theorem dX12_net_52 : decode cX12_net 52 = .ok (.getfield 9, 3) := by decide +kernel
theorem dX12_net_55 : decode cX12_net 55 = .ok (.iload_n 1, 1) := by decide +kernel
theorem dX12_net_56 : decode cX12_net 56 = .ok (.iaload, 1) := by decide +kernel
theorem dX12_net_57 : decode cX12_net 57 = .ok (.bipush (-9), 2) := by decide +kernel
theorem dX12_net_59 : decode cX12_net 59 = .ok (.if_icmp .ne 9, 3) := by decide +kernel
theorem dX12_net_62 : decode cX12_net 62 = .ok (.aload_n 0, 1) := by decide +kernel
theorem dX12_net_63 : decode cX12_net 63 = .ok (.iconst 1, 1) := by decide +kernel
theorem dX12_net_64 : decode cX12_net 64 = .ok (.invokevirtual 92, 3) := by decide +kernel
theorem dX12_net_67 : decode cX12_net 67 = .ok (.ireturn, 1) := by decide +kernel
theorem dX12_net_68 : decode cX12_net 68 = .ok (.iload 4, 2) := by decide +kernel
theorem dX12_net_70 : decode cX12_net 70 = .ok (.ifCond .ge 9, 3) := by decide +kernel
theorem dX12_net_73 : decode cX12_net 73 = .ok (.aload_n 0, 1) := by decide +kernel
theorem dX12_net_74 : decode cX12_net 74 = .ok (.iconst 4, 1) := by decide +kernel
theorem dX12_net_75 : decode cX12_net 75 = .ok (.invokevirtual 92, 3) := by decide +kernel
theorem dX12_net_78 : decode cX12_net 78 = .ok (.ireturn, 1) := by decide +kernel
theorem dX12_net_79 : decode cX12_net 79 = .ok (.iload_n 3, 1) := by decide +kernel
theorem dX12_net_80 : decode cX12_net 80 = .ok (.ifCond .lt 26, 3) := by decide +kernel
theorem dX12_net_83 : decode cX12_net 83 = .ok (.iload_n 3, 1) := by decide +kernel
theorem dX12_net_84 : decode cX12_net 84 = .ok (.aload_n 0, 1) := by decide +kernel
theorem dX12_net_85 : decode cX12_net 85 = .ok (.getfield 13, 3) := by decide +kernel
theorem dX12_net_88 : decode cX12_net 88 = .ok (.iload_n 1, 1) := by decide +kernel
theorem dX12_net_89 : decode cX12_net 89 = .ok (.iaload, 1) := by decide +kernel
theorem dX12_net_90 : decode cX12_net 90 = .ok (.if_icmp .gt 16, 3) := by decide +kernel
theorem dX12_net_93 : decode cX12_net 93 = .ok (.iload 4, 2) := by decide +kernel
theorem dX12_net_95 : decode cX12_net 95 = .ok (.aload_n 0, 1) := by decide +kernel
theorem dX12_net_96 : decode cX12_net 96 = .ok (.getfield 13, 3) := by decide +kernel
theorem dX12_net_99 : decode cX12_net 99 = .ok (.iload_n 1, 1) := by decide +kernel
theorem dX12_net_100 : decode cX12_net 100 = .ok (.iaload, 1) := by decide +kernel
theorem dX12_net_101 : decode cX12_net 101 = .ok (.iload_n 3, 1) := by decide +kernel
theorem dX12_net_102 : decode cX12_net 102 = .ok (.isub, 1) := by decide +kernel
theorem dX12_net_103 : decode cX12_net 103 = .ok (.if_icmp .le 9, 3) := by decide +kernel
theorem dX12_net_106 : decode cX12_net 106 = .ok (.aload_n 0, 1) := by decide +kernel
theorem dX12_net_107 : decode cX12_net 107 = .ok (.iconst 3, 1) := by decide +kernel
theorem dX12_net_108 : decode cX12_net 108 = .ok (.invokevirtual 92, 3) := by decide +kernel
theorem dX12_net_111 : decode cX12_net 111 = .ok (.ireturn, 1) := by decide +kernel
theorem dX12_net_112 : decode cX12_net 112 = .ok (.bipush 60, 2) := by decide +kernel
theorem dX12_net_114 : decode cX12_net 114 = .ok (.iload_n 1, 1) := by decide +kernel
theorem dX12_net_115 : decode cX12_net 115 = .ok (.imul, 1) := by decide +kernel
theorem dX12_net_116 : decode cX12_net 116 = .ok (.iload_n 3, 1) := by decide +kernel
theorem dX12_net_117 : decode cX12_net 117 = .ok (.iadd, 1) := by decide +kernel
theorem dX12_net_118 : decode cX12_net 118 = .ok (.istore 5, 2) := by decide +kernel
theorem dX12_net_120 : decode cX12_net 120 = .ok (.aload_n 0, 1) := by decide +kernel
theorem dX12_net_121 : decode cX12_net 121 = .ok (.iload 5, 2) := by decide +kernel
theorem dX12_net_123 : decode cX12_net 123 = .ok (.iload 4, 2) := by decide +kernel
theorem dX12_net_125 : decode cX12_net 125 = .ok (.invokevirtual 96, 3) := by decide +kernel
theorem dX12_net_128 : decode cX12_net 128 = .ok (.istore 6, 2) := by decide +kernel
theorem dX12_net_130 : decode cX12_net 130 = .ok (.iload 6, 2) := by decide +kernel
theorem dX12_net_132 : decode cX12_net 132 = .ok (.bipush (-9), 2) := by decide +kernel
theorem dX12_net_134 : decode cX12_net 134 = .ok (.if_icmp .eq 9, 3) := by decide +kernel
theorem dX12_net_137 : decode cX12_net 137 = .ok (.bipush (-100), 2) := by decide +kernel
theorem dX12_net_139 : decode cX12_net 139 = .ok (.iload 6, 2) := by decide +kernel
theorem dX12_net_141 : decode cX12_net 141 = .ok (.isub, 1) := by decide +kernel
theorem dX12_net_142 : decode cX12_net 142 = .ok (.ireturn, 1) := by decide +kernel
theorem dX12_net_143 : decode cX12_net 143 = .ok (.aload_n 0, 1) := by decide +kernel
theorem dX12_net_144 : decode cX12_net 144 = .ok (.aload_n 0, 1) := by decide +kernel
theorem dX12_net_145 : decode cX12_net 145 = .ok (.getfield 100, 3) := by decide +kernel
theorem dX12_net_148 : decode cX12_net 148 = .ok (.putfield 82, 3) := by decide +kernel
theorem dX12_net_151 : decode cX12_net 151 = .ok (.iconst 0, 1) := by decide +kernel
theorem dX12_net_152 : decode cX12_net 152 = .ok (.istore 7, 2) := by decide +kernel
theorem dX12_net_154 : decode cX12_net 154 = .ok (.iload 7, 2) := by decide +kernel
theorem dX12_net_156 : decode cX12_net 156 = .ok (.aload_n 0, 1) := by decide +kernel
theorem dX12_net_157 : decode cX12_net 157 = .ok (.getfield 100, 3) := by decide +kernel
theorem dX12_net_160 : decode cX12_net 160 = .ok (.if_icmp .ge 23, 3) := by decide +kernel
theorem dX12_net_163 : decode cX12_net 163 = .ok (.aload_n 0, 1) := by decide +kernel
theorem dX12_net_164 : decode cX12_net 164 = .ok (.getfield 19, 3) := by decide +kernel
theorem dX12_net_167 : decode cX12_net 167 = .ok (.iload 7, 2) := by decide +kernel
theorem dX12_net_169 : decode cX12_net 169 = .ok (.aload_n 0, 1) := by decide +kernel
theorem dX12_net_170 : decode cX12_net 170 = .ok (.getfield 22, 3) := by decide +kernel
theorem dX12_net_173 : decode cX12_net 173 = .ok (.iload 7, 2) := by decide +kernel
theorem dX12_net_175 : decode cX12_net 175 = .ok (.iaload, 1) := by decide +kernel
theorem dX12_net_176 : decode cX12_net 176 = .ok (.iastore, 1) := by decide +kernel
theorem dX12_net_177 : decode cX12_net 177 = .ok (.iinc 7 1, 3) := by decide +kernel
theorem dX12_net_180 : decode cX12_net 180 = .ok (.goto (-26), 3) := by decide +kernel
theorem dX12_net_183 : decode cX12_net 183 = .ok (.aload_n 0, 1) := by decide +kernel
theorem dX12_net_184 : decode cX12_net 184 = .ok (.iconst 0, 1) := by decide +kernel
theorem dX12_net_185 : decode cX12_net 185 = .ok (.putfield 103, 3) := by decide +kernel
theorem dX12_net_188 : decode cX12_net 188 = .ok (.aload_n 0, 1) := by decide +kernel
theorem dX12_net_189 : decode cX12_net 189 = .ok (.getfield 82, 3) := by decide +kernel
theorem dX12_net_192 : decode cX12_net 192 = .ok (.ireturn, 1) := by decide +kernel
theorem dX12_readAll_0 : decode cX12_readAll 0 = .ok (.aload_n 0, 1) := by decide +kernel
theorem dX12_readAll_1 : decode cX12_readAll 1 = .ok (.iconst 0, 1) := by decide +kernel
theorem dX12_readAll_2 : decode cX12_readAll 2 = .ok (.putfield 100, 3) := by decide +kernel
theorem dX12_readAll_5 : decode cX12_readAll 5 = .ok (.iconst 0, 1) := by decide +kernel
theorem dX12_readAll_6 : decode cX12_readAll 6 = .ok (.istore_n 3, 1) := by decide +kernel
theorem dX12_readAll_7 : decode cX12_readAll 7 = .ok (.iconst 1, 1) := by decide +kernel
theorem dX12_readAll_8 : decode cX12_readAll 8 = .ok (.istore 4, 2) := by decide +kernel
theorem dX12_readAll_10 : decode cX12_readAll 10 = .ok (.iload 4, 2) := by decide +kernel
theorem dX12_readAll_12 : decode cX12_readAll 12 = .ok (.ifCond .eq 170, 3) := by decide +kernel
theorem dX12_readAll_15 : decode cX12_readAll 15 = .ok (.iload_n 3, 1) := by decide +kernel
theorem dX12_readAll_16 : decode cX12_readAll 16 = .ok (.iload_n 2, 1) := by decide +kernel
theorem dX12_readAll_17 : decode cX12_readAll 17 = .ok (.if_icmp .eq 16, 3) := by decide +kernel
theorem dX12_readAll_20 : decode cX12_readAll 20 = .ok (.aload_n 0, 1) := by decide +kernel
theorem dX12_readAll_21 : decode cX12_readAll 21 = .ok (.getfield 16, 3) := by decide +kernel
theorem dX12_readAll_24 : decode cX12_readAll 24 = .ok (.iload_n 1, 1) := by decide +kernel
theorem dX12_readAll_25 : decode cX12_readAll 25 = .ok (.iload_n 3, 1) := by decide +kernel
theorem dX12_readAll_26 : decode cX12_readAll 26 = .ok (.iadd, 1) := by decide +kernel
theorem dX12_readAll_27 : decode cX12_readAll 27 = .ok (.iaload, 1) := by decide +kernel
theorem dX12_readAll_28 : decode cX12_readAll 28 = .ok (.bipush 112, 2) := by decide +kernel
theorem dX12_readAll_30 : decode cX12_readAll 30 = .ok (.if_icmp .eq 5, 3) := by decide +kernel
theorem dX12_readAll_33 : decode cX12_readAll 33 = .ok (.iload_n 3, 1) := by decide +kernel
theorem dX12_readAll_34 : decode cX12_readAll 34 = .ok (.ireturn, 1) := by decide +kernel
theorem dX12_readAll_35 : decode cX12_readAll 35 = .ok (.iinc 3 1, 3) := by decide +kernel
theorem dX12_readAll_38 : decode cX12_readAll 38 = .ok (.iconst 0, 1) := by decide +kernel
theorem dX12_readAll_39 : decode cX12_readAll 39 = .ok (.istore 5, 2) := by decide +kernel
theorem dX12_readAll_41 : decode cX12_readAll 41 = .ok (.iload_n 3, 1) := by decide +kernel
theorem dX12_readAll_42 : decode cX12_readAll 42 = .ok (.iload_n 2, 1) := by decide +kernel
theorem dX12_readAll_43 : decode cX12_readAll 43 = .ok (.if_icmp .ge 75, 3) := by decide +kernel
theorem dX12_readAll_46 : decode cX12_readAll 46 = .ok (.aload_n 0, 1) := by decide +kernel
theorem dX12_readAll_47 : decode cX12_readAll 47 = .ok (.getfield 16, 3) := by decide +kernel
theorem dX12_readAll_50 : decode cX12_readAll 50 = .ok (.iload_n 1, 1) := by decide +kernel
theorem dX12_readAll_51 : decode cX12_readAll 51 = .ok (.iload_n 3, 1) := by decide +kernel
theorem dX12_readAll_52 : decode cX12_readAll 52 = .ok (.iadd, 1) := by decide +kernel
theorem dX12_readAll_53 : decode cX12_readAll 53 = .ok (.iaload, 1) := by decide +kernel
theorem dX12_readAll_54 : decode cX12_readAll 54 = .ok (.bipush 59, 2) := by decide +kernel
theorem dX12_readAll_56 : decode cX12_readAll 56 = .ok (.if_icmp .eq 62, 3) := by decide +kernel
theorem dX12_readAll_59 : decode cX12_readAll 59 = .ok (.aload_n 0, 1) := by decide +kernel
theorem dX12_readAll_60 : decode cX12_readAll 60 = .ok (.getfield 16, 3) := by decide +kernel
theorem dX12_readAll_63 : decode cX12_readAll 63 = .ok (.iload_n 1, 1) := by decide +kernel
theorem dX12_readAll_64 : decode cX12_readAll 64 = .ok (.iload_n 3, 1) := by decide +kernel
theorem dX12_readAll_65 : decode cX12_readAll 65 = .ok (.iadd, 1) := by decide +kernel
theorem dX12_readAll_66 : decode cX12_readAll 66 = .ok (.iaload, 1) := by decide +kernel
theorem dX12_readAll_67 : decode cX12_readAll 67 = .ok (.bipush 48, 2) := by decide +kernel
theorem dX12_readAll_69 : decode cX12_readAll 69 = .ok (.isub, 1) := by decide +kernel
theorem dX12_readAll_70 : decode cX12_readAll 70 = .ok (.istore 6, 2) := by decide +kernel
theorem dX12_readAll_72 : decode cX12_readAll 72 = .ok (.iload 6, 2) := by decide +kernel
theorem dX12_readAll_74 : decode cX12_readAll 74 = .ok (.iconst 0, 1) := by decide +kernel
theorem dX12_readAll_75 : decode cX12_readAll 75 = .ok (.iconst 3, 1) := by decide +kernel
theorem dX12_readAll_76 : decode cX12_readAll 76 = .ok (.invokestatic 78, 3) := by decide +kernel
theorem dX12_readAll_79 : decode cX12_readAll 79 = .ok (.ifCond .eq 22, 3) := by decide +kernel
theorem dX12_readAll_82 : decode cX12_readAll 82 = .ok (.iload 6, 2) := by decide +kernel
theorem dX12_readAll_84 : decode cX12_readAll 84 = .ok (.aload_n 0, 1) := by decide +kernel
theorem dX12_readAll_85 : decode cX12_readAll 85 = .ok (.getfield 100, 3) := by decide +kernel
theorem dX12_readAll_88 : decode cX12_readAll 88 = .ok (.if_icmp .eq 13, 3) := by decide +kernel
theorem dX12_readAll_91 : decode cX12_readAll 91 = .ok (.iload 5, 2) := by decide +kernel
theorem dX12_readAll_93 : decode cX12_readAll 93 = .ok (.iload 6, 2) := by decide +kernel
theorem dX12_readAll_95 : decode cX12_readAll 95 = .ok (.invokestatic 106, 3) := by decide +kernel
theorem dX12_readAll_98 : decode cX12_readAll 98 = .ok (.ifCond .eq 5, 3) := by decide +kernel
theorem dX12_readAll_101 : decode cX12_readAll 101 = .ok (.iload_n 3, 1) := by decide +kernel
theorem dX12_readAll_102 : decode cX12_readAll 102 = .ok (.ireturn, 1) := by decide +kernel
theorem dX12_readAll_103 : decode cX12_readAll 103 = .ok (.iload 5, 2) := by decide +kernel
theorem dX12_readAll_105 : decode cX12_readAll 105 = .ok (.iconst 1, 1) := by decide +kernel
theorem dX12_readAll_106 : decode cX12_readAll 106 = .ok (.iload 6, 2) := by decide +kernel
theorem dX12_readAll_108 : decode cX12_readAll 108 = .ok (.ishl, 1) := by decide +kernel
theorem dX12_readAll_109 : decode cX12_readAll 109 = .ok (.ior, 1) := by decide +kernel
theorem dX12_readAll_110 : decode cX12_readAll 110 = .ok (.istore 5, 2) := by decide +kernel
theorem dX12_readAll_112 : decode cX12_readAll 112 = .ok (.iinc 3 1, 3) := by decide +kernel
theorem dX12_readAll_115 : decode cX12_readAll 115 = .ok (.goto (-74), 3) := by decide +kernel
theorem dX12_readAll_118 : decode cX12_readAll 118 = .ok (.aload_n 0, 1) := by decide +kernel
theorem dX12_readAll_119 : decode cX12_readAll 119 = .ok (.getfield 22, 3) := by decide +kernel
theorem dX12_readAll_122 : decode cX12_readAll 122 = .ok (.aload_n 0, 1) := by decide +kernel
theorem dX12_readAll_123 : decode cX12_readAll 123 = .ok (.getfield 100, 3) := by decide +kernel
theorem dX12_readAll_126 : decode cX12_readAll 126 = .ok (.iload 5, 2) := by decide +kernel
theorem dX12_readAll_128 : decode cX12_readAll 128 = .ok (.iastore, 1) := by decide +kernel
theorem dX12_readAll_129 : decode cX12_readAll 129 = .ok (.aload_n 0, 1) := by decide +kernel
theorem dX12_readAll_130 : decode cX12_readAll 130 = .ok (.dup, 1) := by decide +kernel
theorem dX12_readAll_131 : decode cX12_readAll 131 = .ok (.getfield 100, 3) := by decide +kernel
theorem dX12_readAll_134 : decode cX12_readAll 134 = .ok (.iconst 1, 1) := by decide +kernel
theorem dX12_readAll_135 : decode cX12_readAll 135 = .ok (.iadd, 1) := by decide +kernel
theorem dX12_readAll_136 : decode cX12_readAll 136 = .ok (.putfield 100, 3) := by decide +kernel
theorem dX12_readAll_139 : decode cX12_readAll 139 = .ok (.iload_n 3, 1) := by decide +kernel
theorem dX12_readAll_140 : decode cX12_readAll 140 = .ok (.iload_n 2, 1) := by decide +kernel
theorem dX12_readAll_141 : decode cX12_readAll 141 = .ok (.if_icmp .ge 7, 3) := by decide +kernel
theorem dX12_readAll_144 : decode cX12_readAll 144 = .ok (.iconst 1, 1) := by decide +kernel
theorem dX12_readAll_145 : decode cX12_readAll 145 = .ok (.goto 4, 3) := by decide +kernel
theorem dX12_readAll_148 : decode cX12_readAll 148 = .ok (.iconst 0, 1) := by decide +kernel
theorem dX12_readAll_149 : decode cX12_readAll 149 = .ok (.istore 4, 2) := by decide +kernel
theorem dX12_readAll_151 : decode cX12_readAll 151 = .ok (.iload 4, 2) := by decide +kernel
theorem dX12_readAll_153 : decode cX12_readAll 153 = .ok (.ifCond .eq 13, 3) := by decide +kernel
theorem dX12_readAll_156 : decode cX12_readAll 156 = .ok (.aload_n 0, 1) := by decide +kernel
theorem dX12_readAll_157 : decode cX12_readAll 157 = .ok (.getfield 100, 3) := by decide +kernel
theorem dX12_readAll_160 : decode cX12_readAll 160 = .ok (.iconst 4, 1) := by decide +kernel
theorem dX12_readAll_161 : decode cX12_readAll 161 = .ok (.if_icmp .ne 5, 3) := by decide +kernel
theorem dX12_readAll_164 : decode cX12_readAll 164 = .ok (.iload_n 3, 1) := by decide +kernel
theorem dX12_readAll_165 : decode cX12_readAll 165 = .ok (.ireturn, 1) := by decide +kernel
theorem dX12_readAll_166 : decode cX12_readAll 166 = .ok (.iload_n 3, 1) := by decide +kernel
theorem dX12_readAll_167 : decode cX12_readAll 167 = .ok (.iload 4, 2) := by decide +kernel
theorem dX12_readAll_169 : decode cX12_readAll 169 = .ok (.ifCond .eq 7, 3) := by decide +kernel
theorem dX12_readAll_172 : decode cX12_readAll 172 = .ok (.iconst 1, 1) := by decide +kernel
theorem dX12_readAll_173 : decode cX12_readAll 173 = .ok (.goto 4, 3) := by decide +kernel
theorem dX12_readAll_176 : decode cX12_readAll 176 = .ok (.iconst 0, 1) := by decide +kernel
theorem dX12_readAll_177 : decode cX12_readAll 177 = .ok (.iadd, 1) := by decide +kernel
theorem dX12_readAll_178 : decode cX12_readAll 178 = .ok (.istore_n 3, 1) := by decide +kernel
theorem dX12_readAll_179 : decode cX12_readAll 179 = .ok (.goto (-169), 3) := by decide +kernel
theorem dX12_readAll_182 : decode cX12_readAll 182 = .ok (.iconst 0, 1) := by decide +kernel
theorem dX12_readAll_183 : decode cX12_readAll 183 = .ok (.istore 5, 2) := by decide +kernel
theorem dX12_readAll_185 : decode cX12_readAll 185 = .ok (.iload 5, 2) := by decide +kernel
theorem dX12_readAll_187 : decode cX12_readAll 187 = .ok (.iload_n 2, 1) := by decide +kernel
theorem dX12_readAll_188 : decode cX12_readAll 188 = .ok (.if_icmp .ge 39, 3) := by decide +kernel
theorem dX12_readAll_191 : decode cX12_readAll 191 = .ok (.aload_n 0, 1) := by decide +kernel
theorem dX12_readAll_192 : decode cX12_readAll 192 = .ok (.getfield 16, 3) := by decide +kernel
theorem dX12_readAll_195 : decode cX12_readAll 195 = .ok (.iload_n 1, 1) := by decide +kernel
theorem dX12_readAll_196 : decode cX12_readAll 196 = .ok (.iload 5, 2) := by decide +kernel
theorem dX12_readAll_198 : decode cX12_readAll 198 = .ok (.iadd, 1) := by decide +kernel
theorem dX12_readAll_199 : decode cX12_readAll 199 = .ok (.iaload, 1) := by decide +kernel
theorem dX12_readAll_200 : decode cX12_readAll 200 = .ok (.bipush 48, 2) := by decide +kernel
theorem dX12_readAll_202 : decode cX12_readAll 202 = .ok (.isub, 1) := by decide +kernel
theorem dX12_readAll_203 : decode cX12_readAll 203 = .ok (.istore 6, 2) := by decide +kernel
theorem dX12_readAll_205 : decode cX12_readAll 205 = .ok (.iload 6, 2) := by decide +kernel
theorem dX12_readAll_207 : decode cX12_readAll 207 = .ok (.aload_n 0, 1) := by decide +kernel
theorem dX12_readAll_208 : decode cX12_readAll 208 = .ok (.getfield 100, 3) := by decide +kernel
theorem dX12_readAll_211 : decode cX12_readAll 211 = .ok (.iconst 3, 1) := by decide +kernel
theorem dX12_readAll_212 : decode cX12_readAll 212 = .ok (.invokestatic 78, 3) := by decide +kernel
theorem dX12_readAll_215 : decode cX12_readAll 215 = .ok (.ifCond .eq 6, 3) := by decide +kernel
theorem dX12_readAll_218 : decode cX12_readAll 218 = .ok (.iload 5, 2) := by decide +kernel
theorem dX12_readAll_220 : decode cX12_readAll 220 = .ok (.ireturn, 1) := by decide +kernel
theorem dX12_readAll_221 : decode cX12_readAll 221 = .ok (.iinc 5 1, 3) := by decide +kernel
theorem dX12_readAll_224 : decode cX12_readAll 224 = .ok (.goto (-39), 3) := by decide +kernel
theorem dX12_readAll_227 : decode cX12_readAll 227 = .ok (.bipush (-9), 2) := by decide +kernel
theorem dX12_readAll_229 : decode cX12_readAll 229 = .ok (.ireturn, 1) := by decide +kernel
theorem dX12_of_0 : decode cX12_of 0 = .ok (.iload_n 0, 1) := by decide +kernel
theorem dX12_of_1 : decode cX12_of 1 = .ok (.iconst 4, 1) := by decide +kernel
theorem dX12_of_2 : decode cX12_of 2 = .ok (.iload_n 1, 1) := by decide +kernel
theorem dX12_of_3 : decode cX12_of 3 = .ok (.imul, 1) := by decide +kernel
theorem dX12_of_4 : decode cX12_of 4 = .ok (.ishr, 1) := by decide +kernel
theorem dX12_of_5 : decode cX12_of 5 = .ok (.bipush 15, 2) := by decide +kernel
theorem dX12_of_7 : decode cX12_of 7 = .ok (.iand, 1) := by decide +kernel
theorem dX12_of_8 : decode cX12_of 8 = .ok (.ireturn, 1) := by decide +kernel
theorem dX12_numbersOf_0 : decode cX12_numbersOf 0 = .ok (.iconst 0, 1) := by decide +kernel
theorem dX12_numbersOf_1 : decode cX12_numbersOf 1 = .ok (.istore_n 3, 1) := by decide +kernel
theorem dX12_numbersOf_2 : decode cX12_numbersOf 2 = .ok (.iconst 0, 1) := by decide +kernel
theorem dX12_numbersOf_3 : decode cX12_numbersOf 3 = .ok (.istore 4, 2) := by decide +kernel
theorem dX12_numbersOf_5 : decode cX12_numbersOf 5 = .ok (.iload 4, 2) := by decide +kernel
theorem dX12_numbersOf_7 : decode cX12_numbersOf 7 = .ok (.iconst 4, 1) := by decide +kernel
theorem dX12_numbersOf_8 : decode cX12_numbersOf 8 = .ok (.if_icmp .ge 38, 3) := by decide +kernel
theorem dX12_numbersOf_11 : decode cX12_numbersOf 11 = .ok (.iload_n 3, 1) := by decide +kernel
theorem dX12_numbersOf_12 : decode cX12_numbersOf 12 = .ok (.iload_n 1, 1) := by decide +kernel
theorem dX12_numbersOf_13 : decode cX12_numbersOf 13 = .ok (.iload_n 2, 1) := by decide +kernel
theorem dX12_numbersOf_14 : decode cX12_numbersOf 14 = .ok (.invokestatic 110, 3) := by decide +kernel
theorem dX12_numbersOf_17 : decode cX12_numbersOf 17 = .ok (.iload 4, 2) := by decide +kernel
theorem dX12_numbersOf_19 : decode cX12_numbersOf 19 = .ok (.invokestatic 106, 3) := by decide +kernel
theorem dX12_numbersOf_22 : decode cX12_numbersOf 22 = .ok (.ifCond .eq 15, 3) := by decide +kernel
theorem dX12_numbersOf_25 : decode cX12_numbersOf 25 = .ok (.aload_n 0, 1) := by decide +kernel
theorem dX12_numbersOf_26 : decode cX12_numbersOf 26 = .ok (.iload 4, 2) := by decide +kernel
theorem dX12_numbersOf_28 : decode cX12_numbersOf 28 = .ok (.iaload, 1) := by decide +kernel
theorem dX12_numbersOf_29 : decode cX12_numbersOf 29 = .ok (.iconst 1, 1) := by decide +kernel
theorem dX12_numbersOf_30 : decode cX12_numbersOf 30 = .ok (.iload 4, 2) := by decide +kernel
theorem dX12_numbersOf_32 : decode cX12_numbersOf 32 = .ok (.ishl, 1) := by decide +kernel
theorem dX12_numbersOf_33 : decode cX12_numbersOf 33 = .ok (.ior, 1) := by decide +kernel
theorem dX12_numbersOf_34 : decode cX12_numbersOf 34 = .ok (.goto 4, 3) := by decide +kernel
theorem dX12_numbersOf_37 : decode cX12_numbersOf 37 = .ok (.iconst 0, 1) := by decide +kernel
theorem dX12_numbersOf_38 : decode cX12_numbersOf 38 = .ok (.ior, 1) := by decide +kernel
theorem dX12_numbersOf_39 : decode cX12_numbersOf 39 = .ok (.istore_n 3, 1) := by decide +kernel
theorem dX12_numbersOf_40 : decode cX12_numbersOf 40 = .ok (.iinc 4 1, 3) := by decide +kernel
theorem dX12_numbersOf_43 : decode cX12_numbersOf 43 = .ok (.goto (-38), 3) := by decide +kernel
theorem dX12_numbersOf_46 : decode cX12_numbersOf 46 = .ok (.iload_n 3, 1) := by decide +kernel
theorem dX12_numbersOf_47 : decode cX12_numbersOf 47 = .ok (.ireturn, 1) := by decide +kernel
theorem dX12_afterCall_0 : decode cX12_afterCall 0 = .ok (.iload_n 0, 1) := by decide +kernel
theorem dX12_afterCall_1 : decode cX12_afterCall 1 = .ok (.iload_n 1, 1) := by decide +kernel
theorem dX12_afterCall_2 : decode cX12_afterCall 2 = .ok (.invokestatic 110, 3) := by decide +kernel
theorem dX12_afterCall_5 : decode cX12_afterCall 5 = .ok (.iload_n 0, 1) := by decide +kernel
theorem dX12_afterCall_6 : decode cX12_afterCall 6 = .ok (.iload_n 2, 1) := by decide +kernel
theorem dX12_afterCall_7 : decode cX12_afterCall 7 = .ok (.invokestatic 110, 3) := by decide +kernel
theorem dX12_afterCall_10 : decode cX12_afterCall 10 = .ok (.ior, 1) := by decide +kernel
theorem dX12_afterCall_11 : decode cX12_afterCall 11 = .ok (.istore_n 3, 1) := by decide +kernel
theorem dX12_afterCall_12 : decode cX12_afterCall 12 = .ok (.iload_n 0, 1) := by decide +kernel
theorem dX12_afterCall_13 : decode cX12_afterCall 13 = .ok (.iload_n 3, 1) := by decide +kernel
theorem dX12_afterCall_14 : decode cX12_afterCall 14 = .ok (.iconst 4, 1) := by decide +kernel
theorem dX12_afterCall_15 : decode cX12_afterCall 15 = .ok (.iload_n 1, 1) := by decide +kernel
theorem dX12_afterCall_16 : decode cX12_afterCall 16 = .ok (.imul, 1) := by decide +kernel
theorem dX12_afterCall_17 : decode cX12_afterCall 17 = .ok (.ishl, 1) := by decide +kernel
theorem dX12_afterCall_18 : decode cX12_afterCall 18 = .ok (.ior, 1) := by decide +kernel
theorem dX12_afterCall_19 : decode cX12_afterCall 19 = .ok (.iload_n 3, 1) := by decide +kernel
theorem dX12_afterCall_20 : decode cX12_afterCall 20 = .ok (.iconst 4, 1) := by decide +kernel
theorem dX12_afterCall_21 : decode cX12_afterCall 21 = .ok (.iload_n 2, 1) := by decide +kernel
theorem dX12_afterCall_22 : decode cX12_afterCall 22 = .ok (.imul, 1) := by decide +kernel
theorem dX12_afterCall_23 : decode cX12_afterCall 23 = .ok (.ishl, 1) := by decide +kernel
theorem dX12_afterCall_24 : decode cX12_afterCall 24 = .ok (.ior, 1) := by decide +kernel
theorem dX12_afterCall_25 : decode cX12_afterCall 25 = .ok (.ireturn, 1) := by decide +kernel
theorem dX12_startOf_0 : decode cX12_startOf 0 = .ok (.ldc 113, 2) := by decide +kernel
theorem dX12_startOf_2 : decode cX12_startOf 2 = .ok (.iconst 1, 1) := by decide +kernel
theorem dX12_startOf_3 : decode cX12_startOf 3 = .ok (.iconst 4, 1) := by decide +kernel
theorem dX12_startOf_4 : decode cX12_startOf 4 = .ok (.iload_n 1, 1) := by decide +kernel
theorem dX12_startOf_5 : decode cX12_startOf 5 = .ok (.imul, 1) := by decide +kernel
theorem dX12_startOf_6 : decode cX12_startOf 6 = .ok (.ishl, 1) := by decide +kernel
theorem dX12_startOf_7 : decode cX12_startOf 7 = .ok (.iconst 1, 1) := by decide +kernel
theorem dX12_startOf_8 : decode cX12_startOf 8 = .ok (.isub, 1) := by decide +kernel
theorem dX12_startOf_9 : decode cX12_startOf 9 = .ok (.iand, 1) := by decide +kernel
theorem dX12_startOf_10 : decode cX12_startOf 10 = .ok (.ireturn, 1) := by decide +kernel
theorem dX12_areExperts_0 : decode cX12_areExperts 0 = .ok (.iconst 0, 1) := by decide +kernel
theorem dX12_areExperts_1 : decode cX12_areExperts 1 = .ok (.istore_n 3, 1) := by decide +kernel
theorem dX12_areExperts_2 : decode cX12_areExperts 2 = .ok (.iload_n 3, 1) := by decide +kernel
theorem dX12_areExperts_3 : decode cX12_areExperts 3 = .ok (.iload_n 2, 1) := by decide +kernel
theorem dX12_areExperts_4 : decode cX12_areExperts 4 = .ok (.if_icmp .ge 24, 3) := by decide +kernel
theorem dX12_areExperts_7 : decode cX12_areExperts 7 = .ok (.iload_n 1, 1) := by decide +kernel
theorem dX12_areExperts_8 : decode cX12_areExperts 8 = .ok (.iload_n 3, 1) := by decide +kernel
theorem dX12_areExperts_9 : decode cX12_areExperts 9 = .ok (.invokestatic 110, 3) := by decide +kernel
theorem dX12_areExperts_12 : decode cX12_areExperts 12 = .ok (.iconst 1, 1) := by decide +kernel
theorem dX12_areExperts_13 : decode cX12_areExperts 13 = .ok (.iload_n 2, 1) := by decide +kernel
theorem dX12_areExperts_14 : decode cX12_areExperts 14 = .ok (.ishl, 1) := by decide +kernel
theorem dX12_areExperts_15 : decode cX12_areExperts 15 = .ok (.iconst 1, 1) := by decide +kernel
theorem dX12_areExperts_16 : decode cX12_areExperts 16 = .ok (.isub, 1) := by decide +kernel
theorem dX12_areExperts_17 : decode cX12_areExperts 17 = .ok (.if_icmp .eq 5, 3) := by decide +kernel
theorem dX12_areExperts_20 : decode cX12_areExperts 20 = .ok (.iconst 0, 1) := by decide +kernel
theorem dX12_areExperts_21 : decode cX12_areExperts 21 = .ok (.ireturn, 1) := by decide +kernel
theorem dX12_areExperts_22 : decode cX12_areExperts 22 = .ok (.iinc 3 1, 3) := by decide +kernel
theorem dX12_areExperts_25 : decode cX12_areExperts 25 = .ok (.goto (-23), 3) := by decide +kernel
theorem dX12_areExperts_28 : decode cX12_areExperts 28 = .ok (.iconst 1, 1) := by decide +kernel
theorem dX12_areExperts_29 : decode cX12_areExperts 29 = .ok (.ireturn, 1) := by decide +kernel
theorem dX12_stateAt_0 : decode cX12_stateAt 0 = .ok (.aload_n 0, 1) := by decide +kernel
theorem dX12_stateAt_1 : decode cX12_stateAt 1 = .ok (.aload_n 0, 1) := by decide +kernel
theorem dX12_stateAt_2 : decode cX12_stateAt 2 = .ok (.getfield 82, 3) := by decide +kernel
theorem dX12_stateAt_5 : decode cX12_stateAt 5 = .ok (.invokevirtual 114, 3) := by decide +kernel
theorem dX12_stateAt_8 : decode cX12_stateAt 8 = .ok (.istore_n 2, 1) := by decide +kernel
theorem dX12_stateAt_9 : decode cX12_stateAt 9 = .ok (.iconst 0, 1) := by decide +kernel
theorem dX12_stateAt_10 : decode cX12_stateAt 10 = .ok (.istore_n 3, 1) := by decide +kernel
theorem dX12_stateAt_11 : decode cX12_stateAt 11 = .ok (.iload_n 3, 1) := by decide +kernel
theorem dX12_stateAt_12 : decode cX12_stateAt 12 = .ok (.iload_n 1, 1) := by decide +kernel
theorem dX12_stateAt_13 : decode cX12_stateAt 13 = .ok (.if_icmp .ge 26, 3) := by decide +kernel
theorem dX12_stateAt_16 : decode cX12_stateAt 16 = .ok (.iload_n 2, 1) := by decide +kernel
theorem dX12_stateAt_17 : decode cX12_stateAt 17 = .ok (.aload_n 0, 1) := by decide +kernel
theorem dX12_stateAt_18 : decode cX12_stateAt 18 = .ok (.getfield 25, 3) := by decide +kernel
theorem dX12_stateAt_21 : decode cX12_stateAt 21 = .ok (.iload_n 3, 1) := by decide +kernel
theorem dX12_stateAt_22 : decode cX12_stateAt 22 = .ok (.iaload, 1) := by decide +kernel
theorem dX12_stateAt_23 : decode cX12_stateAt 23 = .ok (.aload_n 0, 1) := by decide +kernel
theorem dX12_stateAt_24 : decode cX12_stateAt 24 = .ok (.getfield 28, 3) := by decide +kernel
theorem dX12_stateAt_27 : decode cX12_stateAt 27 = .ok (.iload_n 3, 1) := by decide +kernel
theorem dX12_stateAt_28 : decode cX12_stateAt 28 = .ok (.iaload, 1) := by decide +kernel
theorem dX12_stateAt_29 : decode cX12_stateAt 29 = .ok (.invokestatic 117, 3) := by decide +kernel
theorem dX12_stateAt_32 : decode cX12_stateAt 32 = .ok (.istore_n 2, 1) := by decide +kernel
theorem dX12_stateAt_33 : decode cX12_stateAt 33 = .ok (.iinc 3 1, 3) := by decide +kernel
theorem dX12_stateAt_36 : decode cX12_stateAt 36 = .ok (.goto (-25), 3) := by decide +kernel
theorem dX12_stateAt_39 : decode cX12_stateAt 39 = .ok (.iload_n 2, 1) := by decide +kernel
theorem dX12_stateAt_40 : decode cX12_stateAt 40 = .ok (.ireturn, 1) := by decide +kernel
theorem dX12_tokensAfter_0 : decode cX12_tokensAfter 0 = .ok (.iload_n 1, 1) := by decide +kernel
theorem dX12_tokensAfter_1 : decode cX12_tokensAfter 1 = .ok (.iconst 2, 1) := by decide +kernel
theorem dX12_tokensAfter_2 : decode cX12_tokensAfter 2 = .ok (.if_icmp .ne 17, 3) := by decide +kernel
theorem dX12_tokensAfter_5 : decode cX12_tokensAfter 5 = .ok (.iload_n 0, 1) := by decide +kernel
theorem dX12_tokensAfter_6 : decode cX12_tokensAfter 6 = .ok (.iconst 1, 1) := by decide +kernel
theorem dX12_tokensAfter_7 : decode cX12_tokensAfter 7 = .ok (.iload_n 2, 1) := by decide +kernel
theorem dX12_tokensAfter_8 : decode cX12_tokensAfter 8 = .ok (.ishl, 1) := by decide +kernel
theorem dX12_tokensAfter_9 : decode cX12_tokensAfter 9 = .ok (.iconst (-1), 1) := by decide +kernel
theorem dX12_tokensAfter_10 : decode cX12_tokensAfter 10 = .ok (.ixor, 1) := by decide +kernel
theorem dX12_tokensAfter_11 : decode cX12_tokensAfter 11 = .ok (.iand, 1) := by decide +kernel
theorem dX12_tokensAfter_12 : decode cX12_tokensAfter 12 = .ok (.iconst 1, 1) := by decide +kernel
theorem dX12_tokensAfter_13 : decode cX12_tokensAfter 13 = .ok (.iload_n 3, 1) := by decide +kernel
theorem dX12_tokensAfter_14 : decode cX12_tokensAfter 14 = .ok (.ishl, 1) := by decide +kernel
theorem dX12_tokensAfter_15 : decode cX12_tokensAfter 15 = .ok (.ior, 1) := by decide +kernel
theorem dX12_tokensAfter_16 : decode cX12_tokensAfter 16 = .ok (.goto 19, 3) := by decide +kernel
theorem dX12_tokensAfter_19 : decode cX12_tokensAfter 19 = .ok (.iload_n 1, 1) := by decide +kernel
theorem dX12_tokensAfter_20 : decode cX12_tokensAfter 20 = .ok (.iconst 3, 1) := by decide +kernel
theorem dX12_tokensAfter_21 : decode cX12_tokensAfter 21 = .ok (.if_icmp .ne 13, 3) := by decide +kernel
theorem dX12_tokensAfter_24 : decode cX12_tokensAfter 24 = .ok (.iload_n 0, 1) := by decide +kernel
theorem dX12_tokensAfter_25 : decode cX12_tokensAfter 25 = .ok (.iconst 1, 1) := by decide +kernel
theorem dX12_tokensAfter_26 : decode cX12_tokensAfter 26 = .ok (.iload_n 3, 1) := by decide +kernel
theorem dX12_tokensAfter_27 : decode cX12_tokensAfter 27 = .ok (.ishl, 1) := by decide +kernel
theorem dX12_tokensAfter_28 : decode cX12_tokensAfter 28 = .ok (.iconst (-1), 1) := by decide +kernel
theorem dX12_tokensAfter_29 : decode cX12_tokensAfter 29 = .ok (.ixor, 1) := by decide +kernel
theorem dX12_tokensAfter_30 : decode cX12_tokensAfter 30 = .ok (.iand, 1) := by decide +kernel
theorem dX12_tokensAfter_31 : decode cX12_tokensAfter 31 = .ok (.goto 4, 3) := by decide +kernel
theorem dX12_tokensAfter_34 : decode cX12_tokensAfter 34 = .ok (.iload_n 0, 1) := by decide +kernel
theorem dX12_tokensAfter_35 : decode cX12_tokensAfter 35 = .ok (.ireturn, 1) := by decide +kernel
theorem dX12_tokensNow_0 : decode cX12_tokensNow 0 = .ok (.iconst 1, 1) := by decide +kernel
theorem dX12_tokensNow_1 : decode cX12_tokensNow 1 = .ok (.aload_n 0, 1) := by decide +kernel
theorem dX12_tokensNow_2 : decode cX12_tokensNow 2 = .ok (.getfield 82, 3) := by decide +kernel
theorem dX12_tokensNow_5 : decode cX12_tokensNow 5 = .ok (.ishl, 1) := by decide +kernel
theorem dX12_tokensNow_6 : decode cX12_tokensNow 6 = .ok (.iconst 1, 1) := by decide +kernel
theorem dX12_tokensNow_7 : decode cX12_tokensNow 7 = .ok (.isub, 1) := by decide +kernel
theorem dX12_tokensNow_8 : decode cX12_tokensNow 8 = .ok (.istore_n 2, 1) := by decide +kernel
theorem dX12_tokensNow_9 : decode cX12_tokensNow 9 = .ok (.iconst 0, 1) := by decide +kernel
theorem dX12_tokensNow_10 : decode cX12_tokensNow 10 = .ok (.istore_n 3, 1) := by decide +kernel
theorem dX12_tokensNow_11 : decode cX12_tokensNow 11 = .ok (.iload_n 3, 1) := by decide +kernel
theorem dX12_tokensNow_12 : decode cX12_tokensNow 12 = .ok (.aload_n 0, 1) := by decide +kernel
theorem dX12_tokensNow_13 : decode cX12_tokensNow 13 = .ok (.getfield 103, 3) := by decide +kernel
theorem dX12_tokensNow_16 : decode cX12_tokensNow 16 = .ok (.if_icmp .ge 27, 3) := by decide +kernel
theorem dX12_tokensNow_19 : decode cX12_tokensNow 19 = .ok (.iload_n 2, 1) := by decide +kernel
theorem dX12_tokensNow_20 : decode cX12_tokensNow 20 = .ok (.iload_n 1, 1) := by decide +kernel
theorem dX12_tokensNow_21 : decode cX12_tokensNow 21 = .ok (.aload_n 0, 1) := by decide +kernel
theorem dX12_tokensNow_22 : decode cX12_tokensNow 22 = .ok (.getfield 25, 3) := by decide +kernel
theorem dX12_tokensNow_25 : decode cX12_tokensNow 25 = .ok (.iload_n 3, 1) := by decide +kernel
theorem dX12_tokensNow_26 : decode cX12_tokensNow 26 = .ok (.iaload, 1) := by decide +kernel
theorem dX12_tokensNow_27 : decode cX12_tokensNow 27 = .ok (.aload_n 0, 1) := by decide +kernel
theorem dX12_tokensNow_28 : decode cX12_tokensNow 28 = .ok (.getfield 28, 3) := by decide +kernel
theorem dX12_tokensNow_31 : decode cX12_tokensNow 31 = .ok (.iload_n 3, 1) := by decide +kernel
theorem dX12_tokensNow_32 : decode cX12_tokensNow 32 = .ok (.iaload, 1) := by decide +kernel
theorem dX12_tokensNow_33 : decode cX12_tokensNow 33 = .ok (.invokestatic 121, 3) := by decide +kernel
theorem dX12_tokensNow_36 : decode cX12_tokensNow 36 = .ok (.istore_n 2, 1) := by decide +kernel
theorem dX12_tokensNow_37 : decode cX12_tokensNow 37 = .ok (.iinc 3 1, 3) := by decide +kernel
theorem dX12_tokensNow_40 : decode cX12_tokensNow 40 = .ok (.goto (-29), 3) := by decide +kernel
theorem dX12_tokensNow_43 : decode cX12_tokensNow 43 = .ok (.iload_n 2, 1) := by decide +kernel
theorem dX12_tokensNow_44 : decode cX12_tokensNow 44 = .ok (.ireturn, 1) := by decide +kernel
theorem dX12_ofPerson_0 : decode cX12_ofPerson 0 = .ok (.aload_n 0, 1) := by decide +kernel
theorem dX12_ofPerson_1 : decode cX12_ofPerson 1 = .ok (.iload_n 1, 1) := by decide +kernel
theorem dX12_ofPerson_2 : decode cX12_ofPerson 2 = .ok (.invokevirtual 125, 3) := by decide +kernel
theorem dX12_ofPerson_5 : decode cX12_ofPerson 5 = .ok (.ifCond .ne 5, 3) := by decide +kernel
theorem dX12_ofPerson_8 : decode cX12_ofPerson 8 = .ok (.iconst (-1), 1) := by decide +kernel
theorem dX12_ofPerson_9 : decode cX12_ofPerson 9 = .ok (.ireturn, 1) := by decide +kernel
theorem dX12_ofPerson_10 : decode cX12_ofPerson 10 = .ok (.aload_n 0, 1) := by decide +kernel
theorem dX12_ofPerson_11 : decode cX12_ofPerson 11 = .ok (.aload_n 0, 1) := by decide +kernel
theorem dX12_ofPerson_12 : decode cX12_ofPerson 12 = .ok (.getfield 103, 3) := by decide +kernel
theorem dX12_ofPerson_15 : decode cX12_ofPerson 15 = .ok (.invokevirtual 128, 3) := by decide +kernel
theorem dX12_ofPerson_18 : decode cX12_ofPerson 18 = .ok (.istore_n 3, 1) := by decide +kernel
theorem dX12_ofPerson_19 : decode cX12_ofPerson 19 = .ok (.iload_n 2, 1) := by decide +kernel
theorem dX12_ofPerson_20 : decode cX12_ofPerson 20 = .ok (.tableswitch 109 0 5 #[40, 46, 56, 67, 89, 99], 40) := by decide +kernel
theorem dX12_ofPerson_60 : decode cX12_ofPerson 60 = .ok (.iload_n 3, 1) := by decide +kernel
theorem dX12_ofPerson_61 : decode cX12_ofPerson 61 = .ok (.iload_n 1, 1) := by decide +kernel
theorem dX12_ofPerson_62 : decode cX12_ofPerson 62 = .ok (.invokestatic 110, 3) := by decide +kernel
theorem dX12_ofPerson_65 : decode cX12_ofPerson 65 = .ok (.ireturn, 1) := by decide +kernel
theorem dX12_ofPerson_66 : decode cX12_ofPerson 66 = .ok (.aload_n 0, 1) := by decide +kernel
theorem dX12_ofPerson_67 : decode cX12_ofPerson 67 = .ok (.getfield 19, 3) := by decide +kernel
theorem dX12_ofPerson_70 : decode cX12_ofPerson 70 = .ok (.iload_n 3, 1) := by decide +kernel
theorem dX12_ofPerson_71 : decode cX12_ofPerson 71 = .ok (.iload_n 1, 1) := by decide +kernel
theorem dX12_ofPerson_72 : decode cX12_ofPerson 72 = .ok (.invokestatic 131, 3) := by decide +kernel
theorem dX12_ofPerson_75 : decode cX12_ofPerson 75 = .ok (.ireturn, 1) := by decide +kernel
theorem dX12_ofPerson_76 : decode cX12_ofPerson 76 = .ok (.aload_n 0, 1) := by decide +kernel
theorem dX12_ofPerson_77 : decode cX12_ofPerson 77 = .ok (.getfield 19, 3) := by decide +kernel
theorem dX12_ofPerson_80 : decode cX12_ofPerson 80 = .ok (.iload_n 1, 1) := by decide +kernel
theorem dX12_ofPerson_81 : decode cX12_ofPerson 81 = .ok (.iaload, 1) := by decide +kernel
theorem dX12_ofPerson_82 : decode cX12_ofPerson 82 = .ok (.iconst 1, 1) := by decide +kernel
theorem dX12_ofPerson_83 : decode cX12_ofPerson 83 = .ok (.iload_n 1, 1) := by decide +kernel
theorem dX12_ofPerson_84 : decode cX12_ofPerson 84 = .ok (.ishl, 1) := by decide +kernel
theorem dX12_ofPerson_85 : decode cX12_ofPerson 85 = .ok (.ior, 1) := by decide +kernel
theorem dX12_ofPerson_86 : decode cX12_ofPerson 86 = .ok (.ireturn, 1) := by decide +kernel
theorem dX12_ofPerson_87 : decode cX12_ofPerson 87 = .ok (.iload_n 3, 1) := by decide +kernel
theorem dX12_ofPerson_88 : decode cX12_ofPerson 88 = .ok (.iload_n 1, 1) := by decide +kernel
theorem dX12_ofPerson_89 : decode cX12_ofPerson 89 = .ok (.invokestatic 110, 3) := by decide +kernel
theorem dX12_ofPerson_92 : decode cX12_ofPerson 92 = .ok (.iconst 1, 1) := by decide +kernel
theorem dX12_ofPerson_93 : decode cX12_ofPerson 93 = .ok (.aload_n 0, 1) := by decide +kernel
theorem dX12_ofPerson_94 : decode cX12_ofPerson 94 = .ok (.getfield 82, 3) := by decide +kernel
theorem dX12_ofPerson_97 : decode cX12_ofPerson 97 = .ok (.ishl, 1) := by decide +kernel
theorem dX12_ofPerson_98 : decode cX12_ofPerson 98 = .ok (.iconst 1, 1) := by decide +kernel
theorem dX12_ofPerson_99 : decode cX12_ofPerson 99 = .ok (.isub, 1) := by decide +kernel
theorem dX12_ofPerson_100 : decode cX12_ofPerson 100 = .ok (.if_icmp .ne 7, 3) := by decide +kernel
theorem dX12_ofPerson_103 : decode cX12_ofPerson 103 = .ok (.iconst 1, 1) := by decide +kernel
theorem dX12_ofPerson_104 : decode cX12_ofPerson 104 = .ok (.goto 4, 3) := by decide +kernel
theorem dX12_ofPerson_107 : decode cX12_ofPerson 107 = .ok (.iconst 0, 1) := by decide +kernel
theorem dX12_ofPerson_108 : decode cX12_ofPerson 108 = .ok (.ireturn, 1) := by decide +kernel
theorem dX12_ofPerson_109 : decode cX12_ofPerson 109 = .ok (.aload_n 0, 1) := by decide +kernel
theorem dX12_ofPerson_110 : decode cX12_ofPerson 110 = .ok (.iconst 2, 1) := by decide +kernel
theorem dX12_ofPerson_111 : decode cX12_ofPerson 111 = .ok (.invokevirtual 135, 3) := by decide +kernel
theorem dX12_ofPerson_114 : decode cX12_ofPerson 114 = .ok (.iload_n 1, 1) := by decide +kernel
theorem dX12_ofPerson_115 : decode cX12_ofPerson 115 = .ok (.ishr, 1) := by decide +kernel
theorem dX12_ofPerson_116 : decode cX12_ofPerson 116 = .ok (.iconst 1, 1) := by decide +kernel
theorem dX12_ofPerson_117 : decode cX12_ofPerson 117 = .ok (.iand, 1) := by decide +kernel
theorem dX12_ofPerson_118 : decode cX12_ofPerson 118 = .ok (.ireturn, 1) := by decide +kernel
theorem dX12_ofPerson_119 : decode cX12_ofPerson 119 = .ok (.aload_n 0, 1) := by decide +kernel
theorem dX12_ofPerson_120 : decode cX12_ofPerson 120 = .ok (.iconst 3, 1) := by decide +kernel
theorem dX12_ofPerson_121 : decode cX12_ofPerson 121 = .ok (.invokevirtual 135, 3) := by decide +kernel
theorem dX12_ofPerson_124 : decode cX12_ofPerson 124 = .ok (.iload_n 1, 1) := by decide +kernel
theorem dX12_ofPerson_125 : decode cX12_ofPerson 125 = .ok (.ishr, 1) := by decide +kernel
theorem dX12_ofPerson_126 : decode cX12_ofPerson 126 = .ok (.iconst 1, 1) := by decide +kernel
theorem dX12_ofPerson_127 : decode cX12_ofPerson 127 = .ok (.iand, 1) := by decide +kernel
theorem dX12_ofPerson_128 : decode cX12_ofPerson 128 = .ok (.ireturn, 1) := by decide +kernel
theorem dX12_ofPerson_129 : decode cX12_ofPerson 129 = .ok (.bipush (-2), 2) := by decide +kernel
theorem dX12_ofPerson_131 : decode cX12_ofPerson 131 = .ok (.ireturn, 1) := by decide +kernel
theorem dX12_call_0 : decode cX12_call 0 = .ok (.aload_n 0, 1) := by decide +kernel
theorem dX12_call_1 : decode cX12_call 1 = .ok (.iload_n 1, 1) := by decide +kernel
theorem dX12_call_2 : decode cX12_call 2 = .ok (.invokevirtual 125, 3) := by decide +kernel
theorem dX12_call_5 : decode cX12_call 5 = .ok (.ifCond .eq 11, 3) := by decide +kernel
theorem dX12_call_8 : decode cX12_call 8 = .ok (.aload_n 0, 1) := by decide +kernel
theorem dX12_call_9 : decode cX12_call 9 = .ok (.iload_n 2, 1) := by decide +kernel
theorem dX12_call_10 : decode cX12_call 10 = .ok (.invokevirtual 125, 3) := by decide +kernel
theorem dX12_call_13 : decode cX12_call 13 = .ok (.ifCond .ne 5, 3) := by decide +kernel
theorem dX12_call_16 : decode cX12_call 16 = .ok (.iconst (-1), 1) := by decide +kernel
theorem dX12_call_17 : decode cX12_call 17 = .ok (.ireturn, 1) := by decide +kernel
theorem dX12_call_18 : decode cX12_call 18 = .ok (.iload_n 1, 1) := by decide +kernel
theorem dX12_call_19 : decode cX12_call 19 = .ok (.iload_n 2, 1) := by decide +kernel
theorem dX12_call_20 : decode cX12_call 20 = .ok (.if_icmp .ne 6, 3) := by decide +kernel
theorem dX12_call_23 : decode cX12_call 23 = .ok (.bipush (-2), 2) := by decide +kernel
theorem dX12_call_25 : decode cX12_call 25 = .ok (.ireturn, 1) := by decide +kernel
theorem dX12_call_26 : decode cX12_call 26 = .ok (.aload_n 0, 1) := by decide +kernel
theorem dX12_call_27 : decode cX12_call 27 = .ok (.getfield 19, 3) := by decide +kernel
theorem dX12_call_30 : decode cX12_call 30 = .ok (.aload_n 0, 1) := by decide +kernel
theorem dX12_call_31 : decode cX12_call 31 = .ok (.aload_n 0, 1) := by decide +kernel
theorem dX12_call_32 : decode cX12_call 32 = .ok (.getfield 103, 3) := by decide +kernel
theorem dX12_call_35 : decode cX12_call 35 = .ok (.invokevirtual 128, 3) := by decide +kernel
theorem dX12_call_38 : decode cX12_call 38 = .ok (.iload_n 1, 1) := by decide +kernel
theorem dX12_call_39 : decode cX12_call 39 = .ok (.invokestatic 131, 3) := by decide +kernel
theorem dX12_call_42 : decode cX12_call 42 = .ok (.iload_n 2, 1) := by decide +kernel
theorem dX12_call_43 : decode cX12_call 43 = .ok (.invokestatic 106, 3) := by decide +kernel
theorem dX12_call_46 : decode cX12_call 46 = .ok (.ifCond .ne 6, 3) := by decide +kernel
theorem dX12_call_49 : decode cX12_call 49 = .ok (.bipush (-3), 2) := by decide +kernel
theorem dX12_call_51 : decode cX12_call 51 = .ok (.ireturn, 1) := by decide +kernel
theorem dX12_call_52 : decode cX12_call 52 = .ok (.aload_n 0, 1) := by decide +kernel
theorem dX12_call_53 : decode cX12_call 53 = .ok (.getfield 103, 3) := by decide +kernel
theorem dX12_call_56 : decode cX12_call 56 = .ok (.bipush 12, 2) := by decide +kernel
theorem dX12_call_58 : decode cX12_call 58 = .ok (.if_icmp .ne 6, 3) := by decide +kernel
theorem dX12_call_61 : decode cX12_call 61 = .ok (.bipush (-4), 2) := by decide +kernel
theorem dX12_call_63 : decode cX12_call 63 = .ok (.ireturn, 1) := by decide +kernel
theorem dX12_call_64 : decode cX12_call 64 = .ok (.aload_n 0, 1) := by decide +kernel
theorem dX12_call_65 : decode cX12_call 65 = .ok (.getfield 25, 3) := by decide +kernel
theorem dX12_call_68 : decode cX12_call 68 = .ok (.aload_n 0, 1) := by decide +kernel
theorem dX12_call_69 : decode cX12_call 69 = .ok (.getfield 103, 3) := by decide +kernel
theorem dX12_call_72 : decode cX12_call 72 = .ok (.iload_n 1, 1) := by decide +kernel
theorem dX12_call_73 : decode cX12_call 73 = .ok (.iastore, 1) := by decide +kernel
theorem dX12_call_74 : decode cX12_call 74 = .ok (.aload_n 0, 1) := by decide +kernel
theorem dX12_call_75 : decode cX12_call 75 = .ok (.getfield 28, 3) := by decide +kernel
theorem dX12_call_78 : decode cX12_call 78 = .ok (.aload_n 0, 1) := by decide +kernel
theorem dX12_call_79 : decode cX12_call 79 = .ok (.getfield 103, 3) := by decide +kernel
theorem dX12_call_82 : decode cX12_call 82 = .ok (.iload_n 2, 1) := by decide +kernel
theorem dX12_call_83 : decode cX12_call 83 = .ok (.iastore, 1) := by decide +kernel
theorem dX12_call_84 : decode cX12_call 84 = .ok (.aload_n 0, 1) := by decide +kernel
theorem dX12_call_85 : decode cX12_call 85 = .ok (.dup, 1) := by decide +kernel
theorem dX12_call_86 : decode cX12_call 86 = .ok (.getfield 103, 3) := by decide +kernel
theorem dX12_call_89 : decode cX12_call 89 = .ok (.iconst 1, 1) := by decide +kernel
theorem dX12_call_90 : decode cX12_call 90 = .ok (.iadd, 1) := by decide +kernel
theorem dX12_call_91 : decode cX12_call 91 = .ok (.putfield 103, 3) := by decide +kernel
theorem dX12_call_94 : decode cX12_call 94 = .ok (.aload_n 0, 1) := by decide +kernel
theorem dX12_call_95 : decode cX12_call 95 = .ok (.getfield 103, 3) := by decide +kernel
theorem dX12_call_98 : decode cX12_call 98 = .ok (.iconst 1, 1) := by decide +kernel
theorem dX12_call_99 : decode cX12_call 99 = .ok (.isub, 1) := by decide +kernel
theorem dX12_call_100 : decode cX12_call 100 = .ok (.ireturn, 1) := by decide +kernel
theorem dX12_isCall_0 : decode cX12_isCall 0 = .ok (.iload_n 1, 1) := by decide +kernel
theorem dX12_isCall_1 : decode cX12_isCall 1 = .ok (.ifCond .lt 15, 3) := by decide +kernel
theorem dX12_isCall_4 : decode cX12_isCall 4 = .ok (.iload_n 1, 1) := by decide +kernel
theorem dX12_isCall_5 : decode cX12_isCall 5 = .ok (.aload_n 0, 1) := by decide +kernel
theorem dX12_isCall_6 : decode cX12_isCall 6 = .ok (.getfield 103, 3) := by decide +kernel
theorem dX12_isCall_9 : decode cX12_isCall 9 = .ok (.if_icmp .ge 7, 3) := by decide +kernel
theorem dX12_isCall_12 : decode cX12_isCall 12 = .ok (.iconst 1, 1) := by decide +kernel
theorem dX12_isCall_13 : decode cX12_isCall 13 = .ok (.goto 4, 3) := by decide +kernel
theorem dX12_isCall_16 : decode cX12_isCall 16 = .ok (.iconst 0, 1) := by decide +kernel
theorem dX12_isCall_17 : decode cX12_isCall 17 = .ok (.ireturn, 1) := by decide +kernel
theorem dX12_learnt_0 : decode cX12_learnt 0 = .ok (.aload_n 0, 1) := by decide +kernel
theorem dX12_learnt_1 : decode cX12_learnt 1 = .ok (.iload_n 1, 1) := by decide +kernel
theorem dX12_learnt_2 : decode cX12_learnt 2 = .ok (.iconst 1, 1) := by decide +kernel
theorem dX12_learnt_3 : decode cX12_learnt 3 = .ok (.iadd, 1) := by decide +kernel
theorem dX12_learnt_4 : decode cX12_learnt 4 = .ok (.invokevirtual 128, 3) := by decide +kernel
theorem dX12_learnt_7 : decode cX12_learnt 7 = .ok (.iload_n 2, 1) := by decide +kernel
theorem dX12_learnt_8 : decode cX12_learnt 8 = .ok (.invokestatic 110, 3) := by decide +kernel
theorem dX12_learnt_11 : decode cX12_learnt 11 = .ok (.aload_n 0, 1) := by decide +kernel
theorem dX12_learnt_12 : decode cX12_learnt 12 = .ok (.iload_n 1, 1) := by decide +kernel
theorem dX12_learnt_13 : decode cX12_learnt 13 = .ok (.invokevirtual 128, 3) := by decide +kernel
theorem dX12_learnt_16 : decode cX12_learnt 16 = .ok (.iload_n 2, 1) := by decide +kernel
theorem dX12_learnt_17 : decode cX12_learnt 17 = .ok (.invokestatic 110, 3) := by decide +kernel
theorem dX12_learnt_20 : decode cX12_learnt 20 = .ok (.iconst (-1), 1) := by decide +kernel
theorem dX12_learnt_21 : decode cX12_learnt 21 = .ok (.ixor, 1) := by decide +kernel
theorem dX12_learnt_22 : decode cX12_learnt 22 = .ok (.iand, 1) := by decide +kernel
theorem dX12_learnt_23 : decode cX12_learnt 23 = .ok (.ireturn, 1) := by decide +kernel
theorem dX12_kindOf_0 : decode cX12_kindOf 0 = .ok (.aload_n 0, 1) := by decide +kernel
theorem dX12_kindOf_1 : decode cX12_kindOf 1 = .ok (.iload_n 1, 1) := by decide +kernel
theorem dX12_kindOf_2 : decode cX12_kindOf 2 = .ok (.aload_n 0, 1) := by decide +kernel
theorem dX12_kindOf_3 : decode cX12_kindOf 3 = .ok (.getfield 25, 3) := by decide +kernel
theorem dX12_kindOf_6 : decode cX12_kindOf 6 = .ok (.iload_n 1, 1) := by decide +kernel
theorem dX12_kindOf_7 : decode cX12_kindOf 7 = .ok (.iaload, 1) := by decide +kernel
theorem dX12_kindOf_8 : decode cX12_kindOf 8 = .ok (.invokevirtual 138, 3) := by decide +kernel
theorem dX12_kindOf_11 : decode cX12_kindOf 11 = .ok (.invokestatic 141, 3) := by decide +kernel
theorem dX12_kindOf_14 : decode cX12_kindOf 14 = .ok (.aload_n 0, 1) := by decide +kernel
theorem dX12_kindOf_15 : decode cX12_kindOf 15 = .ok (.iload_n 1, 1) := by decide +kernel
theorem dX12_kindOf_16 : decode cX12_kindOf 16 = .ok (.aload_n 0, 1) := by decide +kernel
theorem dX12_kindOf_17 : decode cX12_kindOf 17 = .ok (.getfield 28, 3) := by decide +kernel
theorem dX12_kindOf_20 : decode cX12_kindOf 20 = .ok (.iload_n 1, 1) := by decide +kernel
theorem dX12_kindOf_21 : decode cX12_kindOf 21 = .ok (.iaload, 1) := by decide +kernel
theorem dX12_kindOf_22 : decode cX12_kindOf 22 = .ok (.invokevirtual 138, 3) := by decide +kernel
theorem dX12_kindOf_25 : decode cX12_kindOf 25 = .ok (.invokestatic 141, 3) := by decide +kernel
theorem dX12_kindOf_28 : decode cX12_kindOf 28 = .ok (.iadd, 1) := by decide +kernel
theorem dX12_kindOf_29 : decode cX12_kindOf 29 = .ok (.istore_n 2, 1) := by decide +kernel
theorem dX12_kindOf_30 : decode cX12_kindOf 30 = .ok (.aload_n 0, 1) := by decide +kernel
theorem dX12_kindOf_31 : decode cX12_kindOf 31 = .ok (.iload_n 1, 1) := by decide +kernel
theorem dX12_kindOf_32 : decode cX12_kindOf 32 = .ok (.iconst 1, 1) := by decide +kernel
theorem dX12_kindOf_33 : decode cX12_kindOf 33 = .ok (.iadd, 1) := by decide +kernel
theorem dX12_kindOf_34 : decode cX12_kindOf 34 = .ok (.invokevirtual 128, 3) := by decide +kernel
theorem dX12_kindOf_37 : decode cX12_kindOf 37 = .ok (.aload_n 0, 1) := by decide +kernel
theorem dX12_kindOf_38 : decode cX12_kindOf 38 = .ok (.getfield 25, 3) := by decide +kernel
theorem dX12_kindOf_41 : decode cX12_kindOf 41 = .ok (.iload_n 1, 1) := by decide +kernel
theorem dX12_kindOf_42 : decode cX12_kindOf 42 = .ok (.iaload, 1) := by decide +kernel
theorem dX12_kindOf_43 : decode cX12_kindOf 43 = .ok (.invokestatic 110, 3) := by decide +kernel
theorem dX12_kindOf_46 : decode cX12_kindOf 46 = .ok (.iconst 1, 1) := by decide +kernel
theorem dX12_kindOf_47 : decode cX12_kindOf 47 = .ok (.aload_n 0, 1) := by decide +kernel
theorem dX12_kindOf_48 : decode cX12_kindOf 48 = .ok (.getfield 82, 3) := by decide +kernel
theorem dX12_kindOf_51 : decode cX12_kindOf 51 = .ok (.ishl, 1) := by decide +kernel
theorem dX12_kindOf_52 : decode cX12_kindOf 52 = .ok (.iconst 1, 1) := by decide +kernel
theorem dX12_kindOf_53 : decode cX12_kindOf 53 = .ok (.isub, 1) := by decide +kernel
theorem dX12_kindOf_54 : decode cX12_kindOf 54 = .ok (.if_icmp .ne 7, 3) := by decide +kernel
theorem dX12_kindOf_57 : decode cX12_kindOf 57 = .ok (.iconst 1, 1) := by decide +kernel
theorem dX12_kindOf_58 : decode cX12_kindOf 58 = .ok (.goto 4, 3) := by decide +kernel
theorem dX12_kindOf_61 : decode cX12_kindOf 61 = .ok (.iconst 0, 1) := by decide +kernel
theorem dX12_kindOf_62 : decode cX12_kindOf 62 = .ok (.istore_n 3, 1) := by decide +kernel
theorem dX12_kindOf_63 : decode cX12_kindOf 63 = .ok (.iload_n 2, 1) := by decide +kernel
theorem dX12_kindOf_64 : decode cX12_kindOf 64 = .ok (.ifCond .ne 7, 3) := by decide +kernel
theorem dX12_kindOf_67 : decode cX12_kindOf 67 = .ok (.iconst 0, 1) := by decide +kernel
theorem dX12_kindOf_68 : decode cX12_kindOf 68 = .ok (.goto 12, 3) := by decide +kernel
theorem dX12_kindOf_71 : decode cX12_kindOf 71 = .ok (.iload_n 3, 1) := by decide +kernel
theorem dX12_kindOf_72 : decode cX12_kindOf 72 = .ok (.ifCond .eq 7, 3) := by decide +kernel
theorem dX12_kindOf_75 : decode cX12_kindOf 75 = .ok (.iconst 2, 1) := by decide +kernel
theorem dX12_kindOf_76 : decode cX12_kindOf 76 = .ok (.goto 4, 3) := by decide +kernel
theorem dX12_kindOf_79 : decode cX12_kindOf 79 = .ok (.iconst 1, 1) := by decide +kernel
theorem dX12_kindOf_80 : decode cX12_kindOf 80 = .ok (.ireturn, 1) := by decide +kernel
theorem dX12_ofCall_0 : decode cX12_ofCall 0 = .ok (.aload_n 0, 1) := by decide +kernel
theorem dX12_ofCall_1 : decode cX12_ofCall 1 = .ok (.iload_n 1, 1) := by decide +kernel
theorem dX12_ofCall_2 : decode cX12_ofCall 2 = .ok (.invokevirtual 144, 3) := by decide +kernel
theorem dX12_ofCall_5 : decode cX12_ofCall 5 = .ok (.ifCond .ne 5, 3) := by decide +kernel
theorem dX12_ofCall_8 : decode cX12_ofCall 8 = .ok (.iconst (-1), 1) := by decide +kernel
theorem dX12_ofCall_9 : decode cX12_ofCall 9 = .ok (.ireturn, 1) := by decide +kernel
theorem dX12_ofCall_10 : decode cX12_ofCall 10 = .ok (.iload_n 2, 1) := by decide +kernel
theorem dX12_ofCall_11 : decode cX12_ofCall 11 = .ok (.tableswitch 77 0 4 #[33, 39, 46, 53, 65], 33) := by decide +kernel
theorem dX12_ofCall_44 : decode cX12_ofCall 44 = .ok (.aload_n 0, 1) := by decide +kernel
theorem dX12_ofCall_45 : decode cX12_ofCall 45 = .ok (.iload_n 1, 1) := by decide +kernel
theorem dX12_ofCall_46 : decode cX12_ofCall 46 = .ok (.invokevirtual 147, 3) := by decide +kernel
theorem dX12_ofCall_49 : decode cX12_ofCall 49 = .ok (.ireturn, 1) := by decide +kernel
theorem dX12_ofCall_50 : decode cX12_ofCall 50 = .ok (.aload_n 0, 1) := by decide +kernel
theorem dX12_ofCall_51 : decode cX12_ofCall 51 = .ok (.getfield 25, 3) := by decide +kernel
theorem dX12_ofCall_54 : decode cX12_ofCall 54 = .ok (.iload_n 1, 1) := by decide +kernel
theorem dX12_ofCall_55 : decode cX12_ofCall 55 = .ok (.iaload, 1) := by decide +kernel
theorem dX12_ofCall_56 : decode cX12_ofCall 56 = .ok (.ireturn, 1) := by decide +kernel
theorem dX12_ofCall_57 : decode cX12_ofCall 57 = .ok (.aload_n 0, 1) := by decide +kernel
theorem dX12_ofCall_58 : decode cX12_ofCall 58 = .ok (.getfield 28, 3) := by decide +kernel
theorem dX12_ofCall_61 : decode cX12_ofCall 61 = .ok (.iload_n 1, 1) := by decide +kernel
theorem dX12_ofCall_62 : decode cX12_ofCall 62 = .ok (.iaload, 1) := by decide +kernel
theorem dX12_ofCall_63 : decode cX12_ofCall 63 = .ok (.ireturn, 1) := by decide +kernel
theorem dX12_ofCall_64 : decode cX12_ofCall 64 = .ok (.aload_n 0, 1) := by decide +kernel
theorem dX12_ofCall_65 : decode cX12_ofCall 65 = .ok (.iload_n 1, 1) := by decide +kernel
theorem dX12_ofCall_66 : decode cX12_ofCall 66 = .ok (.aload_n 0, 1) := by decide +kernel
theorem dX12_ofCall_67 : decode cX12_ofCall 67 = .ok (.getfield 25, 3) := by decide +kernel
theorem dX12_ofCall_70 : decode cX12_ofCall 70 = .ok (.iload_n 1, 1) := by decide +kernel
theorem dX12_ofCall_71 : decode cX12_ofCall 71 = .ok (.iaload, 1) := by decide +kernel
theorem dX12_ofCall_72 : decode cX12_ofCall 72 = .ok (.invokevirtual 138, 3) := by decide +kernel
theorem dX12_ofCall_75 : decode cX12_ofCall 75 = .ok (.ireturn, 1) := by decide +kernel
theorem dX12_ofCall_76 : decode cX12_ofCall 76 = .ok (.aload_n 0, 1) := by decide +kernel
theorem dX12_ofCall_77 : decode cX12_ofCall 77 = .ok (.iload_n 1, 1) := by decide +kernel
theorem dX12_ofCall_78 : decode cX12_ofCall 78 = .ok (.aload_n 0, 1) := by decide +kernel
theorem dX12_ofCall_79 : decode cX12_ofCall 79 = .ok (.getfield 28, 3) := by decide +kernel
theorem dX12_ofCall_82 : decode cX12_ofCall 82 = .ok (.iload_n 1, 1) := by decide +kernel
theorem dX12_ofCall_83 : decode cX12_ofCall 83 = .ok (.iaload, 1) := by decide +kernel
theorem dX12_ofCall_84 : decode cX12_ofCall 84 = .ok (.invokevirtual 138, 3) := by decide +kernel
theorem dX12_ofCall_87 : decode cX12_ofCall 87 = .ok (.ireturn, 1) := by decide +kernel
theorem dX12_ofCall_88 : decode cX12_ofCall 88 = .ok (.bipush (-2), 2) := by decide +kernel
theorem dX12_ofCall_90 : decode cX12_ofCall 90 = .ok (.ireturn, 1) := by decide +kernel
theorem dX12_back_0 : decode cX12_back 0 = .ok (.aload_n 0, 1) := by decide +kernel
theorem dX12_back_1 : decode cX12_back 1 = .ok (.getfield 103, 3) := by decide +kernel
theorem dX12_back_4 : decode cX12_back 4 = .ok (.ifCond .ne 6, 3) := by decide +kernel
theorem dX12_back_7 : decode cX12_back 7 = .ok (.bipush (-3), 2) := by decide +kernel
theorem dX12_back_9 : decode cX12_back 9 = .ok (.ireturn, 1) := by decide +kernel
theorem dX12_back_10 : decode cX12_back 10 = .ok (.aload_n 0, 1) := by decide +kernel
theorem dX12_back_11 : decode cX12_back 11 = .ok (.dup, 1) := by decide +kernel
theorem dX12_back_12 : decode cX12_back 12 = .ok (.getfield 103, 3) := by decide +kernel
theorem dX12_back_15 : decode cX12_back 15 = .ok (.iconst 1, 1) := by decide +kernel
theorem dX12_back_16 : decode cX12_back 16 = .ok (.isub, 1) := by decide +kernel
theorem dX12_back_17 : decode cX12_back 17 = .ok (.putfield 103, 3) := by decide +kernel
theorem dX12_back_20 : decode cX12_back 20 = .ok (.aload_n 0, 1) := by decide +kernel
theorem dX12_back_21 : decode cX12_back 21 = .ok (.getfield 103, 3) := by decide +kernel
theorem dX12_back_24 : decode cX12_back 24 = .ok (.ireturn, 1) := by decide +kernel
theorem dX12_mayRing_0 : decode cX12_mayRing 0 = .ok (.iload 4, 2) := by decide +kernel
theorem dX12_mayRing_2 : decode cX12_mayRing 2 = .ok (.iload 5, 2) := by decide +kernel
theorem dX12_mayRing_4 : decode cX12_mayRing 4 = .ok (.if_icmp .eq 18, 3) := by decide +kernel
theorem dX12_mayRing_7 : decode cX12_mayRing 7 = .ok (.aload_n 0, 1) := by decide +kernel
theorem dX12_mayRing_8 : decode cX12_mayRing 8 = .ok (.iload_n 2, 1) := by decide +kernel
theorem dX12_mayRing_9 : decode cX12_mayRing 9 = .ok (.iload 4, 2) := by decide +kernel
theorem dX12_mayRing_11 : decode cX12_mayRing 11 = .ok (.invokestatic 131, 3) := by decide +kernel
theorem dX12_mayRing_14 : decode cX12_mayRing 14 = .ok (.iload 5, 2) := by decide +kernel
theorem dX12_mayRing_16 : decode cX12_mayRing 16 = .ok (.invokestatic 106, 3) := by decide +kernel
theorem dX12_mayRing_19 : decode cX12_mayRing 19 = .ok (.ifCond .ne 5, 3) := by decide +kernel
theorem dX12_mayRing_22 : decode cX12_mayRing 22 = .ok (.iconst 0, 1) := by decide +kernel
theorem dX12_mayRing_23 : decode cX12_mayRing 23 = .ok (.ireturn, 1) := by decide +kernel
theorem dX12_mayRing_24 : decode cX12_mayRing 24 = .ok (.iload_n 1, 1) := by decide +kernel
theorem dX12_mayRing_25 : decode cX12_mayRing 25 = .ok (.iconst 1, 1) := by decide +kernel
theorem dX12_mayRing_26 : decode cX12_mayRing 26 = .ok (.if_icmp .ne 23, 3) := by decide +kernel
theorem dX12_mayRing_29 : decode cX12_mayRing 29 = .ok (.iload_n 2, 1) := by decide +kernel
theorem dX12_mayRing_30 : decode cX12_mayRing 30 = .ok (.iload 4, 2) := by decide +kernel
theorem dX12_mayRing_32 : decode cX12_mayRing 32 = .ok (.invokestatic 110, 3) := by decide +kernel
theorem dX12_mayRing_35 : decode cX12_mayRing 35 = .ok (.iload 5, 2) := by decide +kernel
theorem dX12_mayRing_37 : decode cX12_mayRing 37 = .ok (.invokestatic 106, 3) := by decide +kernel
theorem dX12_mayRing_40 : decode cX12_mayRing 40 = .ok (.ifCond .ne 7, 3) := by decide +kernel
theorem dX12_mayRing_43 : decode cX12_mayRing 43 = .ok (.iconst 1, 1) := by decide +kernel
theorem dX12_mayRing_44 : decode cX12_mayRing 44 = .ok (.goto 4, 3) := by decide +kernel
theorem dX12_mayRing_47 : decode cX12_mayRing 47 = .ok (.iconst 0, 1) := by decide +kernel
theorem dX12_mayRing_48 : decode cX12_mayRing 48 = .ok (.ireturn, 1) := by decide +kernel
theorem dX12_mayRing_49 : decode cX12_mayRing 49 = .ok (.iload_n 2, 1) := by decide +kernel
theorem dX12_mayRing_50 : decode cX12_mayRing 50 = .ok (.iload 4, 2) := by decide +kernel
theorem dX12_mayRing_52 : decode cX12_mayRing 52 = .ok (.invokestatic 110, 3) := by decide +kernel
theorem dX12_mayRing_55 : decode cX12_mayRing 55 = .ok (.iload_n 2, 1) := by decide +kernel
theorem dX12_mayRing_56 : decode cX12_mayRing 56 = .ok (.iload 5, 2) := by decide +kernel
theorem dX12_mayRing_58 : decode cX12_mayRing 58 = .ok (.invokestatic 110, 3) := by decide +kernel
theorem dX12_mayRing_61 : decode cX12_mayRing 61 = .ok (.if_icmp .eq 20, 3) := by decide +kernel
theorem dX12_mayRing_64 : decode cX12_mayRing 64 = .ok (.iload_n 1, 1) := by decide +kernel
theorem dX12_mayRing_65 : decode cX12_mayRing 65 = .ok (.ifCond .eq 12, 3) := by decide +kernel
theorem dX12_mayRing_68 : decode cX12_mayRing 68 = .ok (.iload_n 3, 1) := by decide +kernel
theorem dX12_mayRing_69 : decode cX12_mayRing 69 = .ok (.iload 4, 2) := by decide +kernel
theorem dX12_mayRing_71 : decode cX12_mayRing 71 = .ok (.invokestatic 106, 3) := by decide +kernel
theorem dX12_mayRing_74 : decode cX12_mayRing 74 = .ok (.ifCond .eq 7, 3) := by decide +kernel
theorem dX12_mayRing_77 : decode cX12_mayRing 77 = .ok (.iconst 1, 1) := by decide +kernel
theorem dX12_mayRing_78 : decode cX12_mayRing 78 = .ok (.goto 4, 3) := by decide +kernel
theorem dX12_mayRing_81 : decode cX12_mayRing 81 = .ok (.iconst 0, 1) := by decide +kernel
theorem dX12_mayRing_82 : decode cX12_mayRing 82 = .ok (.ireturn, 1) := by decide +kernel
theorem dX12_may_0 : decode cX12_may 0 = .ok (.iload_n 1, 1) := by decide +kernel
theorem dX12_may_1 : decode cX12_may 1 = .ok (.invokestatic 150, 3) := by decide +kernel
theorem dX12_may_4 : decode cX12_may 4 = .ok (.ifCond .eq 11, 3) := by decide +kernel
theorem dX12_may_7 : decode cX12_may 7 = .ok (.aload_n 0, 1) := by decide +kernel
theorem dX12_may_8 : decode cX12_may 8 = .ok (.iload_n 2, 1) := by decide +kernel
theorem dX12_may_9 : decode cX12_may 9 = .ok (.invokevirtual 125, 3) := by decide +kernel
theorem dX12_may_12 : decode cX12_may 12 = .ok (.ifCond .ne 5, 3) := by decide +kernel
theorem dX12_may_15 : decode cX12_may 15 = .ok (.iconst (-1), 1) := by decide +kernel
theorem dX12_may_16 : decode cX12_may 16 = .ok (.ireturn, 1) := by decide +kernel
theorem dX12_may_17 : decode cX12_may 17 = .ok (.iconst 0, 1) := by decide +kernel
theorem dX12_may_18 : decode cX12_may 18 = .ok (.istore_n 3, 1) := by decide +kernel
theorem dX12_may_19 : decode cX12_may 19 = .ok (.iconst 0, 1) := by decide +kernel
theorem dX12_may_20 : decode cX12_may 20 = .ok (.istore 4, 2) := by decide +kernel
theorem dX12_may_22 : decode cX12_may 22 = .ok (.iload 4, 2) := by decide +kernel
theorem dX12_may_24 : decode cX12_may 24 = .ok (.aload_n 0, 1) := by decide +kernel
theorem dX12_may_25 : decode cX12_may 25 = .ok (.getfield 82, 3) := by decide +kernel
theorem dX12_may_28 : decode cX12_may 28 = .ok (.if_icmp .ge 47, 3) := by decide +kernel
theorem dX12_may_31 : decode cX12_may 31 = .ok (.iload_n 3, 1) := by decide +kernel
theorem dX12_may_32 : decode cX12_may 32 = .ok (.aload_n 0, 1) := by decide +kernel
theorem dX12_may_33 : decode cX12_may 33 = .ok (.getfield 19, 3) := by decide +kernel
theorem dX12_may_36 : decode cX12_may 36 = .ok (.iload_n 1, 1) := by decide +kernel
theorem dX12_may_37 : decode cX12_may 37 = .ok (.aload_n 0, 1) := by decide +kernel
theorem dX12_may_38 : decode cX12_may 38 = .ok (.aload_n 0, 1) := by decide +kernel
theorem dX12_may_39 : decode cX12_may 39 = .ok (.getfield 103, 3) := by decide +kernel
theorem dX12_may_42 : decode cX12_may 42 = .ok (.invokevirtual 128, 3) := by decide +kernel
theorem dX12_may_45 : decode cX12_may 45 = .ok (.aload_n 0, 1) := by decide +kernel
theorem dX12_may_46 : decode cX12_may 46 = .ok (.iload_n 1, 1) := by decide +kernel
theorem dX12_may_47 : decode cX12_may 47 = .ok (.invokevirtual 135, 3) := by decide +kernel
theorem dX12_may_50 : decode cX12_may 50 = .ok (.iload_n 2, 1) := by decide +kernel
theorem dX12_may_51 : decode cX12_may 51 = .ok (.iload 4, 2) := by decide +kernel
theorem dX12_may_53 : decode cX12_may 53 = .ok (.invokestatic 153, 3) := by decide +kernel
theorem dX12_may_56 : decode cX12_may 56 = .ok (.ifCond .eq 10, 3) := by decide +kernel
theorem dX12_may_59 : decode cX12_may 59 = .ok (.iconst 1, 1) := by decide +kernel
theorem dX12_may_60 : decode cX12_may 60 = .ok (.iload 4, 2) := by decide +kernel
theorem dX12_may_62 : decode cX12_may 62 = .ok (.ishl, 1) := by decide +kernel
theorem dX12_may_63 : decode cX12_may 63 = .ok (.goto 4, 3) := by decide +kernel
theorem dX12_may_66 : decode cX12_may 66 = .ok (.iconst 0, 1) := by decide +kernel
theorem dX12_may_67 : decode cX12_may 67 = .ok (.ior, 1) := by decide +kernel
theorem dX12_may_68 : decode cX12_may 68 = .ok (.istore_n 3, 1) := by decide +kernel
theorem dX12_may_69 : decode cX12_may 69 = .ok (.iinc 4 1, 3) := by decide +kernel
theorem dX12_may_72 : decode cX12_may 72 = .ok (.goto (-50), 3) := by decide +kernel
theorem dX12_may_75 : decode cX12_may 75 = .ok (.iload_n 3, 1) := by decide +kernel
theorem dX12_may_76 : decode cX12_may 76 = .ok (.ireturn, 1) := by decide +kernel
theorem dX12_placeOf_0 : decode cX12_placeOf 0 = .ok (.iload_n 1, 1) := by decide +kernel
theorem dX12_placeOf_1 : decode cX12_placeOf 1 = .ok (.istore_n 2, 1) := by decide +kernel
theorem dX12_placeOf_2 : decode cX12_placeOf 2 = .ok (.iconst 0, 1) := by decide +kernel
theorem dX12_placeOf_3 : decode cX12_placeOf 3 = .ok (.istore_n 3, 1) := by decide +kernel
theorem dX12_placeOf_4 : decode cX12_placeOf 4 = .ok (.iload_n 3, 1) := by decide +kernel
theorem dX12_placeOf_5 : decode cX12_placeOf 5 = .ok (.iconst 4, 1) := by decide +kernel
theorem dX12_placeOf_6 : decode cX12_placeOf 6 = .ok (.if_icmp .ge 46, 3) := by decide +kernel
theorem dX12_placeOf_9 : decode cX12_placeOf 9 = .ok (.iload_n 0, 1) := by decide +kernel
theorem dX12_placeOf_10 : decode cX12_placeOf 10 = .ok (.iload_n 3, 1) := by decide +kernel
theorem dX12_placeOf_11 : decode cX12_placeOf 11 = .ok (.invokestatic 110, 3) := by decide +kernel
theorem dX12_placeOf_14 : decode cX12_placeOf 14 = .ok (.istore 4, 2) := by decide +kernel
theorem dX12_placeOf_16 : decode cX12_placeOf 16 = .ok (.iload 4, 2) := by decide +kernel
theorem dX12_placeOf_18 : decode cX12_placeOf 18 = .ok (.iconst 1, 1) := by decide +kernel
theorem dX12_placeOf_19 : decode cX12_placeOf 19 = .ok (.iload_n 3, 1) := by decide +kernel
theorem dX12_placeOf_20 : decode cX12_placeOf 20 = .ok (.ishl, 1) := by decide +kernel
theorem dX12_placeOf_21 : decode cX12_placeOf 21 = .ok (.iconst 1, 1) := by decide +kernel
theorem dX12_placeOf_22 : decode cX12_placeOf 22 = .ok (.isub, 1) := by decide +kernel
theorem dX12_placeOf_23 : decode cX12_placeOf 23 = .ok (.iand, 1) := by decide +kernel
theorem dX12_placeOf_24 : decode cX12_placeOf 24 = .ok (.istore 5, 2) := by decide +kernel
theorem dX12_placeOf_26 : decode cX12_placeOf 26 = .ok (.iload 4, 2) := by decide +kernel
theorem dX12_placeOf_28 : decode cX12_placeOf 28 = .ok (.iload_n 3, 1) := by decide +kernel
theorem dX12_placeOf_29 : decode cX12_placeOf 29 = .ok (.iconst 1, 1) := by decide +kernel
theorem dX12_placeOf_30 : decode cX12_placeOf 30 = .ok (.iadd, 1) := by decide +kernel
theorem dX12_placeOf_31 : decode cX12_placeOf 31 = .ok (.ishr, 1) := by decide +kernel
theorem dX12_placeOf_32 : decode cX12_placeOf 32 = .ok (.iload_n 3, 1) := by decide +kernel
theorem dX12_placeOf_33 : decode cX12_placeOf 33 = .ok (.ishl, 1) := by decide +kernel
theorem dX12_placeOf_34 : decode cX12_placeOf 34 = .ok (.istore 6, 2) := by decide +kernel
theorem dX12_placeOf_36 : decode cX12_placeOf 36 = .ok (.iload_n 2, 1) := by decide +kernel
theorem dX12_placeOf_37 : decode cX12_placeOf 37 = .ok (.iconst 3, 1) := by decide +kernel
theorem dX12_placeOf_38 : decode cX12_placeOf 38 = .ok (.ishl, 1) := by decide +kernel
theorem dX12_placeOf_39 : decode cX12_placeOf 39 = .ok (.iload 5, 2) := by decide +kernel
theorem dX12_placeOf_41 : decode cX12_placeOf 41 = .ok (.ior, 1) := by decide +kernel
theorem dX12_placeOf_42 : decode cX12_placeOf 42 = .ok (.iload 6, 2) := by decide +kernel
theorem dX12_placeOf_44 : decode cX12_placeOf 44 = .ok (.ior, 1) := by decide +kernel
theorem dX12_placeOf_45 : decode cX12_placeOf 45 = .ok (.istore_n 2, 1) := by decide +kernel
theorem dX12_placeOf_46 : decode cX12_placeOf 46 = .ok (.iinc 3 1, 3) := by decide +kernel
theorem dX12_placeOf_49 : decode cX12_placeOf 49 = .ok (.goto (-45), 3) := by decide +kernel
theorem dX12_placeOf_52 : decode cX12_placeOf 52 = .ok (.iload_n 2, 1) := by decide +kernel
theorem dX12_placeOf_53 : decode cX12_placeOf 53 = .ok (.ldc 157, 2) := by decide +kernel
theorem dX12_placeOf_55 : decode cX12_placeOf 55 = .ok (.iand, 1) := by decide +kernel
theorem dX12_placeOf_56 : decode cX12_placeOf 56 = .ok (.ireturn, 1) := by decide +kernel
theorem dX12_open_0 : decode cX12_open 0 = .ok (.aload_n 0, 1) := by decide +kernel
theorem dX12_open_1 : decode cX12_open 1 = .ok (.getfield 48, 3) := by decide +kernel
theorem dX12_open_4 : decode cX12_open 4 = .ok (.iload_n 1, 1) := by decide +kernel
theorem dX12_open_5 : decode cX12_open 5 = .ok (.iload_n 2, 1) := by decide +kernel
theorem dX12_open_6 : decode cX12_open 6 = .ok (.iastore, 1) := by decide +kernel
theorem dX12_open_7 : decode cX12_open 7 = .ok (.aload_n 0, 1) := by decide +kernel
theorem dX12_open_8 : decode cX12_open 8 = .ok (.getfield 51, 3) := by decide +kernel
theorem dX12_open_11 : decode cX12_open 11 = .ok (.iload_n 1, 1) := by decide +kernel
theorem dX12_open_12 : decode cX12_open 12 = .ok (.iload_n 3, 1) := by decide +kernel
theorem dX12_open_13 : decode cX12_open 13 = .ok (.iastore, 1) := by decide +kernel
theorem dX12_open_14 : decode cX12_open 14 = .ok (.aload_n 0, 1) := by decide +kernel
theorem dX12_open_15 : decode cX12_open 15 = .ok (.getfield 54, 3) := by decide +kernel
theorem dX12_open_18 : decode cX12_open 18 = .ok (.iload_n 1, 1) := by decide +kernel
theorem dX12_open_19 : decode cX12_open 19 = .ok (.iconst 0, 1) := by decide +kernel
theorem dX12_open_20 : decode cX12_open 20 = .ok (.iastore, 1) := by decide +kernel
theorem dX12_open_21 : decode cX12_open 21 = .ok (.iload_n 2, 1) := by decide +kernel
theorem dX12_open_22 : decode cX12_open 22 = .ok (.iload_n 3, 1) := by decide +kernel
theorem dX12_open_23 : decode cX12_open 23 = .ok (.invokestatic 158, 3) := by decide +kernel
theorem dX12_open_26 : decode cX12_open 26 = .ok (.istore 4, 2) := by decide +kernel
theorem dX12_open_28 : decode cX12_open 28 = .ok (.aload_n 0, 1) := by decide +kernel
theorem dX12_open_29 : decode cX12_open 29 = .ok (.getfield 35, 3) := by decide +kernel
theorem dX12_open_32 : decode cX12_open 32 = .ok (.iload 4, 2) := by decide +kernel
theorem dX12_open_34 : decode cX12_open 34 = .ok (.lconst 0, 1) := by decide +kernel
theorem dX12_open_35 : decode cX12_open 35 = .ok (.lastore, 1) := by decide +kernel
theorem dX12_open_36 : decode cX12_open 36 = .ok (.aload_n 0, 1) := by decide +kernel
theorem dX12_open_37 : decode cX12_open 37 = .ok (.getfield 39, 3) := by decide +kernel
theorem dX12_open_40 : decode cX12_open 40 = .ok (.iload 4, 2) := by decide +kernel
theorem dX12_open_42 : decode cX12_open 42 = .ok (.lconst 0, 1) := by decide +kernel
theorem dX12_open_43 : decode cX12_open 43 = .ok (.lastore, 1) := by decide +kernel
theorem dX12_open_44 : decode cX12_open 44 = .ok (.aload_n 0, 1) := by decide +kernel
theorem dX12_open_45 : decode cX12_open 45 = .ok (.getfield 42, 3) := by decide +kernel
theorem dX12_open_48 : decode cX12_open 48 = .ok (.iload 4, 2) := by decide +kernel
theorem dX12_open_50 : decode cX12_open 50 = .ok (.sipush 1000, 3) := by decide +kernel
theorem dX12_open_53 : decode cX12_open 53 = .ok (.iastore, 1) := by decide +kernel
theorem dX12_open_54 : decode cX12_open 54 = .ok (.aload_n 0, 1) := by decide +kernel
theorem dX12_open_55 : decode cX12_open 55 = .ok (.getfield 45, 3) := by decide +kernel
theorem dX12_open_58 : decode cX12_open 58 = .ok (.iload 4, 2) := by decide +kernel
theorem dX12_open_60 : decode cX12_open 60 = .ok (.iconst (-1), 1) := by decide +kernel
theorem dX12_open_61 : decode cX12_open 61 = .ok (.iastore, 1) := by decide +kernel
theorem dX12_open_62 : decode cX12_open 62 = .ok (.return_, 1) := by decide +kernel
theorem dX12_add_0 : decode cX12_add 0 = .ok (.aload_n 0, 1) := by decide +kernel
theorem dX12_add_1 : decode cX12_add 1 = .ok (.getfield 35, 3) := by decide +kernel
theorem dX12_add_4 : decode cX12_add 4 = .ok (.iload_n 1, 1) := by decide +kernel
theorem dX12_add_5 : decode cX12_add 5 = .ok (.dup2, 1) := by decide +kernel
theorem dX12_add_6 : decode cX12_add 6 = .ok (.laload, 1) := by decide +kernel
theorem dX12_add_7 : decode cX12_add 7 = .ok (.aload_n 0, 1) := by decide +kernel
theorem dX12_add_8 : decode cX12_add 8 = .ok (.getfield 35, 3) := by decide +kernel
theorem dX12_add_11 : decode cX12_add 11 = .ok (.iload_n 2, 1) := by decide +kernel
theorem dX12_add_12 : decode cX12_add 12 = .ok (.laload, 1) := by decide +kernel
theorem dX12_add_13 : decode cX12_add 13 = .ok (.ladd, 1) := by decide +kernel
theorem dX12_add_14 : decode cX12_add 14 = .ok (.lastore, 1) := by decide +kernel
theorem dX12_add_15 : decode cX12_add 15 = .ok (.aload_n 0, 1) := by decide +kernel
theorem dX12_add_16 : decode cX12_add 16 = .ok (.getfield 39, 3) := by decide +kernel
theorem dX12_add_19 : decode cX12_add 19 = .ok (.iload_n 1, 1) := by decide +kernel
theorem dX12_add_20 : decode cX12_add 20 = .ok (.dup2, 1) := by decide +kernel
theorem dX12_add_21 : decode cX12_add 21 = .ok (.laload, 1) := by decide +kernel
theorem dX12_add_22 : decode cX12_add 22 = .ok (.aload_n 0, 1) := by decide +kernel
theorem dX12_add_23 : decode cX12_add 23 = .ok (.getfield 39, 3) := by decide +kernel
theorem dX12_add_26 : decode cX12_add 26 = .ok (.iload_n 2, 1) := by decide +kernel
theorem dX12_add_27 : decode cX12_add 27 = .ok (.laload, 1) := by decide +kernel
theorem dX12_add_28 : decode cX12_add 28 = .ok (.ladd, 1) := by decide +kernel
theorem dX12_add_29 : decode cX12_add 29 = .ok (.lastore, 1) := by decide +kernel
theorem dX12_add_30 : decode cX12_add 30 = .ok (.aload_n 0, 1) := by decide +kernel
theorem dX12_add_31 : decode cX12_add 31 = .ok (.getfield 39, 3) := by decide +kernel
theorem dX12_add_34 : decode cX12_add 34 = .ok (.iload_n 2, 1) := by decide +kernel
theorem dX12_add_35 : decode cX12_add 35 = .ok (.laload, 1) := by decide +kernel
theorem dX12_add_36 : decode cX12_add 36 = .ok (.lconst 0, 1) := by decide +kernel
theorem dX12_add_37 : decode cX12_add 37 = .ok (.lcmp, 1) := by decide +kernel
theorem dX12_add_38 : decode cX12_add 38 = .ok (.ifCond .le 83, 3) := by decide +kernel
theorem dX12_add_41 : decode cX12_add 41 = .ok (.aload_n 0, 1) := by decide +kernel
theorem dX12_add_42 : decode cX12_add 42 = .ok (.getfield 42, 3) := by decide +kernel
theorem dX12_add_45 : decode cX12_add 45 = .ok (.iload_n 1, 1) := by decide +kernel
theorem dX12_add_46 : decode cX12_add 46 = .ok (.aload_n 0, 1) := by decide +kernel
theorem dX12_add_47 : decode cX12_add 47 = .ok (.getfield 42, 3) := by decide +kernel
theorem dX12_add_50 : decode cX12_add 50 = .ok (.iload_n 2, 1) := by decide +kernel
theorem dX12_add_51 : decode cX12_add 51 = .ok (.iaload, 1) := by decide +kernel
theorem dX12_add_52 : decode cX12_add 52 = .ok (.iconst 1, 1) := by decide +kernel
theorem dX12_add_53 : decode cX12_add 53 = .ok (.iadd, 1) := by decide +kernel
theorem dX12_add_54 : decode cX12_add 54 = .ok (.aload_n 0, 1) := by decide +kernel
theorem dX12_add_55 : decode cX12_add 55 = .ok (.getfield 42, 3) := by decide +kernel
theorem dX12_add_58 : decode cX12_add 58 = .ok (.iload_n 1, 1) := by decide +kernel
theorem dX12_add_59 : decode cX12_add 59 = .ok (.iaload, 1) := by decide +kernel
theorem dX12_add_60 : decode cX12_add 60 = .ok (.if_icmp .ge 14, 3) := by decide +kernel
theorem dX12_add_63 : decode cX12_add 63 = .ok (.aload_n 0, 1) := by decide +kernel
theorem dX12_add_64 : decode cX12_add 64 = .ok (.getfield 42, 3) := by decide +kernel
theorem dX12_add_67 : decode cX12_add 67 = .ok (.iload_n 2, 1) := by decide +kernel
theorem dX12_add_68 : decode cX12_add 68 = .ok (.iaload, 1) := by decide +kernel
theorem dX12_add_69 : decode cX12_add 69 = .ok (.iconst 1, 1) := by decide +kernel
theorem dX12_add_70 : decode cX12_add 70 = .ok (.iadd, 1) := by decide +kernel
theorem dX12_add_71 : decode cX12_add 71 = .ok (.goto 9, 3) := by decide +kernel
theorem dX12_add_74 : decode cX12_add 74 = .ok (.aload_n 0, 1) := by decide +kernel
theorem dX12_add_75 : decode cX12_add 75 = .ok (.getfield 42, 3) := by decide +kernel
theorem dX12_add_78 : decode cX12_add 78 = .ok (.iload_n 1, 1) := by decide +kernel
theorem dX12_add_79 : decode cX12_add 79 = .ok (.iaload, 1) := by decide +kernel
theorem dX12_add_80 : decode cX12_add 80 = .ok (.iastore, 1) := by decide +kernel
theorem dX12_add_81 : decode cX12_add 81 = .ok (.aload_n 0, 1) := by decide +kernel
theorem dX12_add_82 : decode cX12_add 82 = .ok (.getfield 45, 3) := by decide +kernel
theorem dX12_add_85 : decode cX12_add 85 = .ok (.iload_n 1, 1) := by decide +kernel
theorem dX12_add_86 : decode cX12_add 86 = .ok (.aload_n 0, 1) := by decide +kernel
theorem dX12_add_87 : decode cX12_add 87 = .ok (.getfield 45, 3) := by decide +kernel
theorem dX12_add_90 : decode cX12_add 90 = .ok (.iload_n 2, 1) := by decide +kernel
theorem dX12_add_91 : decode cX12_add 91 = .ok (.iaload, 1) := by decide +kernel
theorem dX12_add_92 : decode cX12_add 92 = .ok (.iconst 1, 1) := by decide +kernel
theorem dX12_add_93 : decode cX12_add 93 = .ok (.iadd, 1) := by decide +kernel
theorem dX12_add_94 : decode cX12_add 94 = .ok (.aload_n 0, 1) := by decide +kernel
theorem dX12_add_95 : decode cX12_add 95 = .ok (.getfield 45, 3) := by decide +kernel
theorem dX12_add_98 : decode cX12_add 98 = .ok (.iload_n 1, 1) := by decide +kernel
theorem dX12_add_99 : decode cX12_add 99 = .ok (.iaload, 1) := by decide +kernel
theorem dX12_add_100 : decode cX12_add 100 = .ok (.if_icmp .le 14, 3) := by decide +kernel
theorem dX12_add_103 : decode cX12_add 103 = .ok (.aload_n 0, 1) := by decide +kernel
theorem dX12_add_104 : decode cX12_add 104 = .ok (.getfield 45, 3) := by decide +kernel
theorem dX12_add_107 : decode cX12_add 107 = .ok (.iload_n 2, 1) := by decide +kernel
theorem dX12_add_108 : decode cX12_add 108 = .ok (.iaload, 1) := by decide +kernel
theorem dX12_add_109 : decode cX12_add 109 = .ok (.iconst 1, 1) := by decide +kernel
theorem dX12_add_110 : decode cX12_add 110 = .ok (.iadd, 1) := by decide +kernel
theorem dX12_add_111 : decode cX12_add 111 = .ok (.goto 9, 3) := by decide +kernel
theorem dX12_add_114 : decode cX12_add 114 = .ok (.aload_n 0, 1) := by decide +kernel
theorem dX12_add_115 : decode cX12_add 115 = .ok (.getfield 45, 3) := by decide +kernel
theorem dX12_add_118 : decode cX12_add 118 = .ok (.iload_n 1, 1) := by decide +kernel
theorem dX12_add_119 : decode cX12_add 119 = .ok (.iaload, 1) := by decide +kernel
theorem dX12_add_120 : decode cX12_add 120 = .ok (.iastore, 1) := by decide +kernel
theorem dX12_add_121 : decode cX12_add 121 = .ok (.return_, 1) := by decide +kernel
theorem dX12_close_0 : decode cX12_close 0 = .ok (.aload_n 0, 1) := by decide +kernel
theorem dX12_close_1 : decode cX12_close 1 = .ok (.getfield 32, 3) := by decide +kernel
theorem dX12_close_4 : decode cX12_close 4 = .ok (.iload_n 1, 1) := by decide +kernel
theorem dX12_close_5 : decode cX12_close 5 = .ok (.aload_n 0, 1) := by decide +kernel
theorem dX12_close_6 : decode cX12_close 6 = .ok (.getfield 161, 3) := by decide +kernel
theorem dX12_close_9 : decode cX12_close 9 = .ok (.iastore, 1) := by decide +kernel
theorem dX12_close_10 : decode cX12_close 10 = .ok (.aload_n 0, 1) := by decide +kernel
theorem dX12_close_11 : decode cX12_close 11 = .ok (.getfield 35, 3) := by decide +kernel
theorem dX12_close_14 : decode cX12_close 14 = .ok (.iload_n 1, 1) := by decide +kernel
theorem dX12_close_15 : decode cX12_close 15 = .ok (.laload, 1) := by decide +kernel
theorem dX12_close_16 : decode cX12_close 16 = .ok (.lconst 0, 1) := by decide +kernel
theorem dX12_close_17 : decode cX12_close 17 = .ok (.lcmp, 1) := by decide +kernel
theorem dX12_close_18 : decode cX12_close 18 = .ok (.ifCond .ne 67, 3) := by decide +kernel
theorem dX12_close_21 : decode cX12_close 21 = .ok (.aload_n 0, 1) := by decide +kernel
theorem dX12_close_22 : decode cX12_close 22 = .ok (.iload_n 2, 1) := by decide +kernel
theorem dX12_close_23 : decode cX12_close 23 = .ok (.aload_n 0, 1) := by decide +kernel
theorem dX12_close_24 : decode cX12_close 24 = .ok (.getfield 164, 3) := by decide +kernel
theorem dX12_close_27 : decode cX12_close 27 = .ok (.invokevirtual 167, 3) := by decide +kernel
theorem dX12_close_30 : decode cX12_close 30 = .ok (.istore_n 3, 1) := by decide +kernel
theorem dX12_close_31 : decode cX12_close 31 = .ok (.aload_n 0, 1) := by decide +kernel
theorem dX12_close_32 : decode cX12_close 32 = .ok (.getfield 35, 3) := by decide +kernel
theorem dX12_close_35 : decode cX12_close 35 = .ok (.iload_n 1, 1) := by decide +kernel
theorem dX12_close_36 : decode cX12_close 36 = .ok (.lconst 1, 1) := by decide +kernel
theorem dX12_close_37 : decode cX12_close 37 = .ok (.lastore, 1) := by decide +kernel
theorem dX12_close_38 : decode cX12_close 38 = .ok (.aload_n 0, 1) := by decide +kernel
theorem dX12_close_39 : decode cX12_close 39 = .ok (.getfield 39, 3) := by decide +kernel
theorem dX12_close_42 : decode cX12_close 42 = .ok (.iload_n 1, 1) := by decide +kernel
theorem dX12_close_43 : decode cX12_close 43 = .ok (.iload_n 3, 1) := by decide +kernel
theorem dX12_close_44 : decode cX12_close 44 = .ok (.ifCond .eq 7, 3) := by decide +kernel
theorem dX12_close_47 : decode cX12_close 47 = .ok (.lconst 1, 1) := by decide +kernel
theorem dX12_close_48 : decode cX12_close 48 = .ok (.goto 4, 3) := by decide +kernel
theorem dX12_close_51 : decode cX12_close 51 = .ok (.lconst 0, 1) := by decide +kernel
theorem dX12_close_52 : decode cX12_close 52 = .ok (.lastore, 1) := by decide +kernel
theorem dX12_close_53 : decode cX12_close 53 = .ok (.aload_n 0, 1) := by decide +kernel
theorem dX12_close_54 : decode cX12_close 54 = .ok (.getfield 42, 3) := by decide +kernel
theorem dX12_close_57 : decode cX12_close 57 = .ok (.iload_n 1, 1) := by decide +kernel
theorem dX12_close_58 : decode cX12_close 58 = .ok (.iload_n 3, 1) := by decide +kernel
theorem dX12_close_59 : decode cX12_close 59 = .ok (.ifCond .eq 7, 3) := by decide +kernel
theorem dX12_close_62 : decode cX12_close 62 = .ok (.iconst 0, 1) := by decide +kernel
theorem dX12_close_63 : decode cX12_close 63 = .ok (.goto 6, 3) := by decide +kernel
theorem dX12_close_66 : decode cX12_close 66 = .ok (.sipush 1000, 3) := by decide +kernel
theorem dX12_close_69 : decode cX12_close 69 = .ok (.iastore, 1) := by decide +kernel
theorem dX12_close_70 : decode cX12_close 70 = .ok (.aload_n 0, 1) := by decide +kernel
theorem dX12_close_71 : decode cX12_close 71 = .ok (.getfield 45, 3) := by decide +kernel
theorem dX12_close_74 : decode cX12_close 74 = .ok (.iload_n 1, 1) := by decide +kernel
theorem dX12_close_75 : decode cX12_close 75 = .ok (.iload_n 3, 1) := by decide +kernel
theorem dX12_close_76 : decode cX12_close 76 = .ok (.ifCond .eq 7, 3) := by decide +kernel
theorem dX12_close_79 : decode cX12_close 79 = .ok (.iconst 0, 1) := by decide +kernel
theorem dX12_close_80 : decode cX12_close 80 = .ok (.goto 4, 3) := by decide +kernel
theorem dX12_close_83 : decode cX12_close 83 = .ok (.iconst (-1), 1) := by decide +kernel
theorem dX12_close_84 : decode cX12_close 84 = .ok (.iastore, 1) := by decide +kernel
theorem dX12_close_85 : decode cX12_close 85 = .ok (.return_, 1) := by decide +kernel
theorem dX12_lay_0 : decode cX12_lay 0 = .ok (.iload_n 1, 1) := by decide +kernel
theorem dX12_lay_1 : decode cX12_lay 1 = .ok (.iload_n 2, 1) := by decide +kernel
theorem dX12_lay_2 : decode cX12_lay 2 = .ok (.invokestatic 158, 3) := by decide +kernel
theorem dX12_lay_5 : decode cX12_lay 5 = .ok (.istore_n 3, 1) := by decide +kernel
theorem dX12_lay_6 : decode cX12_lay 6 = .ok (.aload_n 0, 1) := by decide +kernel
theorem dX12_lay_7 : decode cX12_lay 7 = .ok (.getfield 32, 3) := by decide +kernel
theorem dX12_lay_10 : decode cX12_lay 10 = .ok (.iload_n 3, 1) := by decide +kernel
theorem dX12_lay_11 : decode cX12_lay 11 = .ok (.iaload, 1) := by decide +kernel
theorem dX12_lay_12 : decode cX12_lay 12 = .ok (.aload_n 0, 1) := by decide +kernel
theorem dX12_lay_13 : decode cX12_lay 13 = .ok (.getfield 161, 3) := by decide +kernel
theorem dX12_lay_16 : decode cX12_lay 16 = .ok (.if_icmp .ne 5, 3) := by decide +kernel
theorem dX12_lay_19 : decode cX12_lay 19 = .ok (.iload_n 3, 1) := by decide +kernel
theorem dX12_lay_20 : decode cX12_lay 20 = .ok (.ireturn, 1) := by decide +kernel
theorem dX12_lay_21 : decode cX12_lay 21 = .ok (.iconst 0, 1) := by decide +kernel
theorem dX12_lay_22 : decode cX12_lay 22 = .ok (.istore 4, 2) := by decide +kernel
theorem dX12_lay_24 : decode cX12_lay 24 = .ok (.aload_n 0, 1) := by decide +kernel
theorem dX12_lay_25 : decode cX12_lay 25 = .ok (.iconst 0, 1) := by decide +kernel
theorem dX12_lay_26 : decode cX12_lay 26 = .ok (.iload_n 1, 1) := by decide +kernel
theorem dX12_lay_27 : decode cX12_lay 27 = .ok (.iload_n 2, 1) := by decide +kernel
theorem dX12_lay_28 : decode cX12_lay 28 = .ok (.invokevirtual 170, 3) := by decide +kernel
theorem dX12_lay_31 : decode cX12_lay 31 = .ok (.iload 4, 2) := by decide +kernel
theorem dX12_lay_33 : decode cX12_lay 33 = .ok (.ifCond .lt 214, 3) := by decide +kernel
theorem dX12_lay_36 : decode cX12_lay 36 = .ok (.aload_n 0, 1) := by decide +kernel
theorem dX12_lay_37 : decode cX12_lay 37 = .ok (.getfield 48, 3) := by decide +kernel
theorem dX12_lay_40 : decode cX12_lay 40 = .ok (.iload 4, 2) := by decide +kernel
theorem dX12_lay_42 : decode cX12_lay 42 = .ok (.iaload, 1) := by decide +kernel
theorem dX12_lay_43 : decode cX12_lay 43 = .ok (.istore 5, 2) := by decide +kernel
theorem dX12_lay_45 : decode cX12_lay 45 = .ok (.aload_n 0, 1) := by decide +kernel
theorem dX12_lay_46 : decode cX12_lay 46 = .ok (.getfield 51, 3) := by decide +kernel
theorem dX12_lay_49 : decode cX12_lay 49 = .ok (.iload 4, 2) := by decide +kernel
theorem dX12_lay_51 : decode cX12_lay 51 = .ok (.iaload, 1) := by decide +kernel
theorem dX12_lay_52 : decode cX12_lay 52 = .ok (.istore 6, 2) := by decide +kernel
theorem dX12_lay_54 : decode cX12_lay 54 = .ok (.aload_n 0, 1) := by decide +kernel
theorem dX12_lay_55 : decode cX12_lay 55 = .ok (.getfield 54, 3) := by decide +kernel
theorem dX12_lay_58 : decode cX12_lay 58 = .ok (.iload 4, 2) := by decide +kernel
theorem dX12_lay_60 : decode cX12_lay 60 = .ok (.iaload, 1) := by decide +kernel
theorem dX12_lay_61 : decode cX12_lay 61 = .ok (.istore 7, 2) := by decide +kernel
theorem dX12_lay_63 : decode cX12_lay 63 = .ok (.iload 7, 2) := by decide +kernel
theorem dX12_lay_65 : decode cX12_lay 65 = .ok (.bipush 16, 2) := by decide +kernel
theorem dX12_lay_67 : decode cX12_lay 67 = .ok (.if_icmp .ne 22, 3) := by decide +kernel
theorem dX12_lay_70 : decode cX12_lay 70 = .ok (.aload_n 0, 1) := by decide +kernel
theorem dX12_lay_71 : decode cX12_lay 71 = .ok (.iload 5, 2) := by decide +kernel
theorem dX12_lay_73 : decode cX12_lay 73 = .ok (.iload 6, 2) := by decide +kernel
theorem dX12_lay_75 : decode cX12_lay 75 = .ok (.invokestatic 158, 3) := by decide +kernel
theorem dX12_lay_78 : decode cX12_lay 78 = .ok (.iload 5, 2) := by decide +kernel
theorem dX12_lay_80 : decode cX12_lay 80 = .ok (.invokevirtual 174, 3) := by decide +kernel
theorem dX12_lay_83 : decode cX12_lay 83 = .ok (.iinc 4 (-1), 3) := by decide +kernel
theorem dX12_lay_86 : decode cX12_lay 86 = .ok (.goto (-55), 3) := by decide +kernel
theorem dX12_lay_89 : decode cX12_lay 89 = .ok (.iload 7, 2) := by decide +kernel
theorem dX12_lay_91 : decode cX12_lay 91 = .ok (.iconst 4, 1) := by decide +kernel
theorem dX12_lay_92 : decode cX12_lay 92 = .ok (.idiv, 1) := by decide +kernel
theorem dX12_lay_93 : decode cX12_lay 93 = .ok (.istore 8, 2) := by decide +kernel
theorem dX12_lay_95 : decode cX12_lay 95 = .ok (.iload 7, 2) := by decide +kernel
theorem dX12_lay_97 : decode cX12_lay 97 = .ok (.iconst 4, 1) := by decide +kernel
theorem dX12_lay_98 : decode cX12_lay 98 = .ok (.irem, 1) := by decide +kernel
theorem dX12_lay_99 : decode cX12_lay 99 = .ok (.istore 9, 2) := by decide +kernel
theorem dX12_lay_101 : decode cX12_lay 101 = .ok (.iload 8, 2) := by decide +kernel
theorem dX12_lay_103 : decode cX12_lay 103 = .ok (.aload_n 0, 1) := by decide +kernel
theorem dX12_lay_104 : decode cX12_lay 104 = .ok (.getfield 164, 3) := by decide +kernel
theorem dX12_lay_107 : decode cX12_lay 107 = .ok (.if_icmp .ge 34, 3) := by decide +kernel
theorem dX12_lay_110 : decode cX12_lay 110 = .ok (.iload 9, 2) := by decide +kernel
theorem dX12_lay_112 : decode cX12_lay 112 = .ok (.aload_n 0, 1) := by decide +kernel
theorem dX12_lay_113 : decode cX12_lay 113 = .ok (.getfield 164, 3) := by decide +kernel
theorem dX12_lay_116 : decode cX12_lay 116 = .ok (.if_icmp .ge 25, 3) := by decide +kernel
theorem dX12_lay_119 : decode cX12_lay 119 = .ok (.aload_n 0, 1) := by decide +kernel
theorem dX12_lay_120 : decode cX12_lay 120 = .ok (.getfield 57, 3) := by decide +kernel
theorem dX12_lay_123 : decode cX12_lay 123 = .ok (.aload_n 0, 1) := by decide +kernel
theorem dX12_lay_124 : decode cX12_lay 124 = .ok (.getfield 178, 3) := by decide +kernel
theorem dX12_lay_127 : decode cX12_lay 127 = .ok (.iload 5, 2) := by decide +kernel
theorem dX12_lay_129 : decode cX12_lay 129 = .ok (.iload 6, 2) := by decide +kernel
theorem dX12_lay_131 : decode cX12_lay 131 = .ok (.iload 8, 2) := by decide +kernel
theorem dX12_lay_133 : decode cX12_lay 133 = .ok (.iload 9, 2) := by decide +kernel
theorem dX12_lay_135 : decode cX12_lay 135 = .ok (.invokestatic 153, 3) := by decide +kernel
theorem dX12_lay_138 : decode cX12_lay 138 = .ok (.ifCond .ne 17, 3) := by decide +kernel
theorem dX12_lay_141 : decode cX12_lay 141 = .ok (.aload_n 0, 1) := by decide +kernel
theorem dX12_lay_142 : decode cX12_lay 142 = .ok (.getfield 54, 3) := by decide +kernel
theorem dX12_lay_145 : decode cX12_lay 145 = .ok (.iload 4, 2) := by decide +kernel
theorem dX12_lay_147 : decode cX12_lay 147 = .ok (.dup2, 1) := by decide +kernel
theorem dX12_lay_148 : decode cX12_lay 148 = .ok (.iaload, 1) := by decide +kernel
theorem dX12_lay_149 : decode cX12_lay 149 = .ok (.iconst 1, 1) := by decide +kernel
theorem dX12_lay_150 : decode cX12_lay 150 = .ok (.iadd, 1) := by decide +kernel
theorem dX12_lay_151 : decode cX12_lay 151 = .ok (.iastore, 1) := by decide +kernel
theorem dX12_lay_152 : decode cX12_lay 152 = .ok (.goto (-121), 3) := by decide +kernel
theorem dX12_lay_155 : decode cX12_lay 155 = .ok (.iload 5, 2) := by decide +kernel
theorem dX12_lay_157 : decode cX12_lay 157 = .ok (.iload 8, 2) := by decide +kernel
theorem dX12_lay_159 : decode cX12_lay 159 = .ok (.iload 9, 2) := by decide +kernel
theorem dX12_lay_161 : decode cX12_lay 161 = .ok (.invokestatic 117, 3) := by decide +kernel
theorem dX12_lay_164 : decode cX12_lay 164 = .ok (.istore 10, 2) := by decide +kernel
theorem dX12_lay_166 : decode cX12_lay 166 = .ok (.iload 6, 2) := by decide +kernel
theorem dX12_lay_168 : decode cX12_lay 168 = .ok (.aload_n 0, 1) := by decide +kernel
theorem dX12_lay_169 : decode cX12_lay 169 = .ok (.getfield 178, 3) := by decide +kernel
theorem dX12_lay_172 : decode cX12_lay 172 = .ok (.iload 8, 2) := by decide +kernel
theorem dX12_lay_174 : decode cX12_lay 174 = .ok (.iload 9, 2) := by decide +kernel
theorem dX12_lay_176 : decode cX12_lay 176 = .ok (.invokestatic 121, 3) := by decide +kernel
theorem dX12_lay_179 : decode cX12_lay 179 = .ok (.istore 11, 2) := by decide +kernel
theorem dX12_lay_181 : decode cX12_lay 181 = .ok (.iload 10, 2) := by decide +kernel
theorem dX12_lay_183 : decode cX12_lay 183 = .ok (.iload 11, 2) := by decide +kernel
theorem dX12_lay_185 : decode cX12_lay 185 = .ok (.invokestatic 158, 3) := by decide +kernel
theorem dX12_lay_188 : decode cX12_lay 188 = .ok (.istore 12, 2) := by decide +kernel
theorem dX12_lay_190 : decode cX12_lay 190 = .ok (.aload_n 0, 1) := by decide +kernel
theorem dX12_lay_191 : decode cX12_lay 191 = .ok (.getfield 32, 3) := by decide +kernel
theorem dX12_lay_194 : decode cX12_lay 194 = .ok (.iload 12, 2) := by decide +kernel
theorem dX12_lay_196 : decode cX12_lay 196 = .ok (.iaload, 1) := by decide +kernel
theorem dX12_lay_197 : decode cX12_lay 197 = .ok (.aload_n 0, 1) := by decide +kernel
theorem dX12_lay_198 : decode cX12_lay 198 = .ok (.getfield 161, 3) := by decide +kernel
theorem dX12_lay_201 : decode cX12_lay 201 = .ok (.if_icmp .ne 30, 3) := by decide +kernel
theorem dX12_lay_204 : decode cX12_lay 204 = .ok (.aload_n 0, 1) := by decide +kernel
theorem dX12_lay_205 : decode cX12_lay 205 = .ok (.iload 5, 2) := by decide +kernel
theorem dX12_lay_207 : decode cX12_lay 207 = .ok (.iload 6, 2) := by decide +kernel
theorem dX12_lay_209 : decode cX12_lay 209 = .ok (.invokestatic 158, 3) := by decide +kernel
theorem dX12_lay_212 : decode cX12_lay 212 = .ok (.iload 12, 2) := by decide +kernel
theorem dX12_lay_214 : decode cX12_lay 214 = .ok (.invokevirtual 181, 3) := by decide +kernel
theorem dX12_lay_217 : decode cX12_lay 217 = .ok (.aload_n 0, 1) := by decide +kernel
theorem dX12_lay_218 : decode cX12_lay 218 = .ok (.getfield 54, 3) := by decide +kernel
theorem dX12_lay_221 : decode cX12_lay 221 = .ok (.iload 4, 2) := by decide +kernel
theorem dX12_lay_223 : decode cX12_lay 223 = .ok (.dup2, 1) := by decide +kernel
theorem dX12_lay_224 : decode cX12_lay 224 = .ok (.iaload, 1) := by decide +kernel
theorem dX12_lay_225 : decode cX12_lay 225 = .ok (.iconst 1, 1) := by decide +kernel
theorem dX12_lay_226 : decode cX12_lay 226 = .ok (.iadd, 1) := by decide +kernel
theorem dX12_lay_227 : decode cX12_lay 227 = .ok (.iastore, 1) := by decide +kernel
theorem dX12_lay_228 : decode cX12_lay 228 = .ok (.goto 16, 3) := by decide +kernel
theorem dX12_lay_231 : decode cX12_lay 231 = .ok (.iinc 4 1, 3) := by decide +kernel
theorem dX12_lay_234 : decode cX12_lay 234 = .ok (.aload_n 0, 1) := by decide +kernel
theorem dX12_lay_235 : decode cX12_lay 235 = .ok (.iload 4, 2) := by decide +kernel
theorem dX12_lay_237 : decode cX12_lay 237 = .ok (.iload 10, 2) := by decide +kernel
theorem dX12_lay_239 : decode cX12_lay 239 = .ok (.iload 11, 2) := by decide +kernel
theorem dX12_lay_241 : decode cX12_lay 241 = .ok (.invokevirtual 170, 3) := by decide +kernel
theorem dX12_lay_244 : decode cX12_lay 244 = .ok (.goto (-213), 3) := by decide +kernel
theorem dX12_lay_247 : decode cX12_lay 247 = .ok (.iload_n 3, 1) := by decide +kernel
theorem dX12_lay_248 : decode cX12_lay 248 = .ok (.ireturn, 1) := by decide +kernel
theorem dX12_lookAt_0 : decode cX12_lookAt 0 = .ok (.aload_n 0, 1) := by decide +kernel
theorem dX12_lookAt_1 : decode cX12_lookAt 1 = .ok (.dup, 1) := by decide +kernel
theorem dX12_lookAt_2 : decode cX12_lookAt 2 = .ok (.getfield 161, 3) := by decide +kernel
theorem dX12_lookAt_5 : decode cX12_lookAt 5 = .ok (.iconst 1, 1) := by decide +kernel
theorem dX12_lookAt_6 : decode cX12_lookAt 6 = .ok (.iadd, 1) := by decide +kernel
theorem dX12_lookAt_7 : decode cX12_lookAt 7 = .ok (.putfield 161, 3) := by decide +kernel
theorem dX12_lookAt_10 : decode cX12_lookAt 10 = .ok (.aload_n 0, 1) := by decide +kernel
theorem dX12_lookAt_11 : decode cX12_lookAt 11 = .ok (.aload_n 1, 1) := by decide +kernel
theorem dX12_lookAt_12 : decode cX12_lookAt 12 = .ok (.putfield 57, 3) := by decide +kernel
theorem dX12_lookAt_15 : decode cX12_lookAt 15 = .ok (.aload_n 0, 1) := by decide +kernel
theorem dX12_lookAt_16 : decode cX12_lookAt 16 = .ok (.iload_n 2, 1) := by decide +kernel
theorem dX12_lookAt_17 : decode cX12_lookAt 17 = .ok (.putfield 164, 3) := by decide +kernel
theorem dX12_lookAt_20 : decode cX12_lookAt 20 = .ok (.aload_n 0, 1) := by decide +kernel
theorem dX12_lookAt_21 : decode cX12_lookAt 21 = .ok (.iload_n 3, 1) := by decide +kernel
theorem dX12_lookAt_22 : decode cX12_lookAt 22 = .ok (.putfield 178, 3) := by decide +kernel
theorem dX12_lookAt_25 : decode cX12_lookAt 25 = .ok (.return_, 1) := by decide +kernel
theorem dX12_layNow_0 : decode cX12_layNow 0 = .ok (.aload_n 0, 1) := by decide +kernel
theorem dX12_layNow_1 : decode cX12_layNow 1 = .ok (.aload_n 0, 1) := by decide +kernel
theorem dX12_layNow_2 : decode cX12_layNow 2 = .ok (.getfield 19, 3) := by decide +kernel
theorem dX12_layNow_5 : decode cX12_layNow 5 = .ok (.aload_n 0, 1) := by decide +kernel
theorem dX12_layNow_6 : decode cX12_layNow 6 = .ok (.getfield 82, 3) := by decide +kernel
theorem dX12_layNow_9 : decode cX12_layNow 9 = .ok (.iload_n 1, 1) := by decide +kernel
theorem dX12_layNow_10 : decode cX12_layNow 10 = .ok (.invokevirtual 184, 3) := by decide +kernel
theorem dX12_layNow_13 : decode cX12_layNow 13 = .ok (.aload_n 0, 1) := by decide +kernel
theorem dX12_layNow_14 : decode cX12_layNow 14 = .ok (.aload_n 0, 1) := by decide +kernel
theorem dX12_layNow_15 : decode cX12_layNow 15 = .ok (.aload_n 0, 1) := by decide +kernel
theorem dX12_layNow_16 : decode cX12_layNow 16 = .ok (.getfield 103, 3) := by decide +kernel
theorem dX12_layNow_19 : decode cX12_layNow 19 = .ok (.invokevirtual 128, 3) := by decide +kernel
theorem dX12_layNow_22 : decode cX12_layNow 22 = .ok (.aload_n 0, 1) := by decide +kernel
theorem dX12_layNow_23 : decode cX12_layNow 23 = .ok (.iload_n 1, 1) := by decide +kernel
theorem dX12_layNow_24 : decode cX12_layNow 24 = .ok (.invokevirtual 135, 3) := by decide +kernel
theorem dX12_layNow_27 : decode cX12_layNow 27 = .ok (.invokevirtual 188, 3) := by decide +kernel
theorem dX12_layNow_30 : decode cX12_layNow 30 = .ok (.ireturn, 1) := by decide +kernel
theorem dX12_runs_0 : decode cX12_runs 0 = .ok (.iload_n 1, 1) := by decide +kernel
theorem dX12_runs_1 : decode cX12_runs 1 = .ok (.invokestatic 150, 3) := by decide +kernel
theorem dX12_runs_4 : decode cX12_runs 4 = .ok (.ifCond .eq 19, 3) := by decide +kernel
theorem dX12_runs_7 : decode cX12_runs 7 = .ok (.iload_n 2, 1) := by decide +kernel
theorem dX12_runs_8 : decode cX12_runs 8 = .ok (.iconst 0, 1) := by decide +kernel
theorem dX12_runs_9 : decode cX12_runs 9 = .ok (.iconst 1, 1) := by decide +kernel
theorem dX12_runs_10 : decode cX12_runs 10 = .ok (.invokestatic 78, 3) := by decide +kernel
theorem dX12_runs_13 : decode cX12_runs 13 = .ok (.ifCond .eq 10, 3) := by decide +kernel
theorem dX12_runs_16 : decode cX12_runs 16 = .ok (.aload_n 0, 1) := by decide +kernel
theorem dX12_runs_17 : decode cX12_runs 17 = .ok (.getfield 82, 3) := by decide +kernel
theorem dX12_runs_20 : decode cX12_runs 20 = .ok (.ifCond .ne 7, 3) := by decide +kernel
theorem dX12_runs_23 : decode cX12_runs 23 = .ok (.ldc2_w 76, 3) := by decide +kernel
theorem dX12_runs_26 : decode cX12_runs 26 = .ok (.lreturn, 1) := by decide +kernel
theorem dX12_runs_27 : decode cX12_runs 27 = .ok (.aload_n 0, 1) := by decide +kernel
theorem dX12_runs_28 : decode cX12_runs 28 = .ok (.iload_n 1, 1) := by decide +kernel
theorem dX12_runs_29 : decode cX12_runs 29 = .ok (.invokevirtual 191, 3) := by decide +kernel
theorem dX12_runs_32 : decode cX12_runs 32 = .ok (.istore_n 3, 1) := by decide +kernel
theorem dX12_runs_33 : decode cX12_runs 33 = .ok (.iload_n 2, 1) := by decide +kernel
theorem dX12_runs_34 : decode cX12_runs 34 = .ok (.ifCond .ne 12, 3) := by decide +kernel
theorem dX12_runs_37 : decode cX12_runs 37 = .ok (.aload_n 0, 1) := by decide +kernel
theorem dX12_runs_38 : decode cX12_runs 38 = .ok (.getfield 35, 3) := by decide +kernel
theorem dX12_runs_41 : decode cX12_runs 41 = .ok (.iload_n 3, 1) := by decide +kernel
theorem dX12_runs_42 : decode cX12_runs 42 = .ok (.laload, 1) := by decide +kernel
theorem dX12_runs_43 : decode cX12_runs 43 = .ok (.goto 9, 3) := by decide +kernel
theorem dX12_runs_46 : decode cX12_runs 46 = .ok (.aload_n 0, 1) := by decide +kernel
theorem dX12_runs_47 : decode cX12_runs 47 = .ok (.getfield 39, 3) := by decide +kernel
theorem dX12_runs_50 : decode cX12_runs 50 = .ok (.iload_n 3, 1) := by decide +kernel
theorem dX12_runs_51 : decode cX12_runs 51 = .ok (.laload, 1) := by decide +kernel
theorem dX12_runs_52 : decode cX12_runs 52 = .ok (.lreturn, 1) := by decide +kernel
theorem dX12_verdictAt_0 : decode cX12_verdictAt 0 = .ok (.aload_n 0, 1) := by decide +kernel
theorem dX12_verdictAt_1 : decode cX12_verdictAt 1 = .ok (.getfield 39, 3) := by decide +kernel
theorem dX12_verdictAt_4 : decode cX12_verdictAt 4 = .ok (.iload_n 1, 1) := by decide +kernel
theorem dX12_verdictAt_5 : decode cX12_verdictAt 5 = .ok (.laload, 1) := by decide +kernel
theorem dX12_verdictAt_6 : decode cX12_verdictAt 6 = .ok (.lconst 0, 1) := by decide +kernel
theorem dX12_verdictAt_7 : decode cX12_verdictAt 7 = .ok (.lcmp, 1) := by decide +kernel
theorem dX12_verdictAt_8 : decode cX12_verdictAt 8 = .ok (.ifCond .ne 7, 3) := by decide +kernel
theorem dX12_verdictAt_11 : decode cX12_verdictAt 11 = .ok (.iconst 0, 1) := by decide +kernel
theorem dX12_verdictAt_12 : decode cX12_verdictAt 12 = .ok (.goto 24, 3) := by decide +kernel
theorem dX12_verdictAt_15 : decode cX12_verdictAt 15 = .ok (.aload_n 0, 1) := by decide +kernel
theorem dX12_verdictAt_16 : decode cX12_verdictAt 16 = .ok (.getfield 39, 3) := by decide +kernel
theorem dX12_verdictAt_19 : decode cX12_verdictAt 19 = .ok (.iload_n 1, 1) := by decide +kernel
theorem dX12_verdictAt_20 : decode cX12_verdictAt 20 = .ok (.laload, 1) := by decide +kernel
theorem dX12_verdictAt_21 : decode cX12_verdictAt 21 = .ok (.aload_n 0, 1) := by decide +kernel
theorem dX12_verdictAt_22 : decode cX12_verdictAt 22 = .ok (.getfield 35, 3) := by decide +kernel
theorem dX12_verdictAt_25 : decode cX12_verdictAt 25 = .ok (.iload_n 1, 1) := by decide +kernel
theorem dX12_verdictAt_26 : decode cX12_verdictAt 26 = .ok (.laload, 1) := by decide +kernel
theorem dX12_verdictAt_27 : decode cX12_verdictAt 27 = .ok (.lcmp, 1) := by decide +kernel
theorem dX12_verdictAt_28 : decode cX12_verdictAt 28 = .ok (.ifCond .ne 7, 3) := by decide +kernel
theorem dX12_verdictAt_31 : decode cX12_verdictAt 31 = .ok (.iconst 2, 1) := by decide +kernel
theorem dX12_verdictAt_32 : decode cX12_verdictAt 32 = .ok (.goto 4, 3) := by decide +kernel
theorem dX12_verdictAt_35 : decode cX12_verdictAt 35 = .ok (.iconst 1, 1) := by decide +kernel
theorem dX12_verdictAt_36 : decode cX12_verdictAt 36 = .ok (.ireturn, 1) := by decide +kernel
theorem dX12_verdict_0 : decode cX12_verdict 0 = .ok (.iload_n 1, 1) := by decide +kernel
theorem dX12_verdict_1 : decode cX12_verdict 1 = .ok (.invokestatic 150, 3) := by decide +kernel
theorem dX12_verdict_4 : decode cX12_verdict 4 = .ok (.ifCond .ne 5, 3) := by decide +kernel
theorem dX12_verdict_7 : decode cX12_verdict 7 = .ok (.iconst (-1), 1) := by decide +kernel
theorem dX12_verdict_8 : decode cX12_verdict 8 = .ok (.ireturn, 1) := by decide +kernel
theorem dX12_verdict_9 : decode cX12_verdict 9 = .ok (.aload_n 0, 1) := by decide +kernel
theorem dX12_verdict_10 : decode cX12_verdict 10 = .ok (.getfield 82, 3) := by decide +kernel
theorem dX12_verdict_13 : decode cX12_verdict 13 = .ok (.ifCond .ne 8, 3) := by decide +kernel
theorem dX12_verdict_16 : decode cX12_verdict 16 = .ok (.bipush (-3), 2) := by decide +kernel
theorem dX12_verdict_18 : decode cX12_verdict 18 = .ok (.goto 12, 3) := by decide +kernel
theorem dX12_verdict_21 : decode cX12_verdict 21 = .ok (.aload_n 0, 1) := by decide +kernel
theorem dX12_verdict_22 : decode cX12_verdict 22 = .ok (.aload_n 0, 1) := by decide +kernel
theorem dX12_verdict_23 : decode cX12_verdict 23 = .ok (.iload_n 1, 1) := by decide +kernel
theorem dX12_verdict_24 : decode cX12_verdict 24 = .ok (.invokevirtual 191, 3) := by decide +kernel
theorem dX12_verdict_27 : decode cX12_verdict 27 = .ok (.invokevirtual 194, 3) := by decide +kernel
theorem dX12_verdict_30 : decode cX12_verdict 30 = .ok (.ireturn, 1) := by decide +kernel
theorem dX12_calls_0 : decode cX12_calls 0 = .ok (.iload_n 1, 1) := by decide +kernel
theorem dX12_calls_1 : decode cX12_calls 1 = .ok (.invokestatic 150, 3) := by decide +kernel
theorem dX12_calls_4 : decode cX12_calls 4 = .ok (.ifCond .ne 5, 3) := by decide +kernel
theorem dX12_calls_7 : decode cX12_calls 7 = .ok (.iconst (-1), 1) := by decide +kernel
theorem dX12_calls_8 : decode cX12_calls 8 = .ok (.ireturn, 1) := by decide +kernel
theorem dX12_calls_9 : decode cX12_calls 9 = .ok (.iload_n 2, 1) := by decide +kernel
theorem dX12_calls_10 : decode cX12_calls 10 = .ok (.iconst 0, 1) := by decide +kernel
theorem dX12_calls_11 : decode cX12_calls 11 = .ok (.iconst 1, 1) := by decide +kernel
theorem dX12_calls_12 : decode cX12_calls 12 = .ok (.invokestatic 78, 3) := by decide +kernel
theorem dX12_calls_15 : decode cX12_calls 15 = .ok (.ifCond .ne 6, 3) := by decide +kernel
theorem dX12_calls_18 : decode cX12_calls 18 = .ok (.bipush (-2), 2) := by decide +kernel
theorem dX12_calls_20 : decode cX12_calls 20 = .ok (.ireturn, 1) := by decide +kernel
theorem dX12_calls_21 : decode cX12_calls 21 = .ok (.aload_n 0, 1) := by decide +kernel
theorem dX12_calls_22 : decode cX12_calls 22 = .ok (.getfield 82, 3) := by decide +kernel
theorem dX12_calls_25 : decode cX12_calls 25 = .ok (.ifCond .ne 6, 3) := by decide +kernel
theorem dX12_calls_28 : decode cX12_calls 28 = .ok (.bipush (-3), 2) := by decide +kernel
theorem dX12_calls_30 : decode cX12_calls 30 = .ok (.ireturn, 1) := by decide +kernel
theorem dX12_calls_31 : decode cX12_calls 31 = .ok (.aload_n 0, 1) := by decide +kernel
theorem dX12_calls_32 : decode cX12_calls 32 = .ok (.iload_n 1, 1) := by decide +kernel
theorem dX12_calls_33 : decode cX12_calls 33 = .ok (.invokevirtual 191, 3) := by decide +kernel
theorem dX12_calls_36 : decode cX12_calls 36 = .ok (.istore_n 3, 1) := by decide +kernel
theorem dX12_calls_37 : decode cX12_calls 37 = .ok (.aload_n 0, 1) := by decide +kernel
theorem dX12_calls_38 : decode cX12_calls 38 = .ok (.getfield 39, 3) := by decide +kernel
theorem dX12_calls_41 : decode cX12_calls 41 = .ok (.iload_n 3, 1) := by decide +kernel
theorem dX12_calls_42 : decode cX12_calls 42 = .ok (.laload, 1) := by decide +kernel
theorem dX12_calls_43 : decode cX12_calls 43 = .ok (.lconst 0, 1) := by decide +kernel
theorem dX12_calls_44 : decode cX12_calls 44 = .ok (.lcmp, 1) := by decide +kernel
theorem dX12_calls_45 : decode cX12_calls 45 = .ok (.ifCond .ne 8, 3) := by decide +kernel
theorem dX12_calls_48 : decode cX12_calls 48 = .ok (.bipush (-9), 2) := by decide +kernel
theorem dX12_calls_50 : decode cX12_calls 50 = .ok (.goto 22, 3) := by decide +kernel
theorem dX12_calls_53 : decode cX12_calls 53 = .ok (.iload_n 2, 1) := by decide +kernel
theorem dX12_calls_54 : decode cX12_calls 54 = .ok (.ifCond .ne 12, 3) := by decide +kernel
theorem dX12_calls_57 : decode cX12_calls 57 = .ok (.aload_n 0, 1) := by decide +kernel
theorem dX12_calls_58 : decode cX12_calls 58 = .ok (.getfield 42, 3) := by decide +kernel
theorem dX12_calls_61 : decode cX12_calls 61 = .ok (.iload_n 3, 1) := by decide +kernel
theorem dX12_calls_62 : decode cX12_calls 62 = .ok (.iaload, 1) := by decide +kernel
theorem dX12_calls_63 : decode cX12_calls 63 = .ok (.goto 9, 3) := by decide +kernel
theorem dX12_calls_66 : decode cX12_calls 66 = .ok (.aload_n 0, 1) := by decide +kernel
theorem dX12_calls_67 : decode cX12_calls 67 = .ok (.getfield 45, 3) := by decide +kernel
theorem dX12_calls_70 : decode cX12_calls 70 = .ok (.iload_n 3, 1) := by decide +kernel
theorem dX12_calls_71 : decode cX12_calls 71 = .ok (.iaload, 1) := by decide +kernel
theorem dX12_calls_72 : decode cX12_calls 72 = .ok (.ireturn, 1) := by decide +kernel
theorem dX12_keeps_0 : decode cX12_keeps 0 = .ok (.iload_n 1, 1) := by decide +kernel
theorem dX12_keeps_1 : decode cX12_keeps 1 = .ok (.invokestatic 150, 3) := by decide +kernel
theorem dX12_keeps_4 : decode cX12_keeps 4 = .ok (.ifCond .eq 19, 3) := by decide +kernel
theorem dX12_keeps_7 : decode cX12_keeps 7 = .ok (.aload_n 0, 1) := by decide +kernel
theorem dX12_keeps_8 : decode cX12_keeps 8 = .ok (.iload_n 2, 1) := by decide +kernel
theorem dX12_keeps_9 : decode cX12_keeps 9 = .ok (.invokevirtual 125, 3) := by decide +kernel
theorem dX12_keeps_12 : decode cX12_keeps 12 = .ok (.ifCond .eq 11, 3) := by decide +kernel
theorem dX12_keeps_15 : decode cX12_keeps 15 = .ok (.aload_n 0, 1) := by decide +kernel
theorem dX12_keeps_16 : decode cX12_keeps 16 = .ok (.iload_n 3, 1) := by decide +kernel
theorem dX12_keeps_17 : decode cX12_keeps 17 = .ok (.invokevirtual 125, 3) := by decide +kernel
theorem dX12_keeps_20 : decode cX12_keeps 20 = .ok (.ifCond .ne 5, 3) := by decide +kernel
theorem dX12_keeps_23 : decode cX12_keeps 23 = .ok (.iconst (-1), 1) := by decide +kernel
theorem dX12_keeps_24 : decode cX12_keeps 24 = .ok (.ireturn, 1) := by decide +kernel
theorem dX12_keeps_25 : decode cX12_keeps 25 = .ok (.iload_n 2, 1) := by decide +kernel
theorem dX12_keeps_26 : decode cX12_keeps 26 = .ok (.iload_n 3, 1) := by decide +kernel
theorem dX12_keeps_27 : decode cX12_keeps 27 = .ok (.if_icmp .ne 6, 3) := by decide +kernel
theorem dX12_keeps_30 : decode cX12_keeps 30 = .ok (.bipush (-2), 2) := by decide +kernel
theorem dX12_keeps_32 : decode cX12_keeps 32 = .ok (.ireturn, 1) := by decide +kernel
theorem dX12_keeps_33 : decode cX12_keeps 33 = .ok (.aload_n 0, 1) := by decide +kernel
theorem dX12_keeps_34 : decode cX12_keeps 34 = .ok (.aload_n 0, 1) := by decide +kernel
theorem dX12_keeps_35 : decode cX12_keeps 35 = .ok (.getfield 103, 3) := by decide +kernel
theorem dX12_keeps_38 : decode cX12_keeps 38 = .ok (.invokevirtual 128, 3) := by decide +kernel
theorem dX12_keeps_41 : decode cX12_keeps 41 = .ok (.istore 4, 2) := by decide +kernel
theorem dX12_keeps_43 : decode cX12_keeps 43 = .ok (.aload_n 0, 1) := by decide +kernel
theorem dX12_keeps_44 : decode cX12_keeps 44 = .ok (.iload_n 1, 1) := by decide +kernel
theorem dX12_keeps_45 : decode cX12_keeps 45 = .ok (.invokevirtual 135, 3) := by decide +kernel
theorem dX12_keeps_48 : decode cX12_keeps 48 = .ok (.istore 5, 2) := by decide +kernel
theorem dX12_keeps_50 : decode cX12_keeps 50 = .ok (.aload_n 0, 1) := by decide +kernel
theorem dX12_keeps_51 : decode cX12_keeps 51 = .ok (.getfield 19, 3) := by decide +kernel
theorem dX12_keeps_54 : decode cX12_keeps 54 = .ok (.iload_n 1, 1) := by decide +kernel
theorem dX12_keeps_55 : decode cX12_keeps 55 = .ok (.iload 4, 2) := by decide +kernel
theorem dX12_keeps_57 : decode cX12_keeps 57 = .ok (.iload 5, 2) := by decide +kernel
theorem dX12_keeps_59 : decode cX12_keeps 59 = .ok (.iload_n 2, 1) := by decide +kernel
theorem dX12_keeps_60 : decode cX12_keeps 60 = .ok (.iload_n 3, 1) := by decide +kernel
theorem dX12_keeps_61 : decode cX12_keeps 61 = .ok (.invokestatic 153, 3) := by decide +kernel
theorem dX12_keeps_64 : decode cX12_keeps 64 = .ok (.ifCond .ne 6, 3) := by decide +kernel
theorem dX12_keeps_67 : decode cX12_keeps 67 = .ok (.bipush (-3), 2) := by decide +kernel
theorem dX12_keeps_69 : decode cX12_keeps 69 = .ok (.ireturn, 1) := by decide +kernel
theorem dX12_keeps_70 : decode cX12_keeps 70 = .ok (.aload_n 0, 1) := by decide +kernel
theorem dX12_keeps_71 : decode cX12_keeps 71 = .ok (.aload_n 0, 1) := by decide +kernel
theorem dX12_keeps_72 : decode cX12_keeps 72 = .ok (.getfield 19, 3) := by decide +kernel
theorem dX12_keeps_75 : decode cX12_keeps 75 = .ok (.aload_n 0, 1) := by decide +kernel
theorem dX12_keeps_76 : decode cX12_keeps 76 = .ok (.getfield 82, 3) := by decide +kernel
theorem dX12_keeps_79 : decode cX12_keeps 79 = .ok (.iload_n 1, 1) := by decide +kernel
theorem dX12_keeps_80 : decode cX12_keeps 80 = .ok (.invokevirtual 184, 3) := by decide +kernel
theorem dX12_keeps_83 : decode cX12_keeps 83 = .ok (.aload_n 0, 1) := by decide +kernel
theorem dX12_keeps_84 : decode cX12_keeps 84 = .ok (.aload_n 0, 1) := by decide +kernel
theorem dX12_keeps_85 : decode cX12_keeps 85 = .ok (.iload 4, 2) := by decide +kernel
theorem dX12_keeps_87 : decode cX12_keeps 87 = .ok (.iload_n 2, 1) := by decide +kernel
theorem dX12_keeps_88 : decode cX12_keeps 88 = .ok (.iload_n 3, 1) := by decide +kernel
theorem dX12_keeps_89 : decode cX12_keeps 89 = .ok (.invokestatic 117, 3) := by decide +kernel
theorem dX12_keeps_92 : decode cX12_keeps 92 = .ok (.iload 5, 2) := by decide +kernel
theorem dX12_keeps_94 : decode cX12_keeps 94 = .ok (.iload_n 1, 1) := by decide +kernel
theorem dX12_keeps_95 : decode cX12_keeps 95 = .ok (.iload_n 2, 1) := by decide +kernel
theorem dX12_keeps_96 : decode cX12_keeps 96 = .ok (.iload_n 3, 1) := by decide +kernel
theorem dX12_keeps_97 : decode cX12_keeps 97 = .ok (.invokestatic 121, 3) := by decide +kernel
theorem dX12_keeps_100 : decode cX12_keeps 100 = .ok (.invokevirtual 188, 3) := by decide +kernel
theorem dX12_keeps_103 : decode cX12_keeps 103 = .ok (.invokevirtual 194, 3) := by decide +kernel
theorem dX12_keeps_106 : decode cX12_keeps 106 = .ok (.ireturn, 1) := by decide +kernel
theorem dX12_best_0 : decode cX12_best 0 = .ok (.iload_n 1, 1) := by decide +kernel
theorem dX12_best_1 : decode cX12_best 1 = .ok (.invokestatic 150, 3) := by decide +kernel
theorem dX12_best_4 : decode cX12_best 4 = .ok (.ifCond .ne 5, 3) := by decide +kernel
theorem dX12_best_7 : decode cX12_best 7 = .ok (.iconst (-1), 1) := by decide +kernel
theorem dX12_best_8 : decode cX12_best 8 = .ok (.ireturn, 1) := by decide +kernel
theorem dX12_best_9 : decode cX12_best 9 = .ok (.iload_n 2, 1) := by decide +kernel
theorem dX12_best_10 : decode cX12_best 10 = .ok (.iconst 0, 1) := by decide +kernel
theorem dX12_best_11 : decode cX12_best 11 = .ok (.iconst 1, 1) := by decide +kernel
theorem dX12_best_12 : decode cX12_best 12 = .ok (.invokestatic 78, 3) := by decide +kernel
theorem dX12_best_15 : decode cX12_best 15 = .ok (.ifCond .ne 6, 3) := by decide +kernel
theorem dX12_best_18 : decode cX12_best 18 = .ok (.bipush (-2), 2) := by decide +kernel
theorem dX12_best_20 : decode cX12_best 20 = .ok (.ireturn, 1) := by decide +kernel
theorem dX12_best_21 : decode cX12_best 21 = .ok (.aload_n 0, 1) := by decide +kernel
theorem dX12_best_22 : decode cX12_best 22 = .ok (.getfield 82, 3) := by decide +kernel
theorem dX12_best_25 : decode cX12_best 25 = .ok (.ifCond .ne 6, 3) := by decide +kernel
theorem dX12_best_28 : decode cX12_best 28 = .ok (.bipush (-3), 2) := by decide +kernel
theorem dX12_best_30 : decode cX12_best 30 = .ok (.ireturn, 1) := by decide +kernel
theorem dX12_best_31 : decode cX12_best 31 = .ok (.aload_n 0, 1) := by decide +kernel
theorem dX12_best_32 : decode cX12_best 32 = .ok (.iload_n 1, 1) := by decide +kernel
theorem dX12_best_33 : decode cX12_best 33 = .ok (.invokevirtual 191, 3) := by decide +kernel
theorem dX12_best_36 : decode cX12_best 36 = .ok (.istore_n 3, 1) := by decide +kernel
theorem dX12_best_37 : decode cX12_best 37 = .ok (.aload_n 0, 1) := by decide +kernel
theorem dX12_best_38 : decode cX12_best 38 = .ok (.aload_n 0, 1) := by decide +kernel
theorem dX12_best_39 : decode cX12_best 39 = .ok (.getfield 103, 3) := by decide +kernel
theorem dX12_best_42 : decode cX12_best 42 = .ok (.invokevirtual 128, 3) := by decide +kernel
theorem dX12_best_45 : decode cX12_best 45 = .ok (.istore 4, 2) := by decide +kernel
theorem dX12_best_47 : decode cX12_best 47 = .ok (.aload_n 0, 1) := by decide +kernel
theorem dX12_best_48 : decode cX12_best 48 = .ok (.iload_n 1, 1) := by decide +kernel
theorem dX12_best_49 : decode cX12_best 49 = .ok (.invokevirtual 135, 3) := by decide +kernel
theorem dX12_best_52 : decode cX12_best 52 = .ok (.istore 5, 2) := by decide +kernel
theorem dX12_best_54 : decode cX12_best 54 = .ok (.aload_n 0, 1) := by decide +kernel
theorem dX12_best_55 : decode cX12_best 55 = .ok (.getfield 39, 3) := by decide +kernel
theorem dX12_best_58 : decode cX12_best 58 = .ok (.iload_n 3, 1) := by decide +kernel
theorem dX12_best_59 : decode cX12_best 59 = .ok (.laload, 1) := by decide +kernel
theorem dX12_best_60 : decode cX12_best 60 = .ok (.lconst 0, 1) := by decide +kernel
theorem dX12_best_61 : decode cX12_best 61 = .ok (.lcmp, 1) := by decide +kernel
theorem dX12_best_62 : decode cX12_best 62 = .ok (.ifCond .ne 6, 3) := by decide +kernel
theorem dX12_best_65 : decode cX12_best 65 = .ok (.bipush (-9), 2) := by decide +kernel
theorem dX12_best_67 : decode cX12_best 67 = .ok (.ireturn, 1) := by decide +kernel
theorem dX12_best_68 : decode cX12_best 68 = .ok (.iconst 0, 1) := by decide +kernel
theorem dX12_best_69 : decode cX12_best 69 = .ok (.istore 6, 2) := by decide +kernel
theorem dX12_best_71 : decode cX12_best 71 = .ok (.iload 6, 2) := by decide +kernel
theorem dX12_best_73 : decode cX12_best 73 = .ok (.bipush 16, 2) := by decide +kernel
theorem dX12_best_75 : decode cX12_best 75 = .ok (.if_icmp .ge 127, 3) := by decide +kernel
theorem dX12_best_78 : decode cX12_best 78 = .ok (.iload 6, 2) := by decide +kernel
theorem dX12_best_80 : decode cX12_best 80 = .ok (.iconst 4, 1) := by decide +kernel
theorem dX12_best_81 : decode cX12_best 81 = .ok (.idiv, 1) := by decide +kernel
theorem dX12_best_82 : decode cX12_best 82 = .ok (.istore 7, 2) := by decide +kernel
theorem dX12_best_84 : decode cX12_best 84 = .ok (.iload 6, 2) := by decide +kernel
theorem dX12_best_86 : decode cX12_best 86 = .ok (.iconst 4, 1) := by decide +kernel
theorem dX12_best_87 : decode cX12_best 87 = .ok (.irem, 1) := by decide +kernel
theorem dX12_best_88 : decode cX12_best 88 = .ok (.istore 8, 2) := by decide +kernel
theorem dX12_best_90 : decode cX12_best 90 = .ok (.iload 7, 2) := by decide +kernel
theorem dX12_best_92 : decode cX12_best 92 = .ok (.aload_n 0, 1) := by decide +kernel
theorem dX12_best_93 : decode cX12_best 93 = .ok (.getfield 82, 3) := by decide +kernel
theorem dX12_best_96 : decode cX12_best 96 = .ok (.if_icmp .ge 100, 3) := by decide +kernel
theorem dX12_best_99 : decode cX12_best 99 = .ok (.iload 8, 2) := by decide +kernel
theorem dX12_best_101 : decode cX12_best 101 = .ok (.aload_n 0, 1) := by decide +kernel
theorem dX12_best_102 : decode cX12_best 102 = .ok (.getfield 82, 3) := by decide +kernel
theorem dX12_best_105 : decode cX12_best 105 = .ok (.if_icmp .ge 91, 3) := by decide +kernel
theorem dX12_best_108 : decode cX12_best 108 = .ok (.aload_n 0, 1) := by decide +kernel
theorem dX12_best_109 : decode cX12_best 109 = .ok (.getfield 19, 3) := by decide +kernel
theorem dX12_best_112 : decode cX12_best 112 = .ok (.iload_n 1, 1) := by decide +kernel
theorem dX12_best_113 : decode cX12_best 113 = .ok (.iload 4, 2) := by decide +kernel
theorem dX12_best_115 : decode cX12_best 115 = .ok (.iload 5, 2) := by decide +kernel
theorem dX12_best_117 : decode cX12_best 117 = .ok (.iload 7, 2) := by decide +kernel
theorem dX12_best_119 : decode cX12_best 119 = .ok (.iload 8, 2) := by decide +kernel
theorem dX12_best_121 : decode cX12_best 121 = .ok (.invokestatic 153, 3) := by decide +kernel
theorem dX12_best_124 : decode cX12_best 124 = .ok (.ifCond .ne 6, 3) := by decide +kernel
theorem dX12_best_127 : decode cX12_best 127 = .ok (.goto 69, 3) := by decide +kernel
theorem dX12_best_130 : decode cX12_best 130 = .ok (.iload 4, 2) := by decide +kernel
theorem dX12_best_132 : decode cX12_best 132 = .ok (.iload 7, 2) := by decide +kernel
theorem dX12_best_134 : decode cX12_best 134 = .ok (.iload 8, 2) := by decide +kernel
theorem dX12_best_136 : decode cX12_best 136 = .ok (.invokestatic 117, 3) := by decide +kernel
theorem dX12_best_139 : decode cX12_best 139 = .ok (.iload 5, 2) := by decide +kernel
theorem dX12_best_141 : decode cX12_best 141 = .ok (.iload_n 1, 1) := by decide +kernel
theorem dX12_best_142 : decode cX12_best 142 = .ok (.iload 7, 2) := by decide +kernel
theorem dX12_best_144 : decode cX12_best 144 = .ok (.iload 8, 2) := by decide +kernel
theorem dX12_best_146 : decode cX12_best 146 = .ok (.invokestatic 121, 3) := by decide +kernel
theorem dX12_best_149 : decode cX12_best 149 = .ok (.invokestatic 158, 3) := by decide +kernel
theorem dX12_best_152 : decode cX12_best 152 = .ok (.istore 9, 2) := by decide +kernel
theorem dX12_best_154 : decode cX12_best 154 = .ok (.aload_n 0, 1) := by decide +kernel
theorem dX12_best_155 : decode cX12_best 155 = .ok (.getfield 39, 3) := by decide +kernel
theorem dX12_best_158 : decode cX12_best 158 = .ok (.iload 9, 2) := by decide +kernel
theorem dX12_best_160 : decode cX12_best 160 = .ok (.laload, 1) := by decide +kernel
theorem dX12_best_161 : decode cX12_best 161 = .ok (.lconst 0, 1) := by decide +kernel
theorem dX12_best_162 : decode cX12_best 162 = .ok (.lcmp, 1) := by decide +kernel
theorem dX12_best_163 : decode cX12_best 163 = .ok (.ifCond .le 33, 3) := by decide +kernel
theorem dX12_best_166 : decode cX12_best 166 = .ok (.aload_n 0, 1) := by decide +kernel
theorem dX12_best_167 : decode cX12_best 167 = .ok (.getfield 42, 3) := by decide +kernel
theorem dX12_best_170 : decode cX12_best 170 = .ok (.iload 9, 2) := by decide +kernel
theorem dX12_best_172 : decode cX12_best 172 = .ok (.iaload, 1) := by decide +kernel
theorem dX12_best_173 : decode cX12_best 173 = .ok (.iconst 1, 1) := by decide +kernel
theorem dX12_best_174 : decode cX12_best 174 = .ok (.iadd, 1) := by decide +kernel
theorem dX12_best_175 : decode cX12_best 175 = .ok (.aload_n 0, 1) := by decide +kernel
theorem dX12_best_176 : decode cX12_best 176 = .ok (.getfield 42, 3) := by decide +kernel
theorem dX12_best_179 : decode cX12_best 179 = .ok (.iload_n 3, 1) := by decide +kernel
theorem dX12_best_180 : decode cX12_best 180 = .ok (.iaload, 1) := by decide +kernel
theorem dX12_best_181 : decode cX12_best 181 = .ok (.if_icmp .ne 15, 3) := by decide +kernel
theorem dX12_best_184 : decode cX12_best 184 = .ok (.iload_n 2, 1) := by decide +kernel
theorem dX12_best_185 : decode cX12_best 185 = .ok (.ifCond .ne 8, 3) := by decide +kernel
theorem dX12_best_188 : decode cX12_best 188 = .ok (.iload 7, 2) := by decide +kernel
theorem dX12_best_190 : decode cX12_best 190 = .ok (.goto 5, 3) := by decide +kernel
theorem dX12_best_193 : decode cX12_best 193 = .ok (.iload 8, 2) := by decide +kernel
theorem dX12_best_195 : decode cX12_best 195 = .ok (.ireturn, 1) := by decide +kernel
theorem dX12_best_196 : decode cX12_best 196 = .ok (.iinc 6 1, 3) := by decide +kernel
theorem dX12_best_199 : decode cX12_best 199 = .ok (.goto (-128), 3) := by decide +kernel
theorem dX12_best_202 : decode cX12_best 202 = .ok (.bipush (-9), 2) := by decide +kernel
theorem dX12_best_204 : decode cX12_best 204 = .ok (.ireturn, 1) := by decide +kernel
theorem dX12_layRow_0 : decode cX12_layRow 0 = .ok (.iload_n 1, 1) := by decide +kernel
theorem dX12_layRow_1 : decode cX12_layRow 1 = .ok (.istore_n 2, 1) := by decide +kernel
theorem dX12_layRow_2 : decode cX12_layRow 2 = .ok (.aload_n 0, 1) := by decide +kernel
theorem dX12_layRow_3 : decode cX12_layRow 3 = .ok (.aload_n 0, 1) := by decide +kernel
theorem dX12_layRow_4 : decode cX12_layRow 4 = .ok (.getfield 82, 3) := by decide +kernel
theorem dX12_layRow_7 : decode cX12_layRow 7 = .ok (.invokevirtual 114, 3) := by decide +kernel
theorem dX12_layRow_10 : decode cX12_layRow 10 = .ok (.istore_n 3, 1) := by decide +kernel
theorem dX12_layRow_11 : decode cX12_layRow 11 = .ok (.iconst 0, 1) := by decide +kernel
theorem dX12_layRow_12 : decode cX12_layRow 12 = .ok (.istore 4, 2) := by decide +kernel
theorem dX12_layRow_14 : decode cX12_layRow 14 = .ok (.iload 4, 2) := by decide +kernel
theorem dX12_layRow_16 : decode cX12_layRow 16 = .ok (.aload_n 0, 1) := by decide +kernel
theorem dX12_layRow_17 : decode cX12_layRow 17 = .ok (.getfield 103, 3) := by decide +kernel
theorem dX12_layRow_20 : decode cX12_layRow 20 = .ok (.if_icmp .ge 131, 3) := by decide +kernel
theorem dX12_layRow_23 : decode cX12_layRow 23 = .ok (.aload_n 0, 1) := by decide +kernel
theorem dX12_layRow_24 : decode cX12_layRow 24 = .ok (.getfield 60, 3) := by decide +kernel
theorem dX12_layRow_27 : decode cX12_layRow 27 = .ok (.iload 4, 2) := by decide +kernel
theorem dX12_layRow_29 : decode cX12_layRow 29 = .ok (.iload_n 2, 1) := by decide +kernel
theorem dX12_layRow_30 : decode cX12_layRow 30 = .ok (.bipush 16, 2) := by decide +kernel
theorem dX12_layRow_32 : decode cX12_layRow 32 = .ok (.irem, 1) := by decide +kernel
theorem dX12_layRow_33 : decode cX12_layRow 33 = .ok (.iconst 4, 1) := by decide +kernel
theorem dX12_layRow_34 : decode cX12_layRow 34 = .ok (.idiv, 1) := by decide +kernel
theorem dX12_layRow_35 : decode cX12_layRow 35 = .ok (.iastore, 1) := by decide +kernel
theorem dX12_layRow_36 : decode cX12_layRow 36 = .ok (.aload_n 0, 1) := by decide +kernel
theorem dX12_layRow_37 : decode cX12_layRow 37 = .ok (.getfield 63, 3) := by decide +kernel
theorem dX12_layRow_40 : decode cX12_layRow 40 = .ok (.iload 4, 2) := by decide +kernel
theorem dX12_layRow_42 : decode cX12_layRow 42 = .ok (.iload_n 2, 1) := by decide +kernel
theorem dX12_layRow_43 : decode cX12_layRow 43 = .ok (.iconst 4, 1) := by decide +kernel
theorem dX12_layRow_44 : decode cX12_layRow 44 = .ok (.irem, 1) := by decide +kernel
theorem dX12_layRow_45 : decode cX12_layRow 45 = .ok (.iastore, 1) := by decide +kernel
theorem dX12_layRow_46 : decode cX12_layRow 46 = .ok (.iload_n 2, 1) := by decide +kernel
theorem dX12_layRow_47 : decode cX12_layRow 47 = .ok (.bipush 16, 2) := by decide +kernel
theorem dX12_layRow_49 : decode cX12_layRow 49 = .ok (.idiv, 1) := by decide +kernel
theorem dX12_layRow_50 : decode cX12_layRow 50 = .ok (.istore_n 2, 1) := by decide +kernel
theorem dX12_layRow_51 : decode cX12_layRow 51 = .ok (.aload_n 0, 1) := by decide +kernel
theorem dX12_layRow_52 : decode cX12_layRow 52 = .ok (.aload_n 0, 1) := by decide +kernel
theorem dX12_layRow_53 : decode cX12_layRow 53 = .ok (.getfield 60, 3) := by decide +kernel
theorem dX12_layRow_56 : decode cX12_layRow 56 = .ok (.iload 4, 2) := by decide +kernel
theorem dX12_layRow_58 : decode cX12_layRow 58 = .ok (.iaload, 1) := by decide +kernel
theorem dX12_layRow_59 : decode cX12_layRow 59 = .ok (.invokevirtual 125, 3) := by decide +kernel
theorem dX12_layRow_62 : decode cX12_layRow 62 = .ok (.ifCond .eq 62, 3) := by decide +kernel
theorem dX12_layRow_65 : decode cX12_layRow 65 = .ok (.aload_n 0, 1) := by decide +kernel
theorem dX12_layRow_66 : decode cX12_layRow 66 = .ok (.aload_n 0, 1) := by decide +kernel
theorem dX12_layRow_67 : decode cX12_layRow 67 = .ok (.getfield 63, 3) := by decide +kernel
theorem dX12_layRow_70 : decode cX12_layRow 70 = .ok (.iload 4, 2) := by decide +kernel
theorem dX12_layRow_72 : decode cX12_layRow 72 = .ok (.iaload, 1) := by decide +kernel
theorem dX12_layRow_73 : decode cX12_layRow 73 = .ok (.invokevirtual 125, 3) := by decide +kernel
theorem dX12_layRow_76 : decode cX12_layRow 76 = .ok (.ifCond .eq 48, 3) := by decide +kernel
theorem dX12_layRow_79 : decode cX12_layRow 79 = .ok (.aload_n 0, 1) := by decide +kernel
theorem dX12_layRow_80 : decode cX12_layRow 80 = .ok (.getfield 60, 3) := by decide +kernel
theorem dX12_layRow_83 : decode cX12_layRow 83 = .ok (.iload 4, 2) := by decide +kernel
theorem dX12_layRow_85 : decode cX12_layRow 85 = .ok (.iaload, 1) := by decide +kernel
theorem dX12_layRow_86 : decode cX12_layRow 86 = .ok (.aload_n 0, 1) := by decide +kernel
theorem dX12_layRow_87 : decode cX12_layRow 87 = .ok (.getfield 63, 3) := by decide +kernel
theorem dX12_layRow_90 : decode cX12_layRow 90 = .ok (.iload 4, 2) := by decide +kernel
theorem dX12_layRow_92 : decode cX12_layRow 92 = .ok (.iaload, 1) := by decide +kernel
theorem dX12_layRow_93 : decode cX12_layRow 93 = .ok (.if_icmp .eq 31, 3) := by decide +kernel
theorem dX12_layRow_96 : decode cX12_layRow 96 = .ok (.aload_n 0, 1) := by decide +kernel
theorem dX12_layRow_97 : decode cX12_layRow 97 = .ok (.getfield 19, 3) := by decide +kernel
theorem dX12_layRow_100 : decode cX12_layRow 100 = .ok (.iload_n 3, 1) := by decide +kernel
theorem dX12_layRow_101 : decode cX12_layRow 101 = .ok (.aload_n 0, 1) := by decide +kernel
theorem dX12_layRow_102 : decode cX12_layRow 102 = .ok (.getfield 60, 3) := by decide +kernel
theorem dX12_layRow_105 : decode cX12_layRow 105 = .ok (.iload 4, 2) := by decide +kernel
theorem dX12_layRow_107 : decode cX12_layRow 107 = .ok (.iaload, 1) := by decide +kernel
theorem dX12_layRow_108 : decode cX12_layRow 108 = .ok (.invokestatic 131, 3) := by decide +kernel
theorem dX12_layRow_111 : decode cX12_layRow 111 = .ok (.aload_n 0, 1) := by decide +kernel
theorem dX12_layRow_112 : decode cX12_layRow 112 = .ok (.getfield 63, 3) := by decide +kernel
theorem dX12_layRow_115 : decode cX12_layRow 115 = .ok (.iload 4, 2) := by decide +kernel
theorem dX12_layRow_117 : decode cX12_layRow 117 = .ok (.iaload, 1) := by decide +kernel
theorem dX12_layRow_118 : decode cX12_layRow 118 = .ok (.invokestatic 106, 3) := by decide +kernel
theorem dX12_layRow_121 : decode cX12_layRow 121 = .ok (.ifCond .ne 5, 3) := by decide +kernel
theorem dX12_layRow_124 : decode cX12_layRow 124 = .ok (.iconst (-1), 1) := by decide +kernel
theorem dX12_layRow_125 : decode cX12_layRow 125 = .ok (.ireturn, 1) := by decide +kernel
theorem dX12_layRow_126 : decode cX12_layRow 126 = .ok (.iload_n 3, 1) := by decide +kernel
theorem dX12_layRow_127 : decode cX12_layRow 127 = .ok (.aload_n 0, 1) := by decide +kernel
theorem dX12_layRow_128 : decode cX12_layRow 128 = .ok (.getfield 60, 3) := by decide +kernel
theorem dX12_layRow_131 : decode cX12_layRow 131 = .ok (.iload 4, 2) := by decide +kernel
theorem dX12_layRow_133 : decode cX12_layRow 133 = .ok (.iaload, 1) := by decide +kernel
theorem dX12_layRow_134 : decode cX12_layRow 134 = .ok (.aload_n 0, 1) := by decide +kernel
theorem dX12_layRow_135 : decode cX12_layRow 135 = .ok (.getfield 63, 3) := by decide +kernel
theorem dX12_layRow_138 : decode cX12_layRow 138 = .ok (.iload 4, 2) := by decide +kernel
theorem dX12_layRow_140 : decode cX12_layRow 140 = .ok (.iaload, 1) := by decide +kernel
theorem dX12_layRow_141 : decode cX12_layRow 141 = .ok (.invokestatic 117, 3) := by decide +kernel
theorem dX12_layRow_144 : decode cX12_layRow 144 = .ok (.istore_n 3, 1) := by decide +kernel
theorem dX12_layRow_145 : decode cX12_layRow 145 = .ok (.iinc 4 1, 3) := by decide +kernel
theorem dX12_layRow_148 : decode cX12_layRow 148 = .ok (.goto (-134), 3) := by decide +kernel
theorem dX12_layRow_151 : decode cX12_layRow 151 = .ok (.iload_n 3, 1) := by decide +kernel
theorem dX12_layRow_152 : decode cX12_layRow 152 = .ok (.ireturn, 1) := by decide +kernel
theorem dX12_seesAlike_0 : decode cX12_seesAlike 0 = .ok (.aload_n 0, 1) := by decide +kernel
theorem dX12_seesAlike_1 : decode cX12_seesAlike 1 = .ok (.aload_n 0, 1) := by decide +kernel
theorem dX12_seesAlike_2 : decode cX12_seesAlike 2 = .ok (.getfield 82, 3) := by decide +kernel
theorem dX12_seesAlike_5 : decode cX12_seesAlike 5 = .ok (.invokevirtual 114, 3) := by decide +kernel
theorem dX12_seesAlike_8 : decode cX12_seesAlike 8 = .ok (.istore_n 2, 1) := by decide +kernel
theorem dX12_seesAlike_9 : decode cX12_seesAlike 9 = .ok (.iload_n 2, 1) := by decide +kernel
theorem dX12_seesAlike_10 : decode cX12_seesAlike 10 = .ok (.istore_n 3, 1) := by decide +kernel
theorem dX12_seesAlike_11 : decode cX12_seesAlike 11 = .ok (.iconst 0, 1) := by decide +kernel
theorem dX12_seesAlike_12 : decode cX12_seesAlike 12 = .ok (.istore 4, 2) := by decide +kernel
theorem dX12_seesAlike_14 : decode cX12_seesAlike 14 = .ok (.iload 4, 2) := by decide +kernel
theorem dX12_seesAlike_16 : decode cX12_seesAlike 16 = .ok (.aload_n 0, 1) := by decide +kernel
theorem dX12_seesAlike_17 : decode cX12_seesAlike 17 = .ok (.getfield 103, 3) := by decide +kernel
theorem dX12_seesAlike_20 : decode cX12_seesAlike 20 = .ok (.if_icmp .ge 166, 3) := by decide +kernel
theorem dX12_seesAlike_23 : decode cX12_seesAlike 23 = .ok (.aload_n 0, 1) := by decide +kernel
theorem dX12_seesAlike_24 : decode cX12_seesAlike 24 = .ok (.getfield 25, 3) := by decide +kernel
theorem dX12_seesAlike_27 : decode cX12_seesAlike 27 = .ok (.iload 4, 2) := by decide +kernel
theorem dX12_seesAlike_29 : decode cX12_seesAlike 29 = .ok (.iaload, 1) := by decide +kernel
theorem dX12_seesAlike_30 : decode cX12_seesAlike 30 = .ok (.iload_n 1, 1) := by decide +kernel
theorem dX12_seesAlike_31 : decode cX12_seesAlike 31 = .ok (.if_icmp .eq 14, 3) := by decide +kernel
theorem dX12_seesAlike_34 : decode cX12_seesAlike 34 = .ok (.aload_n 0, 1) := by decide +kernel
theorem dX12_seesAlike_35 : decode cX12_seesAlike 35 = .ok (.getfield 28, 3) := by decide +kernel
theorem dX12_seesAlike_38 : decode cX12_seesAlike 38 = .ok (.iload 4, 2) := by decide +kernel
theorem dX12_seesAlike_40 : decode cX12_seesAlike 40 = .ok (.iaload, 1) := by decide +kernel
theorem dX12_seesAlike_41 : decode cX12_seesAlike 41 = .ok (.iload_n 1, 1) := by decide +kernel
theorem dX12_seesAlike_42 : decode cX12_seesAlike 42 = .ok (.if_icmp .ne 7, 3) := by decide +kernel
theorem dX12_seesAlike_45 : decode cX12_seesAlike 45 = .ok (.iconst 1, 1) := by decide +kernel
theorem dX12_seesAlike_46 : decode cX12_seesAlike 46 = .ok (.goto 4, 3) := by decide +kernel
theorem dX12_seesAlike_49 : decode cX12_seesAlike 49 = .ok (.iconst 0, 1) := by decide +kernel
theorem dX12_seesAlike_50 : decode cX12_seesAlike 50 = .ok (.istore 5, 2) := by decide +kernel
theorem dX12_seesAlike_52 : decode cX12_seesAlike 52 = .ok (.aload_n 0, 1) := by decide +kernel
theorem dX12_seesAlike_53 : decode cX12_seesAlike 53 = .ok (.getfield 60, 3) := by decide +kernel
theorem dX12_seesAlike_56 : decode cX12_seesAlike 56 = .ok (.iload 4, 2) := by decide +kernel
theorem dX12_seesAlike_58 : decode cX12_seesAlike 58 = .ok (.iaload, 1) := by decide +kernel
theorem dX12_seesAlike_59 : decode cX12_seesAlike 59 = .ok (.iload_n 1, 1) := by decide +kernel
theorem dX12_seesAlike_60 : decode cX12_seesAlike 60 = .ok (.if_icmp .eq 14, 3) := by decide +kernel
theorem dX12_seesAlike_63 : decode cX12_seesAlike 63 = .ok (.aload_n 0, 1) := by decide +kernel
theorem dX12_seesAlike_64 : decode cX12_seesAlike 64 = .ok (.getfield 63, 3) := by decide +kernel
theorem dX12_seesAlike_67 : decode cX12_seesAlike 67 = .ok (.iload 4, 2) := by decide +kernel
theorem dX12_seesAlike_69 : decode cX12_seesAlike 69 = .ok (.iaload, 1) := by decide +kernel
theorem dX12_seesAlike_70 : decode cX12_seesAlike 70 = .ok (.iload_n 1, 1) := by decide +kernel
theorem dX12_seesAlike_71 : decode cX12_seesAlike 71 = .ok (.if_icmp .ne 7, 3) := by decide +kernel
theorem dX12_seesAlike_74 : decode cX12_seesAlike 74 = .ok (.iconst 1, 1) := by decide +kernel
theorem dX12_seesAlike_75 : decode cX12_seesAlike 75 = .ok (.goto 4, 3) := by decide +kernel
theorem dX12_seesAlike_78 : decode cX12_seesAlike 78 = .ok (.iconst 0, 1) := by decide +kernel
theorem dX12_seesAlike_79 : decode cX12_seesAlike 79 = .ok (.istore 6, 2) := by decide +kernel
theorem dX12_seesAlike_81 : decode cX12_seesAlike 81 = .ok (.iload_n 2, 1) := by decide +kernel
theorem dX12_seesAlike_82 : decode cX12_seesAlike 82 = .ok (.aload_n 0, 1) := by decide +kernel
theorem dX12_seesAlike_83 : decode cX12_seesAlike 83 = .ok (.getfield 25, 3) := by decide +kernel
theorem dX12_seesAlike_86 : decode cX12_seesAlike 86 = .ok (.iload 4, 2) := by decide +kernel
theorem dX12_seesAlike_88 : decode cX12_seesAlike 88 = .ok (.iaload, 1) := by decide +kernel
theorem dX12_seesAlike_89 : decode cX12_seesAlike 89 = .ok (.aload_n 0, 1) := by decide +kernel
theorem dX12_seesAlike_90 : decode cX12_seesAlike 90 = .ok (.getfield 28, 3) := by decide +kernel
theorem dX12_seesAlike_93 : decode cX12_seesAlike 93 = .ok (.iload 4, 2) := by decide +kernel
theorem dX12_seesAlike_95 : decode cX12_seesAlike 95 = .ok (.iaload, 1) := by decide +kernel
theorem dX12_seesAlike_96 : decode cX12_seesAlike 96 = .ok (.invokestatic 117, 3) := by decide +kernel
theorem dX12_seesAlike_99 : decode cX12_seesAlike 99 = .ok (.istore_n 2, 1) := by decide +kernel
theorem dX12_seesAlike_100 : decode cX12_seesAlike 100 = .ok (.iload_n 3, 1) := by decide +kernel
theorem dX12_seesAlike_101 : decode cX12_seesAlike 101 = .ok (.aload_n 0, 1) := by decide +kernel
theorem dX12_seesAlike_102 : decode cX12_seesAlike 102 = .ok (.getfield 60, 3) := by decide +kernel
theorem dX12_seesAlike_105 : decode cX12_seesAlike 105 = .ok (.iload 4, 2) := by decide +kernel
theorem dX12_seesAlike_107 : decode cX12_seesAlike 107 = .ok (.iaload, 1) := by decide +kernel
theorem dX12_seesAlike_108 : decode cX12_seesAlike 108 = .ok (.aload_n 0, 1) := by decide +kernel
theorem dX12_seesAlike_109 : decode cX12_seesAlike 109 = .ok (.getfield 63, 3) := by decide +kernel
theorem dX12_seesAlike_112 : decode cX12_seesAlike 112 = .ok (.iload 4, 2) := by decide +kernel
theorem dX12_seesAlike_114 : decode cX12_seesAlike 114 = .ok (.iaload, 1) := by decide +kernel
theorem dX12_seesAlike_115 : decode cX12_seesAlike 115 = .ok (.invokestatic 117, 3) := by decide +kernel
theorem dX12_seesAlike_118 : decode cX12_seesAlike 118 = .ok (.istore_n 3, 1) := by decide +kernel
theorem dX12_seesAlike_119 : decode cX12_seesAlike 119 = .ok (.iload 5, 2) := by decide +kernel
theorem dX12_seesAlike_121 : decode cX12_seesAlike 121 = .ok (.iload 6, 2) := by decide +kernel
theorem dX12_seesAlike_123 : decode cX12_seesAlike 123 = .ok (.if_icmp .ne 55, 3) := by decide +kernel
theorem dX12_seesAlike_126 : decode cX12_seesAlike 126 = .ok (.iload 5, 2) := by decide +kernel
theorem dX12_seesAlike_128 : decode cX12_seesAlike 128 = .ok (.ifCond .eq 52, 3) := by decide +kernel
theorem dX12_seesAlike_131 : decode cX12_seesAlike 131 = .ok (.aload_n 0, 1) := by decide +kernel
theorem dX12_seesAlike_132 : decode cX12_seesAlike 132 = .ok (.getfield 25, 3) := by decide +kernel
theorem dX12_seesAlike_135 : decode cX12_seesAlike 135 = .ok (.iload 4, 2) := by decide +kernel
theorem dX12_seesAlike_137 : decode cX12_seesAlike 137 = .ok (.iaload, 1) := by decide +kernel
theorem dX12_seesAlike_138 : decode cX12_seesAlike 138 = .ok (.aload_n 0, 1) := by decide +kernel
theorem dX12_seesAlike_139 : decode cX12_seesAlike 139 = .ok (.getfield 60, 3) := by decide +kernel
theorem dX12_seesAlike_142 : decode cX12_seesAlike 142 = .ok (.iload 4, 2) := by decide +kernel
theorem dX12_seesAlike_144 : decode cX12_seesAlike 144 = .ok (.iaload, 1) := by decide +kernel
theorem dX12_seesAlike_145 : decode cX12_seesAlike 145 = .ok (.if_icmp .ne 33, 3) := by decide +kernel
theorem dX12_seesAlike_148 : decode cX12_seesAlike 148 = .ok (.aload_n 0, 1) := by decide +kernel
theorem dX12_seesAlike_149 : decode cX12_seesAlike 149 = .ok (.getfield 28, 3) := by decide +kernel
theorem dX12_seesAlike_152 : decode cX12_seesAlike 152 = .ok (.iload 4, 2) := by decide +kernel
theorem dX12_seesAlike_154 : decode cX12_seesAlike 154 = .ok (.iaload, 1) := by decide +kernel
theorem dX12_seesAlike_155 : decode cX12_seesAlike 155 = .ok (.aload_n 0, 1) := by decide +kernel
theorem dX12_seesAlike_156 : decode cX12_seesAlike 156 = .ok (.getfield 63, 3) := by decide +kernel
theorem dX12_seesAlike_159 : decode cX12_seesAlike 159 = .ok (.iload 4, 2) := by decide +kernel
theorem dX12_seesAlike_161 : decode cX12_seesAlike 161 = .ok (.iaload, 1) := by decide +kernel
theorem dX12_seesAlike_162 : decode cX12_seesAlike 162 = .ok (.if_icmp .ne 16, 3) := by decide +kernel
theorem dX12_seesAlike_165 : decode cX12_seesAlike 165 = .ok (.iload_n 2, 1) := by decide +kernel
theorem dX12_seesAlike_166 : decode cX12_seesAlike 166 = .ok (.iload_n 1, 1) := by decide +kernel
theorem dX12_seesAlike_167 : decode cX12_seesAlike 167 = .ok (.invokestatic 110, 3) := by decide +kernel
theorem dX12_seesAlike_170 : decode cX12_seesAlike 170 = .ok (.iload_n 3, 1) := by decide +kernel
theorem dX12_seesAlike_171 : decode cX12_seesAlike 171 = .ok (.iload_n 1, 1) := by decide +kernel
theorem dX12_seesAlike_172 : decode cX12_seesAlike 172 = .ok (.invokestatic 110, 3) := by decide +kernel
theorem dX12_seesAlike_175 : decode cX12_seesAlike 175 = .ok (.if_icmp .eq 5, 3) := by decide +kernel
theorem dX12_seesAlike_178 : decode cX12_seesAlike 178 = .ok (.iconst 0, 1) := by decide +kernel
theorem dX12_seesAlike_179 : decode cX12_seesAlike 179 = .ok (.ireturn, 1) := by decide +kernel
theorem dX12_seesAlike_180 : decode cX12_seesAlike 180 = .ok (.iinc 4 1, 3) := by decide +kernel
theorem dX12_seesAlike_183 : decode cX12_seesAlike 183 = .ok (.goto (-169), 3) := by decide +kernel
theorem dX12_seesAlike_186 : decode cX12_seesAlike 186 = .ok (.iconst 1, 1) := by decide +kernel
theorem dX12_seesAlike_187 : decode cX12_seesAlike 187 = .ok (.ireturn, 1) := by decide +kernel
theorem dX12_layAlike_0 : decode cX12_layAlike 0 = .ok (.aload_n 0, 1) := by decide +kernel
theorem dX12_layAlike_1 : decode cX12_layAlike 1 = .ok (.iconst 0, 1) := by decide +kernel
theorem dX12_layAlike_2 : decode cX12_layAlike 2 = .ok (.putfield 197, 3) := by decide +kernel
theorem dX12_layAlike_5 : decode cX12_layAlike 5 = .ok (.aload_n 0, 1) := by decide +kernel
theorem dX12_layAlike_6 : decode cX12_layAlike 6 = .ok (.ldc 157, 2) := by decide +kernel
theorem dX12_layAlike_8 : decode cX12_layAlike 8 = .ok (.putfield 200, 3) := by decide +kernel
theorem dX12_layAlike_11 : decode cX12_layAlike 11 = .ok (.iconst 1, 1) := by decide +kernel
theorem dX12_layAlike_12 : decode cX12_layAlike 12 = .ok (.iconst 4, 1) := by decide +kernel
theorem dX12_layAlike_13 : decode cX12_layAlike 13 = .ok (.aload_n 0, 1) := by decide +kernel
theorem dX12_layAlike_14 : decode cX12_layAlike 14 = .ok (.getfield 103, 3) := by decide +kernel
theorem dX12_layAlike_17 : decode cX12_layAlike 17 = .ok (.imul, 1) := by decide +kernel
theorem dX12_layAlike_18 : decode cX12_layAlike 18 = .ok (.ishl, 1) := by decide +kernel
theorem dX12_layAlike_19 : decode cX12_layAlike 19 = .ok (.istore_n 2, 1) := by decide +kernel
theorem dX12_layAlike_20 : decode cX12_layAlike 20 = .ok (.iconst 0, 1) := by decide +kernel
theorem dX12_layAlike_21 : decode cX12_layAlike 21 = .ok (.istore_n 3, 1) := by decide +kernel
theorem dX12_layAlike_22 : decode cX12_layAlike 22 = .ok (.iload_n 3, 1) := by decide +kernel
theorem dX12_layAlike_23 : decode cX12_layAlike 23 = .ok (.iload_n 2, 1) := by decide +kernel
theorem dX12_layAlike_24 : decode cX12_layAlike 24 = .ok (.if_icmp .ge 50, 3) := by decide +kernel
theorem dX12_layAlike_27 : decode cX12_layAlike 27 = .ok (.aload_n 0, 1) := by decide +kernel
theorem dX12_layAlike_28 : decode cX12_layAlike 28 = .ok (.iload_n 3, 1) := by decide +kernel
theorem dX12_layAlike_29 : decode cX12_layAlike 29 = .ok (.invokevirtual 203, 3) := by decide +kernel
theorem dX12_layAlike_32 : decode cX12_layAlike 32 = .ok (.istore 4, 2) := by decide +kernel
theorem dX12_layAlike_34 : decode cX12_layAlike 34 = .ok (.iload 4, 2) := by decide +kernel
theorem dX12_layAlike_36 : decode cX12_layAlike 36 = .ok (.ifCond .lt 32, 3) := by decide +kernel
theorem dX12_layAlike_39 : decode cX12_layAlike 39 = .ok (.aload_n 0, 1) := by decide +kernel
theorem dX12_layAlike_40 : decode cX12_layAlike 40 = .ok (.iload_n 1, 1) := by decide +kernel
theorem dX12_layAlike_41 : decode cX12_layAlike 41 = .ok (.invokevirtual 206, 3) := by decide +kernel
theorem dX12_layAlike_44 : decode cX12_layAlike 44 = .ok (.ifCond .eq 24, 3) := by decide +kernel
theorem dX12_layAlike_47 : decode cX12_layAlike 47 = .ok (.aload_n 0, 1) := by decide +kernel
theorem dX12_layAlike_48 : decode cX12_layAlike 48 = .ok (.dup, 1) := by decide +kernel
theorem dX12_layAlike_49 : decode cX12_layAlike 49 = .ok (.getfield 197, 3) := by decide +kernel
theorem dX12_layAlike_52 : decode cX12_layAlike 52 = .ok (.iconst 1, 1) := by decide +kernel
theorem dX12_layAlike_53 : decode cX12_layAlike 53 = .ok (.iadd, 1) := by decide +kernel
theorem dX12_layAlike_54 : decode cX12_layAlike 54 = .ok (.putfield 197, 3) := by decide +kernel
theorem dX12_layAlike_57 : decode cX12_layAlike 57 = .ok (.aload_n 0, 1) := by decide +kernel
theorem dX12_layAlike_58 : decode cX12_layAlike 58 = .ok (.dup, 1) := by decide +kernel
theorem dX12_layAlike_59 : decode cX12_layAlike 59 = .ok (.getfield 200, 3) := by decide +kernel
theorem dX12_layAlike_62 : decode cX12_layAlike 62 = .ok (.iload 4, 2) := by decide +kernel
theorem dX12_layAlike_64 : decode cX12_layAlike 64 = .ok (.iand, 1) := by decide +kernel
theorem dX12_layAlike_65 : decode cX12_layAlike 65 = .ok (.putfield 200, 3) := by decide +kernel
theorem dX12_layAlike_68 : decode cX12_layAlike 68 = .ok (.iinc 3 1, 3) := by decide +kernel
theorem dX12_layAlike_71 : decode cX12_layAlike 71 = .ok (.goto (-49), 3) := by decide +kernel
theorem dX12_layAlike_74 : decode cX12_layAlike 74 = .ok (.return_, 1) := by decide +kernel
theorem dX12_alike_0 : decode cX12_alike 0 = .ok (.aload_n 0, 1) := by decide +kernel
theorem dX12_alike_1 : decode cX12_alike 1 = .ok (.iload_n 1, 1) := by decide +kernel
theorem dX12_alike_2 : decode cX12_alike 2 = .ok (.invokevirtual 125, 3) := by decide +kernel
theorem dX12_alike_5 : decode cX12_alike 5 = .ok (.ifCond .ne 5, 3) := by decide +kernel
theorem dX12_alike_8 : decode cX12_alike 8 = .ok (.iconst (-1), 1) := by decide +kernel
theorem dX12_alike_9 : decode cX12_alike 9 = .ok (.ireturn, 1) := by decide +kernel
theorem dX12_alike_10 : decode cX12_alike 10 = .ok (.aload_n 0, 1) := by decide +kernel
theorem dX12_alike_11 : decode cX12_alike 11 = .ok (.getfield 103, 3) := by decide +kernel
theorem dX12_alike_14 : decode cX12_alike 14 = .ok (.iconst 4, 1) := by decide +kernel
theorem dX12_alike_15 : decode cX12_alike 15 = .ok (.if_icmp .le 6, 3) := by decide +kernel
theorem dX12_alike_18 : decode cX12_alike 18 = .ok (.bipush (-3), 2) := by decide +kernel
theorem dX12_alike_20 : decode cX12_alike 20 = .ok (.ireturn, 1) := by decide +kernel
theorem dX12_alike_21 : decode cX12_alike 21 = .ok (.aload_n 0, 1) := by decide +kernel
theorem dX12_alike_22 : decode cX12_alike 22 = .ok (.iload_n 1, 1) := by decide +kernel
theorem dX12_alike_23 : decode cX12_alike 23 = .ok (.invokevirtual 209, 3) := by decide +kernel
theorem dX12_alike_26 : decode cX12_alike 26 = .ok (.aload_n 0, 1) := by decide +kernel
theorem dX12_alike_27 : decode cX12_alike 27 = .ok (.getfield 197, 3) := by decide +kernel
theorem dX12_alike_30 : decode cX12_alike 30 = .ok (.ireturn, 1) := by decide +kernel
theorem dX12_sure_0 : decode cX12_sure 0 = .ok (.aload_n 0, 1) := by decide +kernel
theorem dX12_sure_1 : decode cX12_sure 1 = .ok (.iload_n 1, 1) := by decide +kernel
theorem dX12_sure_2 : decode cX12_sure 2 = .ok (.invokevirtual 125, 3) := by decide +kernel
theorem dX12_sure_5 : decode cX12_sure 5 = .ok (.ifCond .eq 19, 3) := by decide +kernel
theorem dX12_sure_8 : decode cX12_sure 8 = .ok (.aload_n 0, 1) := by decide +kernel
theorem dX12_sure_9 : decode cX12_sure 9 = .ok (.iload_n 2, 1) := by decide +kernel
theorem dX12_sure_10 : decode cX12_sure 10 = .ok (.invokevirtual 125, 3) := by decide +kernel
theorem dX12_sure_13 : decode cX12_sure 13 = .ok (.ifCond .eq 11, 3) := by decide +kernel
theorem dX12_sure_16 : decode cX12_sure 16 = .ok (.aload_n 0, 1) := by decide +kernel
theorem dX12_sure_17 : decode cX12_sure 17 = .ok (.iload_n 3, 1) := by decide +kernel
theorem dX12_sure_18 : decode cX12_sure 18 = .ok (.invokevirtual 125, 3) := by decide +kernel
theorem dX12_sure_21 : decode cX12_sure 21 = .ok (.ifCond .ne 5, 3) := by decide +kernel
theorem dX12_sure_24 : decode cX12_sure 24 = .ok (.iconst (-1), 1) := by decide +kernel
theorem dX12_sure_25 : decode cX12_sure 25 = .ok (.ireturn, 1) := by decide +kernel
theorem dX12_sure_26 : decode cX12_sure 26 = .ok (.aload_n 0, 1) := by decide +kernel
theorem dX12_sure_27 : decode cX12_sure 27 = .ok (.getfield 103, 3) := by decide +kernel
theorem dX12_sure_30 : decode cX12_sure 30 = .ok (.iconst 4, 1) := by decide +kernel
theorem dX12_sure_31 : decode cX12_sure 31 = .ok (.if_icmp .le 6, 3) := by decide +kernel
theorem dX12_sure_34 : decode cX12_sure 34 = .ok (.bipush (-3), 2) := by decide +kernel
theorem dX12_sure_36 : decode cX12_sure 36 = .ok (.ireturn, 1) := by decide +kernel
theorem dX12_sure_37 : decode cX12_sure 37 = .ok (.aload_n 0, 1) := by decide +kernel
theorem dX12_sure_38 : decode cX12_sure 38 = .ok (.iload_n 1, 1) := by decide +kernel
theorem dX12_sure_39 : decode cX12_sure 39 = .ok (.invokevirtual 209, 3) := by decide +kernel
theorem dX12_sure_42 : decode cX12_sure 42 = .ok (.aload_n 0, 1) := by decide +kernel
theorem dX12_sure_43 : decode cX12_sure 43 = .ok (.getfield 200, 3) := by decide +kernel
theorem dX12_sure_46 : decode cX12_sure 46 = .ok (.iload_n 2, 1) := by decide +kernel
theorem dX12_sure_47 : decode cX12_sure 47 = .ok (.invokestatic 110, 3) := by decide +kernel
theorem dX12_sure_50 : decode cX12_sure 50 = .ok (.iload_n 3, 1) := by decide +kernel
theorem dX12_sure_51 : decode cX12_sure 51 = .ok (.ishr, 1) := by decide +kernel
theorem dX12_sure_52 : decode cX12_sure 52 = .ok (.iconst 1, 1) := by decide +kernel
theorem dX12_sure_53 : decode cX12_sure 53 = .ok (.iand, 1) := by decide +kernel
theorem dX12_sure_54 : decode cX12_sure 54 = .ok (.ireturn, 1) := by decide +kernel
theorem dX12_known_0 : decode cX12_known 0 = .ok (.aload_n 0, 1) := by decide +kernel
theorem dX12_known_1 : decode cX12_known 1 = .ok (.iload_n 1, 1) := by decide +kernel
theorem dX12_known_2 : decode cX12_known 2 = .ok (.invokevirtual 125, 3) := by decide +kernel
theorem dX12_known_5 : decode cX12_known 5 = .ok (.ifCond .eq 11, 3) := by decide +kernel
theorem dX12_known_8 : decode cX12_known 8 = .ok (.aload_n 0, 1) := by decide +kernel
theorem dX12_known_9 : decode cX12_known 9 = .ok (.iload_n 2, 1) := by decide +kernel
theorem dX12_known_10 : decode cX12_known 10 = .ok (.invokevirtual 125, 3) := by decide +kernel
theorem dX12_known_13 : decode cX12_known 13 = .ok (.ifCond .ne 5, 3) := by decide +kernel
theorem dX12_known_16 : decode cX12_known 16 = .ok (.iconst (-1), 1) := by decide +kernel
theorem dX12_known_17 : decode cX12_known 17 = .ok (.ireturn, 1) := by decide +kernel
theorem dX12_known_18 : decode cX12_known 18 = .ok (.aload_n 0, 1) := by decide +kernel
theorem dX12_known_19 : decode cX12_known 19 = .ok (.getfield 103, 3) := by decide +kernel
theorem dX12_known_22 : decode cX12_known 22 = .ok (.iconst 4, 1) := by decide +kernel
theorem dX12_known_23 : decode cX12_known 23 = .ok (.if_icmp .le 6, 3) := by decide +kernel
theorem dX12_known_26 : decode cX12_known 26 = .ok (.bipush (-3), 2) := by decide +kernel
theorem dX12_known_28 : decode cX12_known 28 = .ok (.ireturn, 1) := by decide +kernel
theorem dX12_known_29 : decode cX12_known 29 = .ok (.aload_n 0, 1) := by decide +kernel
theorem dX12_known_30 : decode cX12_known 30 = .ok (.iload_n 1, 1) := by decide +kernel
theorem dX12_known_31 : decode cX12_known 31 = .ok (.invokevirtual 209, 3) := by decide +kernel
theorem dX12_known_34 : decode cX12_known 34 = .ok (.aload_n 0, 1) := by decide +kernel
theorem dX12_known_35 : decode cX12_known 35 = .ok (.getfield 200, 3) := by decide +kernel
theorem dX12_known_38 : decode cX12_known 38 = .ok (.iload_n 2, 1) := by decide +kernel
theorem dX12_known_39 : decode cX12_known 39 = .ok (.invokestatic 110, 3) := by decide +kernel
theorem dX12_known_42 : decode cX12_known 42 = .ok (.ireturn, 1) := by decide +kernel
theorem dX12_end_0 : decode cX12_end 0 = .ok (.aload_n 0, 1) := by decide +kernel
theorem dX12_end_1 : decode cX12_end 1 = .ok (.iload_n 1, 1) := by decide +kernel
theorem dX12_end_2 : decode cX12_end 2 = .ok (.invokevirtual 125, 3) := by decide +kernel
theorem dX12_end_5 : decode cX12_end 5 = .ok (.ifCond .ne 5, 3) := by decide +kernel
theorem dX12_end_8 : decode cX12_end 8 = .ok (.iconst (-1), 1) := by decide +kernel
theorem dX12_end_9 : decode cX12_end 9 = .ok (.ireturn, 1) := by decide +kernel
theorem dX12_end_10 : decode cX12_end 10 = .ok (.aload_n 0, 1) := by decide +kernel
theorem dX12_end_11 : decode cX12_end 11 = .ok (.getfield 103, 3) := by decide +kernel
theorem dX12_end_14 : decode cX12_end 14 = .ok (.iconst 4, 1) := by decide +kernel
theorem dX12_end_15 : decode cX12_end 15 = .ok (.if_icmp .le 6, 3) := by decide +kernel
theorem dX12_end_18 : decode cX12_end 18 = .ok (.bipush (-3), 2) := by decide +kernel
theorem dX12_end_20 : decode cX12_end 20 = .ok (.ireturn, 1) := by decide +kernel
theorem dX12_end_21 : decode cX12_end 21 = .ok (.aload_n 0, 1) := by decide +kernel
theorem dX12_end_22 : decode cX12_end 22 = .ok (.iload_n 1, 1) := by decide +kernel
theorem dX12_end_23 : decode cX12_end 23 = .ok (.invokevirtual 209, 3) := by decide +kernel
theorem dX12_end_26 : decode cX12_end 26 = .ok (.aload_n 0, 1) := by decide +kernel
theorem dX12_end_27 : decode cX12_end 27 = .ok (.aload_n 0, 1) := by decide +kernel
theorem dX12_end_28 : decode cX12_end 28 = .ok (.getfield 200, 3) := by decide +kernel
theorem dX12_end_31 : decode cX12_end 31 = .ok (.aload_n 0, 1) := by decide +kernel
theorem dX12_end_32 : decode cX12_end 32 = .ok (.getfield 82, 3) := by decide +kernel
theorem dX12_end_35 : decode cX12_end 35 = .ok (.invokevirtual 167, 3) := by decide +kernel
theorem dX12_end_38 : decode cX12_end 38 = .ok (.ifCond .eq 7, 3) := by decide +kernel
theorem dX12_end_41 : decode cX12_end 41 = .ok (.iconst 1, 1) := by decide +kernel
theorem dX12_end_42 : decode cX12_end 42 = .ok (.goto 4, 3) := by decide +kernel
theorem dX12_end_45 : decode cX12_end 45 = .ok (.iconst 0, 1) := by decide +kernel
theorem dX12_end_46 : decode cX12_end 46 = .ok (.ireturn, 1) := by decide +kernel
theorem dX12_isJoined_0 : decode cX12_isJoined 0 = .ok (.iconst 1, 1) := by decide +kernel
theorem dX12_isJoined_1 : decode cX12_isJoined 1 = .ok (.istore_n 2, 1) := by decide +kernel
theorem dX12_isJoined_2 : decode cX12_isJoined 2 = .ok (.iconst 0, 1) := by decide +kernel
theorem dX12_isJoined_3 : decode cX12_isJoined 3 = .ok (.istore_n 3, 1) := by decide +kernel
theorem dX12_isJoined_4 : decode cX12_isJoined 4 = .ok (.iload_n 3, 1) := by decide +kernel
theorem dX12_isJoined_5 : decode cX12_isJoined 5 = .ok (.iload_n 1, 1) := by decide +kernel
theorem dX12_isJoined_6 : decode cX12_isJoined 6 = .ok (.if_icmp .ge 88, 3) := by decide +kernel
theorem dX12_isJoined_9 : decode cX12_isJoined 9 = .ok (.iconst 0, 1) := by decide +kernel
theorem dX12_isJoined_10 : decode cX12_isJoined 10 = .ok (.istore 4, 2) := by decide +kernel
theorem dX12_isJoined_12 : decode cX12_isJoined 12 = .ok (.iload 4, 2) := by decide +kernel
theorem dX12_isJoined_14 : decode cX12_isJoined 14 = .ok (.iload_n 1, 1) := by decide +kernel
theorem dX12_isJoined_15 : decode cX12_isJoined 15 = .ok (.if_icmp .ge 73, 3) := by decide +kernel
theorem dX12_isJoined_18 : decode cX12_isJoined 18 = .ok (.iconst 0, 1) := by decide +kernel
theorem dX12_isJoined_19 : decode cX12_isJoined 19 = .ok (.istore 5, 2) := by decide +kernel
theorem dX12_isJoined_21 : decode cX12_isJoined 21 = .ok (.iload 5, 2) := by decide +kernel
theorem dX12_isJoined_23 : decode cX12_isJoined 23 = .ok (.iload_n 1, 1) := by decide +kernel
theorem dX12_isJoined_24 : decode cX12_isJoined 24 = .ok (.if_icmp .ge 58, 3) := by decide +kernel
theorem dX12_isJoined_27 : decode cX12_isJoined 27 = .ok (.iload 4, 2) := by decide +kernel
theorem dX12_isJoined_29 : decode cX12_isJoined 29 = .ok (.iload 5, 2) := by decide +kernel
theorem dX12_isJoined_31 : decode cX12_isJoined 31 = .ok (.if_icmp .eq 45, 3) := by decide +kernel
theorem dX12_isJoined_34 : decode cX12_isJoined 34 = .ok (.aload_n 0, 1) := by decide +kernel
theorem dX12_isJoined_35 : decode cX12_isJoined 35 = .ok (.iload 4, 2) := by decide +kernel
theorem dX12_isJoined_37 : decode cX12_isJoined 37 = .ok (.iaload, 1) := by decide +kernel
theorem dX12_isJoined_38 : decode cX12_isJoined 38 = .ok (.iload 5, 2) := by decide +kernel
theorem dX12_isJoined_40 : decode cX12_isJoined 40 = .ok (.invokestatic 106, 3) := by decide +kernel
theorem dX12_isJoined_43 : decode cX12_isJoined 43 = .ok (.ifCond .eq 33, 3) := by decide +kernel
theorem dX12_isJoined_46 : decode cX12_isJoined 46 = .ok (.iload_n 2, 1) := by decide +kernel
theorem dX12_isJoined_47 : decode cX12_isJoined 47 = .ok (.iload 4, 2) := by decide +kernel
theorem dX12_isJoined_49 : decode cX12_isJoined 49 = .ok (.invokestatic 106, 3) := by decide +kernel
theorem dX12_isJoined_52 : decode cX12_isJoined 52 = .ok (.ifCond .ne 12, 3) := by decide +kernel
theorem dX12_isJoined_55 : decode cX12_isJoined 55 = .ok (.iload_n 2, 1) := by decide +kernel
theorem dX12_isJoined_56 : decode cX12_isJoined 56 = .ok (.iload 5, 2) := by decide +kernel
theorem dX12_isJoined_58 : decode cX12_isJoined 58 = .ok (.invokestatic 106, 3) := by decide +kernel
theorem dX12_isJoined_61 : decode cX12_isJoined 61 = .ok (.ifCond .eq 15, 3) := by decide +kernel
theorem dX12_isJoined_64 : decode cX12_isJoined 64 = .ok (.iload_n 2, 1) := by decide +kernel
theorem dX12_isJoined_65 : decode cX12_isJoined 65 = .ok (.iconst 1, 1) := by decide +kernel
theorem dX12_isJoined_66 : decode cX12_isJoined 66 = .ok (.iload 4, 2) := by decide +kernel
theorem dX12_isJoined_68 : decode cX12_isJoined 68 = .ok (.ishl, 1) := by decide +kernel
theorem dX12_isJoined_69 : decode cX12_isJoined 69 = .ok (.iconst 1, 1) := by decide +kernel
theorem dX12_isJoined_70 : decode cX12_isJoined 70 = .ok (.iload 5, 2) := by decide +kernel
theorem dX12_isJoined_72 : decode cX12_isJoined 72 = .ok (.ishl, 1) := by decide +kernel
theorem dX12_isJoined_73 : decode cX12_isJoined 73 = .ok (.ior, 1) := by decide +kernel
theorem dX12_isJoined_74 : decode cX12_isJoined 74 = .ok (.ior, 1) := by decide +kernel
theorem dX12_isJoined_75 : decode cX12_isJoined 75 = .ok (.istore_n 2, 1) := by decide +kernel
theorem dX12_isJoined_76 : decode cX12_isJoined 76 = .ok (.iinc 5 1, 3) := by decide +kernel
theorem dX12_isJoined_79 : decode cX12_isJoined 79 = .ok (.goto (-58), 3) := by decide +kernel
theorem dX12_isJoined_82 : decode cX12_isJoined 82 = .ok (.iinc 4 1, 3) := by decide +kernel
theorem dX12_isJoined_85 : decode cX12_isJoined 85 = .ok (.goto (-73), 3) := by decide +kernel
theorem dX12_isJoined_88 : decode cX12_isJoined 88 = .ok (.iinc 3 1, 3) := by decide +kernel
theorem dX12_isJoined_91 : decode cX12_isJoined 91 = .ok (.goto (-87), 3) := by decide +kernel
theorem dX12_isJoined_94 : decode cX12_isJoined 94 = .ok (.iload_n 1, 1) := by decide +kernel
theorem dX12_isJoined_95 : decode cX12_isJoined 95 = .ok (.ifCond .le 16, 3) := by decide +kernel
theorem dX12_isJoined_98 : decode cX12_isJoined 98 = .ok (.iload_n 2, 1) := by decide +kernel
theorem dX12_isJoined_99 : decode cX12_isJoined 99 = .ok (.iconst 1, 1) := by decide +kernel
theorem dX12_isJoined_100 : decode cX12_isJoined 100 = .ok (.iload_n 1, 1) := by decide +kernel
theorem dX12_isJoined_101 : decode cX12_isJoined 101 = .ok (.ishl, 1) := by decide +kernel
theorem dX12_isJoined_102 : decode cX12_isJoined 102 = .ok (.iconst 1, 1) := by decide +kernel
theorem dX12_isJoined_103 : decode cX12_isJoined 103 = .ok (.isub, 1) := by decide +kernel
theorem dX12_isJoined_104 : decode cX12_isJoined 104 = .ok (.if_icmp .ne 7, 3) := by decide +kernel
theorem dX12_isJoined_107 : decode cX12_isJoined 107 = .ok (.iconst 1, 1) := by decide +kernel
theorem dX12_isJoined_108 : decode cX12_isJoined 108 = .ok (.goto 4, 3) := by decide +kernel
theorem dX12_isJoined_111 : decode cX12_isJoined 111 = .ok (.iconst 0, 1) := by decide +kernel
theorem dX12_isJoined_112 : decode cX12_isJoined 112 = .ok (.ireturn, 1) := by decide +kernel
theorem dX12_joined_0 : decode cX12_joined 0 = .ok (.aload_n 0, 1) := by decide +kernel
theorem dX12_joined_1 : decode cX12_joined 1 = .ok (.getfield 82, 3) := by decide +kernel
theorem dX12_joined_4 : decode cX12_joined 4 = .ok (.ifCond .ne 8, 3) := by decide +kernel
theorem dX12_joined_7 : decode cX12_joined 7 = .ok (.bipush (-3), 2) := by decide +kernel
theorem dX12_joined_9 : decode cX12_joined 9 = .ok (.goto 22, 3) := by decide +kernel
theorem dX12_joined_12 : decode cX12_joined 12 = .ok (.aload_n 0, 1) := by decide +kernel
theorem dX12_joined_13 : decode cX12_joined 13 = .ok (.getfield 19, 3) := by decide +kernel
theorem dX12_joined_16 : decode cX12_joined 16 = .ok (.aload_n 0, 1) := by decide +kernel
theorem dX12_joined_17 : decode cX12_joined 17 = .ok (.getfield 82, 3) := by decide +kernel
theorem dX12_joined_20 : decode cX12_joined 20 = .ok (.invokestatic 213, 3) := by decide +kernel
theorem dX12_joined_23 : decode cX12_joined 23 = .ok (.ifCond .eq 7, 3) := by decide +kernel
theorem dX12_joined_26 : decode cX12_joined 26 = .ok (.iconst 1, 1) := by decide +kernel
theorem dX12_joined_27 : decode cX12_joined 27 = .ok (.goto 4, 3) := by decide +kernel
theorem dX12_joined_30 : decode cX12_joined 30 = .ok (.iconst 0, 1) := by decide +kernel
theorem dX12_joined_31 : decode cX12_joined 31 = .ok (.ireturn, 1) := by decide +kernel
theorem dX12_layOther_0 : decode cX12_layOther 0 = .ok (.iconst 0, 1) := by decide +kernel
theorem dX12_layOther_1 : decode cX12_layOther 1 = .ok (.istore_n 3, 1) := by decide +kernel
theorem dX12_layOther_2 : decode cX12_layOther 2 = .ok (.iload_n 3, 1) := by decide +kernel
theorem dX12_layOther_3 : decode cX12_layOther 3 = .ok (.iconst 4, 1) := by decide +kernel
theorem dX12_layOther_4 : decode cX12_layOther 4 = .ok (.if_icmp .ge 21, 3) := by decide +kernel
theorem dX12_layOther_7 : decode cX12_layOther 7 = .ok (.aload_n 0, 1) := by decide +kernel
theorem dX12_layOther_8 : decode cX12_layOther 8 = .ok (.getfield 66, 3) := by decide +kernel
theorem dX12_layOther_11 : decode cX12_layOther 11 = .ok (.iload_n 3, 1) := by decide +kernel
theorem dX12_layOther_12 : decode cX12_layOther 12 = .ok (.aload_n 0, 1) := by decide +kernel
theorem dX12_layOther_13 : decode cX12_layOther 13 = .ok (.getfield 19, 3) := by decide +kernel
theorem dX12_layOther_16 : decode cX12_layOther 16 = .ok (.iload_n 3, 1) := by decide +kernel
theorem dX12_layOther_17 : decode cX12_layOther 17 = .ok (.iaload, 1) := by decide +kernel
theorem dX12_layOther_18 : decode cX12_layOther 18 = .ok (.iastore, 1) := by decide +kernel
theorem dX12_layOther_19 : decode cX12_layOther 19 = .ok (.iinc 3 1, 3) := by decide +kernel
theorem dX12_layOther_22 : decode cX12_layOther 22 = .ok (.goto (-20), 3) := by decide +kernel
theorem dX12_layOther_25 : decode cX12_layOther 25 = .ok (.aload_n 0, 1) := by decide +kernel
theorem dX12_layOther_26 : decode cX12_layOther 26 = .ok (.getfield 66, 3) := by decide +kernel
theorem dX12_layOther_29 : decode cX12_layOther 29 = .ok (.iload_n 1, 1) := by decide +kernel
theorem dX12_layOther_30 : decode cX12_layOther 30 = .ok (.dup2, 1) := by decide +kernel
theorem dX12_layOther_31 : decode cX12_layOther 31 = .ok (.iaload, 1) := by decide +kernel
theorem dX12_layOther_32 : decode cX12_layOther 32 = .ok (.iconst 1, 1) := by decide +kernel
theorem dX12_layOther_33 : decode cX12_layOther 33 = .ok (.iload_n 2, 1) := by decide +kernel
theorem dX12_layOther_34 : decode cX12_layOther 34 = .ok (.ishl, 1) := by decide +kernel
theorem dX12_layOther_35 : decode cX12_layOther 35 = .ok (.ixor, 1) := by decide +kernel
theorem dX12_layOther_36 : decode cX12_layOther 36 = .ok (.iastore, 1) := by decide +kernel
theorem dX12_layOther_37 : decode cX12_layOther 37 = .ok (.return_, 1) := by decide +kernel
theorem dX12_bridge_0 : decode cX12_bridge 0 = .ok (.iload_n 1, 1) := by decide +kernel
theorem dX12_bridge_1 : decode cX12_bridge 1 = .ok (.iconst (-1), 1) := by decide +kernel
theorem dX12_bridge_2 : decode cX12_bridge 2 = .ok (.bipush 11, 2) := by decide +kernel
theorem dX12_bridge_4 : decode cX12_bridge 4 = .ok (.invokestatic 78, 3) := by decide +kernel
theorem dX12_bridge_7 : decode cX12_bridge 7 = .ok (.ifCond .ne 5, 3) := by decide +kernel
theorem dX12_bridge_10 : decode cX12_bridge 10 = .ok (.iconst (-1), 1) := by decide +kernel
theorem dX12_bridge_11 : decode cX12_bridge 11 = .ok (.ireturn, 1) := by decide +kernel
theorem dX12_bridge_12 : decode cX12_bridge 12 = .ok (.aload_n 0, 1) := by decide +kernel
theorem dX12_bridge_13 : decode cX12_bridge 13 = .ok (.getfield 19, 3) := by decide +kernel
theorem dX12_bridge_16 : decode cX12_bridge 16 = .ok (.aload_n 0, 1) := by decide +kernel
theorem dX12_bridge_17 : decode cX12_bridge 17 = .ok (.getfield 82, 3) := by decide +kernel
theorem dX12_bridge_20 : decode cX12_bridge 20 = .ok (.invokestatic 213, 3) := by decide +kernel
theorem dX12_bridge_23 : decode cX12_bridge 23 = .ok (.ifCond .ne 6, 3) := by decide +kernel
theorem dX12_bridge_26 : decode cX12_bridge 26 = .ok (.bipush (-3), 2) := by decide +kernel
theorem dX12_bridge_28 : decode cX12_bridge 28 = .ok (.ireturn, 1) := by decide +kernel
theorem dX12_bridge_29 : decode cX12_bridge 29 = .ok (.iconst 0, 1) := by decide +kernel
theorem dX12_bridge_30 : decode cX12_bridge 30 = .ok (.istore_n 2, 1) := by decide +kernel
theorem dX12_bridge_31 : decode cX12_bridge 31 = .ok (.iconst 0, 1) := by decide +kernel
theorem dX12_bridge_32 : decode cX12_bridge 32 = .ok (.istore_n 3, 1) := by decide +kernel
theorem dX12_bridge_33 : decode cX12_bridge 33 = .ok (.iload_n 3, 1) := by decide +kernel
theorem dX12_bridge_34 : decode cX12_bridge 34 = .ok (.aload_n 0, 1) := by decide +kernel
theorem dX12_bridge_35 : decode cX12_bridge 35 = .ok (.getfield 82, 3) := by decide +kernel
theorem dX12_bridge_38 : decode cX12_bridge 38 = .ok (.if_icmp .ge 87, 3) := by decide +kernel
theorem dX12_bridge_41 : decode cX12_bridge 41 = .ok (.iconst 0, 1) := by decide +kernel
theorem dX12_bridge_42 : decode cX12_bridge 42 = .ok (.istore 4, 2) := by decide +kernel
theorem dX12_bridge_44 : decode cX12_bridge 44 = .ok (.iload 4, 2) := by decide +kernel
theorem dX12_bridge_46 : decode cX12_bridge 46 = .ok (.aload_n 0, 1) := by decide +kernel
theorem dX12_bridge_47 : decode cX12_bridge 47 = .ok (.getfield 82, 3) := by decide +kernel
theorem dX12_bridge_50 : decode cX12_bridge 50 = .ok (.if_icmp .ge 69, 3) := by decide +kernel
theorem dX12_bridge_53 : decode cX12_bridge 53 = .ok (.iload_n 3, 1) := by decide +kernel
theorem dX12_bridge_54 : decode cX12_bridge 54 = .ok (.iload 4, 2) := by decide +kernel
theorem dX12_bridge_56 : decode cX12_bridge 56 = .ok (.if_icmp .eq 57, 3) := by decide +kernel
theorem dX12_bridge_59 : decode cX12_bridge 59 = .ok (.aload_n 0, 1) := by decide +kernel
theorem dX12_bridge_60 : decode cX12_bridge 60 = .ok (.getfield 19, 3) := by decide +kernel
theorem dX12_bridge_63 : decode cX12_bridge 63 = .ok (.iload_n 3, 1) := by decide +kernel
theorem dX12_bridge_64 : decode cX12_bridge 64 = .ok (.iaload, 1) := by decide +kernel
theorem dX12_bridge_65 : decode cX12_bridge 65 = .ok (.iload 4, 2) := by decide +kernel
theorem dX12_bridge_67 : decode cX12_bridge 67 = .ok (.invokestatic 106, 3) := by decide +kernel
theorem dX12_bridge_70 : decode cX12_bridge 70 = .ok (.ifCond .ne 6, 3) := by decide +kernel
theorem dX12_bridge_73 : decode cX12_bridge 73 = .ok (.goto 40, 3) := by decide +kernel
theorem dX12_bridge_76 : decode cX12_bridge 76 = .ok (.aload_n 0, 1) := by decide +kernel
theorem dX12_bridge_77 : decode cX12_bridge 77 = .ok (.iload_n 3, 1) := by decide +kernel
theorem dX12_bridge_78 : decode cX12_bridge 78 = .ok (.iload 4, 2) := by decide +kernel
theorem dX12_bridge_80 : decode cX12_bridge 80 = .ok (.invokevirtual 217, 3) := by decide +kernel
theorem dX12_bridge_83 : decode cX12_bridge 83 = .ok (.aload_n 0, 1) := by decide +kernel
theorem dX12_bridge_84 : decode cX12_bridge 84 = .ok (.getfield 66, 3) := by decide +kernel
theorem dX12_bridge_87 : decode cX12_bridge 87 = .ok (.aload_n 0, 1) := by decide +kernel
theorem dX12_bridge_88 : decode cX12_bridge 88 = .ok (.getfield 82, 3) := by decide +kernel
theorem dX12_bridge_91 : decode cX12_bridge 91 = .ok (.invokestatic 213, 3) := by decide +kernel
theorem dX12_bridge_94 : decode cX12_bridge 94 = .ok (.ifCond .ne 19, 3) := by decide +kernel
theorem dX12_bridge_97 : decode cX12_bridge 97 = .ok (.iload_n 2, 1) := by decide +kernel
theorem dX12_bridge_98 : decode cX12_bridge 98 = .ok (.iload_n 1, 1) := by decide +kernel
theorem dX12_bridge_99 : decode cX12_bridge 99 = .ok (.if_icmp .ne 11, 3) := by decide +kernel
theorem dX12_bridge_102 : decode cX12_bridge 102 = .ok (.bipush 10, 2) := by decide +kernel
theorem dX12_bridge_104 : decode cX12_bridge 104 = .ok (.iload_n 3, 1) := by decide +kernel
theorem dX12_bridge_105 : decode cX12_bridge 105 = .ok (.imul, 1) := by decide +kernel
theorem dX12_bridge_106 : decode cX12_bridge 106 = .ok (.iload 4, 2) := by decide +kernel
theorem dX12_bridge_108 : decode cX12_bridge 108 = .ok (.iadd, 1) := by decide +kernel
theorem dX12_bridge_109 : decode cX12_bridge 109 = .ok (.ireturn, 1) := by decide +kernel
theorem dX12_bridge_110 : decode cX12_bridge 110 = .ok (.iinc 2 1, 3) := by decide +kernel
theorem dX12_bridge_113 : decode cX12_bridge 113 = .ok (.iinc 4 1, 3) := by decide +kernel
theorem dX12_bridge_116 : decode cX12_bridge 116 = .ok (.goto (-72), 3) := by decide +kernel
theorem dX12_bridge_119 : decode cX12_bridge 119 = .ok (.iinc 3 1, 3) := by decide +kernel
theorem dX12_bridge_122 : decode cX12_bridge 122 = .ok (.goto (-89), 3) := by decide +kernel
theorem dX12_bridge_125 : decode cX12_bridge 125 = .ok (.iload_n 1, 1) := by decide +kernel
theorem dX12_bridge_126 : decode cX12_bridge 126 = .ok (.iconst (-1), 1) := by decide +kernel
theorem dX12_bridge_127 : decode cX12_bridge 127 = .ok (.if_icmp .ne 7, 3) := by decide +kernel
theorem dX12_bridge_130 : decode cX12_bridge 130 = .ok (.iload_n 2, 1) := by decide +kernel
theorem dX12_bridge_131 : decode cX12_bridge 131 = .ok (.goto 5, 3) := by decide +kernel
theorem dX12_bridge_134 : decode cX12_bridge 134 = .ok (.bipush (-9), 2) := by decide +kernel
theorem dX12_bridge_136 : decode cX12_bridge 136 = .ok (.ireturn, 1) := by decide +kernel
theorem dX12_sun_0 : decode cX12_sun 0 = .ok (.aload_n 0, 1) := by decide +kernel
theorem dX12_sun_1 : decode cX12_sun 1 = .ok (.getfield 82, 3) := by decide +kernel
theorem dX12_sun_4 : decode cX12_sun 4 = .ok (.ifCond .ne 6, 3) := by decide +kernel
theorem dX12_sun_7 : decode cX12_sun 7 = .ok (.bipush (-3), 2) := by decide +kernel
theorem dX12_sun_9 : decode cX12_sun 9 = .ok (.ireturn, 1) := by decide +kernel
theorem dX12_sun_10 : decode cX12_sun 10 = .ok (.iconst 0, 1) := by decide +kernel
theorem dX12_sun_11 : decode cX12_sun 11 = .ok (.istore_n 1, 1) := by decide +kernel
theorem dX12_sun_12 : decode cX12_sun 12 = .ok (.iconst 0, 1) := by decide +kernel
theorem dX12_sun_13 : decode cX12_sun 13 = .ok (.istore_n 2, 1) := by decide +kernel
theorem dX12_sun_14 : decode cX12_sun 14 = .ok (.iload_n 2, 1) := by decide +kernel
theorem dX12_sun_15 : decode cX12_sun 15 = .ok (.aload_n 0, 1) := by decide +kernel
theorem dX12_sun_16 : decode cX12_sun 16 = .ok (.getfield 82, 3) := by decide +kernel
theorem dX12_sun_19 : decode cX12_sun 19 = .ok (.if_icmp .ge 28, 3) := by decide +kernel
theorem dX12_sun_22 : decode cX12_sun 22 = .ok (.iload_n 1, 1) := by decide +kernel
theorem dX12_sun_23 : decode cX12_sun 23 = .ok (.aload_n 0, 1) := by decide +kernel
theorem dX12_sun_24 : decode cX12_sun 24 = .ok (.getfield 19, 3) := by decide +kernel
theorem dX12_sun_27 : decode cX12_sun 27 = .ok (.iload_n 2, 1) := by decide +kernel
theorem dX12_sun_28 : decode cX12_sun 28 = .ok (.iaload, 1) := by decide +kernel
theorem dX12_sun_29 : decode cX12_sun 29 = .ok (.ifCond .eq 9, 3) := by decide +kernel
theorem dX12_sun_32 : decode cX12_sun 32 = .ok (.iconst 1, 1) := by decide +kernel
theorem dX12_sun_33 : decode cX12_sun 33 = .ok (.iload_n 2, 1) := by decide +kernel
theorem dX12_sun_34 : decode cX12_sun 34 = .ok (.ishl, 1) := by decide +kernel
theorem dX12_sun_35 : decode cX12_sun 35 = .ok (.goto 4, 3) := by decide +kernel
theorem dX12_sun_38 : decode cX12_sun 38 = .ok (.iconst 0, 1) := by decide +kernel
theorem dX12_sun_39 : decode cX12_sun 39 = .ok (.ior, 1) := by decide +kernel
theorem dX12_sun_40 : decode cX12_sun 40 = .ok (.istore_n 1, 1) := by decide +kernel
theorem dX12_sun_41 : decode cX12_sun 41 = .ok (.iinc 2 1, 3) := by decide +kernel
theorem dX12_sun_44 : decode cX12_sun 44 = .ok (.goto (-30), 3) := by decide +kernel
theorem dX12_sun_47 : decode cX12_sun 47 = .ok (.iconst 0, 1) := by decide +kernel
theorem dX12_sun_48 : decode cX12_sun 48 = .ok (.istore_n 2, 1) := by decide +kernel
theorem dX12_sun_49 : decode cX12_sun 49 = .ok (.iload_n 2, 1) := by decide +kernel
theorem dX12_sun_50 : decode cX12_sun 50 = .ok (.aload_n 0, 1) := by decide +kernel
theorem dX12_sun_51 : decode cX12_sun 51 = .ok (.getfield 82, 3) := by decide +kernel
theorem dX12_sun_54 : decode cX12_sun 54 = .ok (.if_icmp .ge 82, 3) := by decide +kernel
theorem dX12_sun_57 : decode cX12_sun 57 = .ok (.iconst 1, 1) := by decide +kernel
theorem dX12_sun_58 : decode cX12_sun 58 = .ok (.iload_n 2, 1) := by decide +kernel
theorem dX12_sun_59 : decode cX12_sun 59 = .ok (.ishl, 1) := by decide +kernel
theorem dX12_sun_60 : decode cX12_sun 60 = .ok (.istore_n 3, 1) := by decide +kernel
theorem dX12_sun_61 : decode cX12_sun 61 = .ok (.iconst 0, 1) := by decide +kernel
theorem dX12_sun_62 : decode cX12_sun 62 = .ok (.istore 4, 2) := by decide +kernel
theorem dX12_sun_64 : decode cX12_sun 64 = .ok (.iload 4, 2) := by decide +kernel
theorem dX12_sun_66 : decode cX12_sun 66 = .ok (.aload_n 0, 1) := by decide +kernel
theorem dX12_sun_67 : decode cX12_sun 67 = .ok (.getfield 82, 3) := by decide +kernel
theorem dX12_sun_70 : decode cX12_sun 70 = .ok (.if_icmp .ge 50, 3) := by decide +kernel
theorem dX12_sun_73 : decode cX12_sun 73 = .ok (.iconst 0, 1) := by decide +kernel
theorem dX12_sun_74 : decode cX12_sun 74 = .ok (.istore 5, 2) := by decide +kernel
theorem dX12_sun_76 : decode cX12_sun 76 = .ok (.iload 5, 2) := by decide +kernel
theorem dX12_sun_78 : decode cX12_sun 78 = .ok (.aload_n 0, 1) := by decide +kernel
theorem dX12_sun_79 : decode cX12_sun 79 = .ok (.getfield 82, 3) := by decide +kernel
theorem dX12_sun_82 : decode cX12_sun 82 = .ok (.if_icmp .ge 32, 3) := by decide +kernel
theorem dX12_sun_85 : decode cX12_sun 85 = .ok (.iload_n 3, 1) := by decide +kernel
theorem dX12_sun_86 : decode cX12_sun 86 = .ok (.iload_n 3, 1) := by decide +kernel
theorem dX12_sun_87 : decode cX12_sun 87 = .ok (.iload 5, 2) := by decide +kernel
theorem dX12_sun_89 : decode cX12_sun 89 = .ok (.invokestatic 106, 3) := by decide +kernel
theorem dX12_sun_92 : decode cX12_sun 92 = .ok (.ifCond .eq 13, 3) := by decide +kernel
theorem dX12_sun_95 : decode cX12_sun 95 = .ok (.aload_n 0, 1) := by decide +kernel
theorem dX12_sun_96 : decode cX12_sun 96 = .ok (.getfield 19, 3) := by decide +kernel
theorem dX12_sun_99 : decode cX12_sun 99 = .ok (.iload 5, 2) := by decide +kernel
theorem dX12_sun_101 : decode cX12_sun 101 = .ok (.iaload, 1) := by decide +kernel
theorem dX12_sun_102 : decode cX12_sun 102 = .ok (.goto 4, 3) := by decide +kernel
theorem dX12_sun_105 : decode cX12_sun 105 = .ok (.iconst 0, 1) := by decide +kernel
theorem dX12_sun_106 : decode cX12_sun 106 = .ok (.ior, 1) := by decide +kernel
theorem dX12_sun_107 : decode cX12_sun 107 = .ok (.istore_n 3, 1) := by decide +kernel
theorem dX12_sun_108 : decode cX12_sun 108 = .ok (.iinc 5 1, 3) := by decide +kernel
theorem dX12_sun_111 : decode cX12_sun 111 = .ok (.goto (-35), 3) := by decide +kernel
theorem dX12_sun_114 : decode cX12_sun 114 = .ok (.iinc 4 1, 3) := by decide +kernel
theorem dX12_sun_117 : decode cX12_sun 117 = .ok (.goto (-53), 3) := by decide +kernel
theorem dX12_sun_120 : decode cX12_sun 120 = .ok (.iload_n 1, 1) := by decide +kernel
theorem dX12_sun_121 : decode cX12_sun 121 = .ok (.iload_n 3, 1) := by decide +kernel
theorem dX12_sun_122 : decode cX12_sun 122 = .ok (.iconst (-1), 1) := by decide +kernel
theorem dX12_sun_123 : decode cX12_sun 123 = .ok (.ixor, 1) := by decide +kernel
theorem dX12_sun_124 : decode cX12_sun 124 = .ok (.iand, 1) := by decide +kernel
theorem dX12_sun_125 : decode cX12_sun 125 = .ok (.ifCond .eq 5, 3) := by decide +kernel
theorem dX12_sun_128 : decode cX12_sun 128 = .ok (.iconst 0, 1) := by decide +kernel
theorem dX12_sun_129 : decode cX12_sun 129 = .ok (.ireturn, 1) := by decide +kernel
theorem dX12_sun_130 : decode cX12_sun 130 = .ok (.iinc 2 1, 3) := by decide +kernel
theorem dX12_sun_133 : decode cX12_sun 133 = .ok (.goto (-84), 3) := by decide +kernel
theorem dX12_sun_136 : decode cX12_sun 136 = .ok (.iconst 1, 1) := by decide +kernel
theorem dX12_sun_137 : decode cX12_sun 137 = .ok (.ireturn, 1) := by decide +kernel
theorem dX12_verdictFrom_0 : decode cX12_verdictFrom 0 = .ok (.aload_n 0, 1) := by decide +kernel
theorem dX12_verdictFrom_1 : decode cX12_verdictFrom 1 = .ok (.aload_n 1, 1) := by decide +kernel
theorem dX12_verdictFrom_2 : decode cX12_verdictFrom 2 = .ok (.iload_n 2, 1) := by decide +kernel
theorem dX12_verdictFrom_3 : decode cX12_verdictFrom 3 = .ok (.iload_n 3, 1) := by decide +kernel
theorem dX12_verdictFrom_4 : decode cX12_verdictFrom 4 = .ok (.invokevirtual 184, 3) := by decide +kernel
theorem dX12_verdictFrom_7 : decode cX12_verdictFrom 7 = .ok (.aload_n 0, 1) := by decide +kernel
theorem dX12_verdictFrom_8 : decode cX12_verdictFrom 8 = .ok (.aload_n 0, 1) := by decide +kernel
theorem dX12_verdictFrom_9 : decode cX12_verdictFrom 9 = .ok (.aload_n 0, 1) := by decide +kernel
theorem dX12_verdictFrom_10 : decode cX12_verdictFrom 10 = .ok (.iload_n 2, 1) := by decide +kernel
theorem dX12_verdictFrom_11 : decode cX12_verdictFrom 11 = .ok (.invokevirtual 114, 3) := by decide +kernel
theorem dX12_verdictFrom_14 : decode cX12_verdictFrom 14 = .ok (.iconst 1, 1) := by decide +kernel
theorem dX12_verdictFrom_15 : decode cX12_verdictFrom 15 = .ok (.iload_n 2, 1) := by decide +kernel
theorem dX12_verdictFrom_16 : decode cX12_verdictFrom 16 = .ok (.ishl, 1) := by decide +kernel
theorem dX12_verdictFrom_17 : decode cX12_verdictFrom 17 = .ok (.iconst 1, 1) := by decide +kernel
theorem dX12_verdictFrom_18 : decode cX12_verdictFrom 18 = .ok (.isub, 1) := by decide +kernel
theorem dX12_verdictFrom_19 : decode cX12_verdictFrom 19 = .ok (.invokevirtual 188, 3) := by decide +kernel
theorem dX12_verdictFrom_22 : decode cX12_verdictFrom 22 = .ok (.invokevirtual 194, 3) := by decide +kernel
theorem dX12_verdictFrom_25 : decode cX12_verdictFrom 25 = .ok (.ireturn, 1) := by decide +kernel
theorem dX12_mend_0 : decode cX12_mend 0 = .ok (.iload_n 1, 1) := by decide +kernel
theorem dX12_mend_1 : decode cX12_mend 1 = .ok (.invokestatic 150, 3) := by decide +kernel
theorem dX12_mend_4 : decode cX12_mend 4 = .ok (.ifCond .eq 13, 3) := by decide +kernel
theorem dX12_mend_7 : decode cX12_mend 7 = .ok (.iload_n 2, 1) := by decide +kernel
theorem dX12_mend_8 : decode cX12_mend 8 = .ok (.iconst (-1), 1) := by decide +kernel
theorem dX12_mend_9 : decode cX12_mend 9 = .ok (.bipush 11, 2) := by decide +kernel
theorem dX12_mend_11 : decode cX12_mend 11 = .ok (.invokestatic 78, 3) := by decide +kernel
theorem dX12_mend_14 : decode cX12_mend 14 = .ok (.ifCond .ne 5, 3) := by decide +kernel
theorem dX12_mend_17 : decode cX12_mend 17 = .ok (.iconst (-1), 1) := by decide +kernel
theorem dX12_mend_18 : decode cX12_mend 18 = .ok (.ireturn, 1) := by decide +kernel
theorem dX12_mend_19 : decode cX12_mend 19 = .ok (.aload_n 0, 1) := by decide +kernel
theorem dX12_mend_20 : decode cX12_mend 20 = .ok (.getfield 82, 3) := by decide +kernel
theorem dX12_mend_23 : decode cX12_mend 23 = .ok (.ifCond .ne 6, 3) := by decide +kernel
theorem dX12_mend_26 : decode cX12_mend 26 = .ok (.bipush (-3), 2) := by decide +kernel
theorem dX12_mend_28 : decode cX12_mend 28 = .ok (.ireturn, 1) := by decide +kernel
theorem dX12_mend_29 : decode cX12_mend 29 = .ok (.iconst 0, 1) := by decide +kernel
theorem dX12_mend_30 : decode cX12_mend 30 = .ok (.istore_n 3, 1) := by decide +kernel
theorem dX12_mend_31 : decode cX12_mend 31 = .ok (.iconst 0, 1) := by decide +kernel
theorem dX12_mend_32 : decode cX12_mend 32 = .ok (.istore 4, 2) := by decide +kernel
theorem dX12_mend_34 : decode cX12_mend 34 = .ok (.iload 4, 2) := by decide +kernel
theorem dX12_mend_36 : decode cX12_mend 36 = .ok (.aload_n 0, 1) := by decide +kernel
theorem dX12_mend_37 : decode cX12_mend 37 = .ok (.getfield 82, 3) := by decide +kernel
theorem dX12_mend_40 : decode cX12_mend 40 = .ok (.if_icmp .ge 94, 3) := by decide +kernel
theorem dX12_mend_43 : decode cX12_mend 43 = .ok (.iconst 0, 1) := by decide +kernel
theorem dX12_mend_44 : decode cX12_mend 44 = .ok (.istore 5, 2) := by decide +kernel
theorem dX12_mend_46 : decode cX12_mend 46 = .ok (.iload 5, 2) := by decide +kernel
theorem dX12_mend_48 : decode cX12_mend 48 = .ok (.aload_n 0, 1) := by decide +kernel
theorem dX12_mend_49 : decode cX12_mend 49 = .ok (.getfield 82, 3) := by decide +kernel
theorem dX12_mend_52 : decode cX12_mend 52 = .ok (.if_icmp .ge 76, 3) := by decide +kernel
theorem dX12_mend_55 : decode cX12_mend 55 = .ok (.iload 4, 2) := by decide +kernel
theorem dX12_mend_57 : decode cX12_mend 57 = .ok (.iload 5, 2) := by decide +kernel
theorem dX12_mend_59 : decode cX12_mend 59 = .ok (.if_icmp .eq 63, 3) := by decide +kernel
theorem dX12_mend_62 : decode cX12_mend 62 = .ok (.aload_n 0, 1) := by decide +kernel
theorem dX12_mend_63 : decode cX12_mend 63 = .ok (.getfield 19, 3) := by decide +kernel
theorem dX12_mend_66 : decode cX12_mend 66 = .ok (.iload 4, 2) := by decide +kernel
theorem dX12_mend_68 : decode cX12_mend 68 = .ok (.iaload, 1) := by decide +kernel
theorem dX12_mend_69 : decode cX12_mend 69 = .ok (.iload 5, 2) := by decide +kernel
theorem dX12_mend_71 : decode cX12_mend 71 = .ok (.invokestatic 106, 3) := by decide +kernel
theorem dX12_mend_74 : decode cX12_mend 74 = .ok (.ifCond .eq 6, 3) := by decide +kernel
theorem dX12_mend_77 : decode cX12_mend 77 = .ok (.goto 45, 3) := by decide +kernel
theorem dX12_mend_80 : decode cX12_mend 80 = .ok (.aload_n 0, 1) := by decide +kernel
theorem dX12_mend_81 : decode cX12_mend 81 = .ok (.iload 4, 2) := by decide +kernel
theorem dX12_mend_83 : decode cX12_mend 83 = .ok (.iload 5, 2) := by decide +kernel
theorem dX12_mend_85 : decode cX12_mend 85 = .ok (.invokevirtual 217, 3) := by decide +kernel
theorem dX12_mend_88 : decode cX12_mend 88 = .ok (.aload_n 0, 1) := by decide +kernel
theorem dX12_mend_89 : decode cX12_mend 89 = .ok (.aload_n 0, 1) := by decide +kernel
theorem dX12_mend_90 : decode cX12_mend 90 = .ok (.getfield 66, 3) := by decide +kernel
theorem dX12_mend_93 : decode cX12_mend 93 = .ok (.aload_n 0, 1) := by decide +kernel
theorem dX12_mend_94 : decode cX12_mend 94 = .ok (.getfield 82, 3) := by decide +kernel
theorem dX12_mend_97 : decode cX12_mend 97 = .ok (.iload_n 1, 1) := by decide +kernel
theorem dX12_mend_98 : decode cX12_mend 98 = .ok (.invokevirtual 220, 3) := by decide +kernel
theorem dX12_mend_101 : decode cX12_mend 101 = .ok (.iconst 2, 1) := by decide +kernel
theorem dX12_mend_102 : decode cX12_mend 102 = .ok (.if_icmp .ne 20, 3) := by decide +kernel
theorem dX12_mend_105 : decode cX12_mend 105 = .ok (.iload_n 3, 1) := by decide +kernel
theorem dX12_mend_106 : decode cX12_mend 106 = .ok (.iload_n 2, 1) := by decide +kernel
theorem dX12_mend_107 : decode cX12_mend 107 = .ok (.if_icmp .ne 12, 3) := by decide +kernel
theorem dX12_mend_110 : decode cX12_mend 110 = .ok (.bipush 10, 2) := by decide +kernel
theorem dX12_mend_112 : decode cX12_mend 112 = .ok (.iload 4, 2) := by decide +kernel
theorem dX12_mend_114 : decode cX12_mend 114 = .ok (.imul, 1) := by decide +kernel
theorem dX12_mend_115 : decode cX12_mend 115 = .ok (.iload 5, 2) := by decide +kernel
theorem dX12_mend_117 : decode cX12_mend 117 = .ok (.iadd, 1) := by decide +kernel
theorem dX12_mend_118 : decode cX12_mend 118 = .ok (.ireturn, 1) := by decide +kernel
theorem dX12_mend_119 : decode cX12_mend 119 = .ok (.iinc 3 1, 3) := by decide +kernel
theorem dX12_mend_122 : decode cX12_mend 122 = .ok (.iinc 5 1, 3) := by decide +kernel
theorem dX12_mend_125 : decode cX12_mend 125 = .ok (.goto (-79), 3) := by decide +kernel
theorem dX12_mend_128 : decode cX12_mend 128 = .ok (.iinc 4 1, 3) := by decide +kernel
theorem dX12_mend_131 : decode cX12_mend 131 = .ok (.goto (-97), 3) := by decide +kernel
theorem dX12_mend_134 : decode cX12_mend 134 = .ok (.iload_n 2, 1) := by decide +kernel
theorem dX12_mend_135 : decode cX12_mend 135 = .ok (.iconst (-1), 1) := by decide +kernel
theorem dX12_mend_136 : decode cX12_mend 136 = .ok (.if_icmp .ne 7, 3) := by decide +kernel
theorem dX12_mend_139 : decode cX12_mend 139 = .ok (.iload_n 3, 1) := by decide +kernel
theorem dX12_mend_140 : decode cX12_mend 140 = .ok (.goto 5, 3) := by decide +kernel
theorem dX12_mend_143 : decode cX12_mend 143 = .ok (.bipush (-9), 2) := by decide +kernel
theorem dX12_mend_145 : decode cX12_mend 145 = .ok (.ireturn, 1) := by decide +kernel
theorem dX12_layNet_0 : decode cX12_layNet 0 = .ok (.iload_n 1, 1) := by decide +kernel
theorem dX12_layNet_1 : decode cX12_layNet 1 = .ok (.istore_n 3, 1) := by decide +kernel
theorem dX12_layNet_2 : decode cX12_layNet 2 = .ok (.iconst 0, 1) := by decide +kernel
theorem dX12_layNet_3 : decode cX12_layNet 3 = .ok (.istore 4, 2) := by decide +kernel
theorem dX12_layNet_5 : decode cX12_layNet 5 = .ok (.iload 4, 2) := by decide +kernel
theorem dX12_layNet_7 : decode cX12_layNet 7 = .ok (.iload_n 2, 1) := by decide +kernel
theorem dX12_layNet_8 : decode cX12_layNet 8 = .ok (.if_icmp .ge 59, 3) := by decide +kernel
theorem dX12_layNet_11 : decode cX12_layNet 11 = .ok (.aload_n 0, 1) := by decide +kernel
theorem dX12_layNet_12 : decode cX12_layNet 12 = .ok (.getfield 66, 3) := by decide +kernel
theorem dX12_layNet_15 : decode cX12_layNet 15 = .ok (.iload 4, 2) := by decide +kernel
theorem dX12_layNet_17 : decode cX12_layNet 17 = .ok (.iconst 0, 1) := by decide +kernel
theorem dX12_layNet_18 : decode cX12_layNet 18 = .ok (.iastore, 1) := by decide +kernel
theorem dX12_layNet_19 : decode cX12_layNet 19 = .ok (.iconst 0, 1) := by decide +kernel
theorem dX12_layNet_20 : decode cX12_layNet 20 = .ok (.istore 5, 2) := by decide +kernel
theorem dX12_layNet_22 : decode cX12_layNet 22 = .ok (.iload 5, 2) := by decide +kernel
theorem dX12_layNet_24 : decode cX12_layNet 24 = .ok (.iload_n 2, 1) := by decide +kernel
theorem dX12_layNet_25 : decode cX12_layNet 25 = .ok (.if_icmp .ge 36, 3) := by decide +kernel
theorem dX12_layNet_28 : decode cX12_layNet 28 = .ok (.iload 4, 2) := by decide +kernel
theorem dX12_layNet_30 : decode cX12_layNet 30 = .ok (.iload 5, 2) := by decide +kernel
theorem dX12_layNet_32 : decode cX12_layNet 32 = .ok (.if_icmp .eq 23, 3) := by decide +kernel
theorem dX12_layNet_35 : decode cX12_layNet 35 = .ok (.aload_n 0, 1) := by decide +kernel
theorem dX12_layNet_36 : decode cX12_layNet 36 = .ok (.getfield 66, 3) := by decide +kernel
theorem dX12_layNet_39 : decode cX12_layNet 39 = .ok (.iload 4, 2) := by decide +kernel
theorem dX12_layNet_41 : decode cX12_layNet 41 = .ok (.dup2, 1) := by decide +kernel
theorem dX12_layNet_42 : decode cX12_layNet 42 = .ok (.iaload, 1) := by decide +kernel
theorem dX12_layNet_43 : decode cX12_layNet 43 = .ok (.iload_n 3, 1) := by decide +kernel
theorem dX12_layNet_44 : decode cX12_layNet 44 = .ok (.iconst 1, 1) := by decide +kernel
theorem dX12_layNet_45 : decode cX12_layNet 45 = .ok (.iand, 1) := by decide +kernel
theorem dX12_layNet_46 : decode cX12_layNet 46 = .ok (.iload 5, 2) := by decide +kernel
theorem dX12_layNet_48 : decode cX12_layNet 48 = .ok (.ishl, 1) := by decide +kernel
theorem dX12_layNet_49 : decode cX12_layNet 49 = .ok (.ior, 1) := by decide +kernel
theorem dX12_layNet_50 : decode cX12_layNet 50 = .ok (.iastore, 1) := by decide +kernel
theorem dX12_layNet_51 : decode cX12_layNet 51 = .ok (.iload_n 3, 1) := by decide +kernel
theorem dX12_layNet_52 : decode cX12_layNet 52 = .ok (.iconst 1, 1) := by decide +kernel
theorem dX12_layNet_53 : decode cX12_layNet 53 = .ok (.ishr, 1) := by decide +kernel
theorem dX12_layNet_54 : decode cX12_layNet 54 = .ok (.istore_n 3, 1) := by decide +kernel
theorem dX12_layNet_55 : decode cX12_layNet 55 = .ok (.iinc 5 1, 3) := by decide +kernel
theorem dX12_layNet_58 : decode cX12_layNet 58 = .ok (.goto (-36), 3) := by decide +kernel
theorem dX12_layNet_61 : decode cX12_layNet 61 = .ok (.iinc 4 1, 3) := by decide +kernel
theorem dX12_layNet_64 : decode cX12_layNet 64 = .ok (.goto (-59), 3) := by decide +kernel
theorem dX12_layNet_67 : decode cX12_layNet 67 = .ok (.return_, 1) := by decide +kernel
theorem dX12_nets_0 : decode cX12_nets 0 = .ok (.iload_n 2, 1) := by decide +kernel
theorem dX12_nets_1 : decode cX12_nets 1 = .ok (.invokestatic 150, 3) := by decide +kernel
theorem dX12_nets_4 : decode cX12_nets 4 = .ok (.ifCond .ne 5, 3) := by decide +kernel
theorem dX12_nets_7 : decode cX12_nets 7 = .ok (.iconst (-1), 1) := by decide +kernel
theorem dX12_nets_8 : decode cX12_nets 8 = .ok (.ireturn, 1) := by decide +kernel
theorem dX12_nets_9 : decode cX12_nets 9 = .ok (.iload_n 1, 1) := by decide +kernel
theorem dX12_nets_10 : decode cX12_nets 10 = .ok (.iconst 1, 1) := by decide +kernel
theorem dX12_nets_11 : decode cX12_nets 11 = .ok (.iconst 3, 1) := by decide +kernel
theorem dX12_nets_12 : decode cX12_nets 12 = .ok (.invokestatic 78, 3) := by decide +kernel
theorem dX12_nets_15 : decode cX12_nets 15 = .ok (.ifCond .eq 12, 3) := by decide +kernel
theorem dX12_nets_18 : decode cX12_nets 18 = .ok (.iload_n 3, 1) := by decide +kernel
theorem dX12_nets_19 : decode cX12_nets 19 = .ok (.iconst 0, 1) := by decide +kernel
theorem dX12_nets_20 : decode cX12_nets 20 = .ok (.iconst 3, 1) := by decide +kernel
theorem dX12_nets_21 : decode cX12_nets 21 = .ok (.invokestatic 78, 3) := by decide +kernel
theorem dX12_nets_24 : decode cX12_nets 24 = .ok (.ifCond .ne 6, 3) := by decide +kernel
theorem dX12_nets_27 : decode cX12_nets 27 = .ok (.bipush (-2), 2) := by decide +kernel
theorem dX12_nets_29 : decode cX12_nets 29 = .ok (.ireturn, 1) := by decide +kernel
theorem dX12_nets_30 : decode cX12_nets 30 = .ok (.iconst 0, 1) := by decide +kernel
theorem dX12_nets_31 : decode cX12_nets 31 = .ok (.istore 4, 2) := by decide +kernel
theorem dX12_nets_33 : decode cX12_nets 33 = .ok (.iconst 0, 1) := by decide +kernel
theorem dX12_nets_34 : decode cX12_nets 34 = .ok (.istore 5, 2) := by decide +kernel
theorem dX12_nets_36 : decode cX12_nets 36 = .ok (.iload 5, 2) := by decide +kernel
theorem dX12_nets_38 : decode cX12_nets 38 = .ok (.iconst 1, 1) := by decide +kernel
theorem dX12_nets_39 : decode cX12_nets 39 = .ok (.iload_n 1, 1) := by decide +kernel
theorem dX12_nets_40 : decode cX12_nets 40 = .ok (.iload_n 1, 1) := by decide +kernel
theorem dX12_nets_41 : decode cX12_nets 41 = .ok (.iconst 1, 1) := by decide +kernel
theorem dX12_nets_42 : decode cX12_nets 42 = .ok (.isub, 1) := by decide +kernel
theorem dX12_nets_43 : decode cX12_nets 43 = .ok (.imul, 1) := by decide +kernel
theorem dX12_nets_44 : decode cX12_nets 44 = .ok (.ishl, 1) := by decide +kernel
theorem dX12_nets_45 : decode cX12_nets 45 = .ok (.if_icmp .ge 56, 3) := by decide +kernel
theorem dX12_nets_48 : decode cX12_nets 48 = .ok (.aload_n 0, 1) := by decide +kernel
theorem dX12_nets_49 : decode cX12_nets 49 = .ok (.iload 5, 2) := by decide +kernel
theorem dX12_nets_51 : decode cX12_nets 51 = .ok (.iload_n 1, 1) := by decide +kernel
theorem dX12_nets_52 : decode cX12_nets 52 = .ok (.invokevirtual 223, 3) := by decide +kernel
theorem dX12_nets_55 : decode cX12_nets 55 = .ok (.aload_n 0, 1) := by decide +kernel
theorem dX12_nets_56 : decode cX12_nets 56 = .ok (.getfield 66, 3) := by decide +kernel
theorem dX12_nets_59 : decode cX12_nets 59 = .ok (.iload_n 1, 1) := by decide +kernel
theorem dX12_nets_60 : decode cX12_nets 60 = .ok (.invokestatic 213, 3) := by decide +kernel
theorem dX12_nets_63 : decode cX12_nets 63 = .ok (.ifCond .eq 32, 3) := by decide +kernel
theorem dX12_nets_66 : decode cX12_nets 66 = .ok (.iload 4, 2) := by decide +kernel
theorem dX12_nets_68 : decode cX12_nets 68 = .ok (.iload_n 3, 1) := by decide +kernel
theorem dX12_nets_69 : decode cX12_nets 69 = .ok (.iconst 3, 1) := by decide +kernel
theorem dX12_nets_70 : decode cX12_nets 70 = .ok (.if_icmp .eq 17, 3) := by decide +kernel
theorem dX12_nets_73 : decode cX12_nets 73 = .ok (.aload_n 0, 1) := by decide +kernel
theorem dX12_nets_74 : decode cX12_nets 74 = .ok (.aload_n 0, 1) := by decide +kernel
theorem dX12_nets_75 : decode cX12_nets 75 = .ok (.getfield 66, 3) := by decide +kernel
theorem dX12_nets_78 : decode cX12_nets 78 = .ok (.iload_n 1, 1) := by decide +kernel
theorem dX12_nets_79 : decode cX12_nets 79 = .ok (.iload_n 2, 1) := by decide +kernel
theorem dX12_nets_80 : decode cX12_nets 80 = .ok (.invokevirtual 220, 3) := by decide +kernel
theorem dX12_nets_83 : decode cX12_nets 83 = .ok (.iload_n 3, 1) := by decide +kernel
theorem dX12_nets_84 : decode cX12_nets 84 = .ok (.if_icmp .ne 7, 3) := by decide +kernel
theorem dX12_nets_87 : decode cX12_nets 87 = .ok (.iconst 1, 1) := by decide +kernel
theorem dX12_nets_88 : decode cX12_nets 88 = .ok (.goto 4, 3) := by decide +kernel
theorem dX12_nets_91 : decode cX12_nets 91 = .ok (.iconst 0, 1) := by decide +kernel
theorem dX12_nets_92 : decode cX12_nets 92 = .ok (.iadd, 1) := by decide +kernel
theorem dX12_nets_93 : decode cX12_nets 93 = .ok (.istore 4, 2) := by decide +kernel
theorem dX12_nets_95 : decode cX12_nets 95 = .ok (.iinc 5 1, 3) := by decide +kernel
theorem dX12_nets_98 : decode cX12_nets 98 = .ok (.goto (-62), 3) := by decide +kernel
theorem dX12_nets_101 : decode cX12_nets 101 = .ok (.iload 4, 2) := by decide +kernel
theorem dX12_nets_103 : decode cX12_nets 103 = .ok (.ireturn, 1) := by decide +kernel
theorem dX12_within_0 : decode cX12_within 0 = .ok (.iload_n 1, 1) := by decide +kernel
theorem dX12_within_1 : decode cX12_within 1 = .ok (.invokestatic 150, 3) := by decide +kernel
theorem dX12_within_4 : decode cX12_within 4 = .ok (.ifCond .eq 10, 3) := by decide +kernel
theorem dX12_within_7 : decode cX12_within 7 = .ok (.iload_n 2, 1) := by decide +kernel
theorem dX12_within_8 : decode cX12_within 8 = .ok (.invokestatic 150, 3) := by decide +kernel
theorem dX12_within_11 : decode cX12_within 11 = .ok (.ifCond .ne 5, 3) := by decide +kernel
theorem dX12_within_14 : decode cX12_within 14 = .ok (.iconst (-1), 1) := by decide +kernel
theorem dX12_within_15 : decode cX12_within 15 = .ok (.ireturn, 1) := by decide +kernel
theorem dX12_within_16 : decode cX12_within 16 = .ok (.iload_n 1, 1) := by decide +kernel
theorem dX12_within_17 : decode cX12_within 17 = .ok (.iload_n 2, 1) := by decide +kernel
theorem dX12_within_18 : decode cX12_within 18 = .ok (.iadd, 1) := by decide +kernel
theorem dX12_within_19 : decode cX12_within 19 = .ok (.iconst 5, 1) := by decide +kernel
theorem dX12_within_20 : decode cX12_within 20 = .ok (.if_icmp .ne 16, 3) := by decide +kernel
theorem dX12_within_23 : decode cX12_within 23 = .ok (.iload_n 1, 1) := by decide +kernel
theorem dX12_within_24 : decode cX12_within 24 = .ok (.iconst 1, 1) := by decide +kernel
theorem dX12_within_25 : decode cX12_within 25 = .ok (.if_icmp .le 11, 3) := by decide +kernel
theorem dX12_within_28 : decode cX12_within 28 = .ok (.iload_n 2, 1) := by decide +kernel
theorem dX12_within_29 : decode cX12_within 29 = .ok (.iconst 1, 1) := by decide +kernel
theorem dX12_within_30 : decode cX12_within 30 = .ok (.if_icmp .le 6, 3) := by decide +kernel
theorem dX12_within_33 : decode cX12_within 33 = .ok (.bipush (-2), 2) := by decide +kernel
theorem dX12_within_35 : decode cX12_within 35 = .ok (.ireturn, 1) := by decide +kernel
theorem dX12_within_36 : decode cX12_within 36 = .ok (.aload_n 0, 1) := by decide +kernel
theorem dX12_within_37 : decode cX12_within 37 = .ok (.getfield 82, 3) := by decide +kernel
theorem dX12_within_40 : decode cX12_within 40 = .ok (.ifCond .ne 6, 3) := by decide +kernel
theorem dX12_within_43 : decode cX12_within 43 = .ok (.bipush (-3), 2) := by decide +kernel
theorem dX12_within_45 : decode cX12_within 45 = .ok (.ireturn, 1) := by decide +kernel
theorem dX12_within_46 : decode cX12_within 46 = .ok (.iload_n 1, 1) := by decide +kernel
theorem dX12_within_47 : decode cX12_within 47 = .ok (.iconst 1, 1) := by decide +kernel
theorem dX12_within_48 : decode cX12_within 48 = .ok (.if_icmp .le 7, 3) := by decide +kernel
theorem dX12_within_51 : decode cX12_within 51 = .ok (.iload_n 1, 1) := by decide +kernel
theorem dX12_within_52 : decode cX12_within 52 = .ok (.goto 4, 3) := by decide +kernel
theorem dX12_within_55 : decode cX12_within 55 = .ok (.iload_n 2, 1) := by decide +kernel
theorem dX12_within_56 : decode cX12_within 56 = .ok (.istore_n 3, 1) := by decide +kernel
theorem dX12_within_57 : decode cX12_within 57 = .ok (.aload_n 0, 1) := by decide +kernel
theorem dX12_within_58 : decode cX12_within 58 = .ok (.aload_n 0, 1) := by decide +kernel
theorem dX12_within_59 : decode cX12_within 59 = .ok (.getfield 19, 3) := by decide +kernel
theorem dX12_within_62 : decode cX12_within 62 = .ok (.aload_n 0, 1) := by decide +kernel
theorem dX12_within_63 : decode cX12_within 63 = .ok (.getfield 82, 3) := by decide +kernel
theorem dX12_within_66 : decode cX12_within 66 = .ok (.iload_n 1, 1) := by decide +kernel
theorem dX12_within_67 : decode cX12_within 67 = .ok (.invokevirtual 184, 3) := by decide +kernel
theorem dX12_within_70 : decode cX12_within 70 = .ok (.iconst 0, 1) := by decide +kernel
theorem dX12_within_71 : decode cX12_within 71 = .ok (.istore 4, 2) := by decide +kernel
theorem dX12_within_73 : decode cX12_within 73 = .ok (.iconst 1, 1) := by decide +kernel
theorem dX12_within_74 : decode cX12_within 74 = .ok (.istore 5, 2) := by decide +kernel
theorem dX12_within_76 : decode cX12_within 76 = .ok (.aload_n 0, 1) := by decide +kernel
theorem dX12_within_77 : decode cX12_within 77 = .ok (.getfield 69, 3) := by decide +kernel
theorem dX12_within_80 : decode cX12_within 80 = .ok (.iconst 0, 1) := by decide +kernel
theorem dX12_within_81 : decode cX12_within 81 = .ok (.aload_n 0, 1) := by decide +kernel
theorem dX12_within_82 : decode cX12_within 82 = .ok (.aload_n 0, 1) := by decide +kernel
theorem dX12_within_83 : decode cX12_within 83 = .ok (.getfield 103, 3) := by decide +kernel
theorem dX12_within_86 : decode cX12_within 86 = .ok (.invokevirtual 128, 3) := by decide +kernel
theorem dX12_within_89 : decode cX12_within 89 = .ok (.aload_n 0, 1) := by decide +kernel
theorem dX12_within_90 : decode cX12_within 90 = .ok (.iload_n 3, 1) := by decide +kernel
theorem dX12_within_91 : decode cX12_within 91 = .ok (.invokevirtual 135, 3) := by decide +kernel
theorem dX12_within_94 : decode cX12_within 94 = .ok (.bipush 16, 2) := by decide +kernel
theorem dX12_within_96 : decode cX12_within 96 = .ok (.ishl, 1) := by decide +kernel
theorem dX12_within_97 : decode cX12_within 97 = .ok (.ior, 1) := by decide +kernel
theorem dX12_within_98 : decode cX12_within 98 = .ok (.iastore, 1) := by decide +kernel
theorem dX12_within_99 : decode cX12_within 99 = .ok (.aload_n 0, 1) := by decide +kernel
theorem dX12_within_100 : decode cX12_within 100 = .ok (.getfield 32, 3) := by decide +kernel
theorem dX12_within_103 : decode cX12_within 103 = .ok (.aload_n 0, 1) := by decide +kernel
theorem dX12_within_104 : decode cX12_within 104 = .ok (.aload_n 0, 1) := by decide +kernel
theorem dX12_within_105 : decode cX12_within 105 = .ok (.getfield 103, 3) := by decide +kernel
theorem dX12_within_108 : decode cX12_within 108 = .ok (.invokevirtual 128, 3) := by decide +kernel
theorem dX12_within_111 : decode cX12_within 111 = .ok (.aload_n 0, 1) := by decide +kernel
theorem dX12_within_112 : decode cX12_within 112 = .ok (.iload_n 3, 1) := by decide +kernel
theorem dX12_within_113 : decode cX12_within 113 = .ok (.invokevirtual 135, 3) := by decide +kernel
theorem dX12_within_116 : decode cX12_within 116 = .ok (.invokestatic 158, 3) := by decide +kernel
theorem dX12_within_119 : decode cX12_within 119 = .ok (.aload_n 0, 1) := by decide +kernel
theorem dX12_within_120 : decode cX12_within 120 = .ok (.getfield 161, 3) := by decide +kernel
theorem dX12_within_123 : decode cX12_within 123 = .ok (.iastore, 1) := by decide +kernel
theorem dX12_within_124 : decode cX12_within 124 = .ok (.iload 4, 2) := by decide +kernel
theorem dX12_within_126 : decode cX12_within 126 = .ok (.iload 5, 2) := by decide +kernel
theorem dX12_within_128 : decode cX12_within 128 = .ok (.if_icmp .ge 197, 3) := by decide +kernel
theorem dX12_within_131 : decode cX12_within 131 = .ok (.aload_n 0, 1) := by decide +kernel
theorem dX12_within_132 : decode cX12_within 132 = .ok (.getfield 69, 3) := by decide +kernel
theorem dX12_within_135 : decode cX12_within 135 = .ok (.iload 4, 2) := by decide +kernel
theorem dX12_within_137 : decode cX12_within 137 = .ok (.iaload, 1) := by decide +kernel
theorem dX12_within_138 : decode cX12_within 138 = .ok (.ldc 157, 2) := by decide +kernel
theorem dX12_within_140 : decode cX12_within 140 = .ok (.iand, 1) := by decide +kernel
theorem dX12_within_141 : decode cX12_within 141 = .ok (.istore 6, 2) := by decide +kernel
theorem dX12_within_143 : decode cX12_within 143 = .ok (.aload_n 0, 1) := by decide +kernel
theorem dX12_within_144 : decode cX12_within 144 = .ok (.getfield 69, 3) := by decide +kernel
theorem dX12_within_147 : decode cX12_within 147 = .ok (.iload 4, 2) := by decide +kernel
theorem dX12_within_149 : decode cX12_within 149 = .ok (.iaload, 1) := by decide +kernel
theorem dX12_within_150 : decode cX12_within 150 = .ok (.bipush 16, 2) := by decide +kernel
theorem dX12_within_152 : decode cX12_within 152 = .ok (.ishr, 1) := by decide +kernel
theorem dX12_within_153 : decode cX12_within 153 = .ok (.istore 7, 2) := by decide +kernel
theorem dX12_within_155 : decode cX12_within 155 = .ok (.iinc 4 1, 3) := by decide +kernel
theorem dX12_within_158 : decode cX12_within 158 = .ok (.iconst 0, 1) := by decide +kernel
theorem dX12_within_159 : decode cX12_within 159 = .ok (.istore 8, 2) := by decide +kernel
theorem dX12_within_161 : decode cX12_within 161 = .ok (.iload 8, 2) := by decide +kernel
theorem dX12_within_163 : decode cX12_within 163 = .ok (.bipush 16, 2) := by decide +kernel
theorem dX12_within_165 : decode cX12_within 165 = .ok (.if_icmp .ge 157, 3) := by decide +kernel
theorem dX12_within_168 : decode cX12_within 168 = .ok (.iload 8, 2) := by decide +kernel
theorem dX12_within_170 : decode cX12_within 170 = .ok (.iconst 4, 1) := by decide +kernel
theorem dX12_within_171 : decode cX12_within 171 = .ok (.idiv, 1) := by decide +kernel
theorem dX12_within_172 : decode cX12_within 172 = .ok (.istore 9, 2) := by decide +kernel
theorem dX12_within_174 : decode cX12_within 174 = .ok (.iload 8, 2) := by decide +kernel
theorem dX12_within_176 : decode cX12_within 176 = .ok (.iconst 4, 1) := by decide +kernel
theorem dX12_within_177 : decode cX12_within 177 = .ok (.irem, 1) := by decide +kernel
theorem dX12_within_178 : decode cX12_within 178 = .ok (.istore 10, 2) := by decide +kernel
theorem dX12_within_180 : decode cX12_within 180 = .ok (.iload 9, 2) := by decide +kernel
theorem dX12_within_182 : decode cX12_within 182 = .ok (.aload_n 0, 1) := by decide +kernel
theorem dX12_within_183 : decode cX12_within 183 = .ok (.getfield 82, 3) := by decide +kernel
theorem dX12_within_186 : decode cX12_within 186 = .ok (.if_icmp .ge 130, 3) := by decide +kernel
theorem dX12_within_189 : decode cX12_within 189 = .ok (.iload 10, 2) := by decide +kernel
theorem dX12_within_191 : decode cX12_within 191 = .ok (.aload_n 0, 1) := by decide +kernel
theorem dX12_within_192 : decode cX12_within 192 = .ok (.getfield 82, 3) := by decide +kernel
theorem dX12_within_195 : decode cX12_within 195 = .ok (.if_icmp .ge 121, 3) := by decide +kernel
theorem dX12_within_198 : decode cX12_within 198 = .ok (.aload_n 0, 1) := by decide +kernel
theorem dX12_within_199 : decode cX12_within 199 = .ok (.getfield 19, 3) := by decide +kernel
theorem dX12_within_202 : decode cX12_within 202 = .ok (.iload_n 1, 1) := by decide +kernel
theorem dX12_within_203 : decode cX12_within 203 = .ok (.iload 6, 2) := by decide +kernel
theorem dX12_within_205 : decode cX12_within 205 = .ok (.iload 7, 2) := by decide +kernel
theorem dX12_within_207 : decode cX12_within 207 = .ok (.iload 9, 2) := by decide +kernel
theorem dX12_within_209 : decode cX12_within 209 = .ok (.iload 10, 2) := by decide +kernel
theorem dX12_within_211 : decode cX12_within 211 = .ok (.invokestatic 153, 3) := by decide +kernel
theorem dX12_within_214 : decode cX12_within 214 = .ok (.ifCond .ne 6, 3) := by decide +kernel
theorem dX12_within_217 : decode cX12_within 217 = .ok (.goto 99, 3) := by decide +kernel
theorem dX12_within_220 : decode cX12_within 220 = .ok (.aload_n 0, 1) := by decide +kernel
theorem dX12_within_221 : decode cX12_within 221 = .ok (.getfield 19, 3) := by decide +kernel
theorem dX12_within_224 : decode cX12_within 224 = .ok (.iload_n 2, 1) := by decide +kernel
theorem dX12_within_225 : decode cX12_within 225 = .ok (.iload 6, 2) := by decide +kernel
theorem dX12_within_227 : decode cX12_within 227 = .ok (.iload 7, 2) := by decide +kernel
theorem dX12_within_229 : decode cX12_within 229 = .ok (.iload 9, 2) := by decide +kernel
theorem dX12_within_231 : decode cX12_within 231 = .ok (.iload 10, 2) := by decide +kernel
theorem dX12_within_233 : decode cX12_within 233 = .ok (.invokestatic 153, 3) := by decide +kernel
theorem dX12_within_236 : decode cX12_within 236 = .ok (.ifCond .ne 5, 3) := by decide +kernel
theorem dX12_within_239 : decode cX12_within 239 = .ok (.iconst 0, 1) := by decide +kernel
theorem dX12_within_240 : decode cX12_within 240 = .ok (.ireturn, 1) := by decide +kernel
theorem dX12_within_241 : decode cX12_within 241 = .ok (.iload 6, 2) := by decide +kernel
theorem dX12_within_243 : decode cX12_within 243 = .ok (.iload 9, 2) := by decide +kernel
theorem dX12_within_245 : decode cX12_within 245 = .ok (.iload 10, 2) := by decide +kernel
theorem dX12_within_247 : decode cX12_within 247 = .ok (.invokestatic 117, 3) := by decide +kernel
theorem dX12_within_250 : decode cX12_within 250 = .ok (.istore 11, 2) := by decide +kernel
theorem dX12_within_252 : decode cX12_within 252 = .ok (.iload 7, 2) := by decide +kernel
theorem dX12_within_254 : decode cX12_within 254 = .ok (.iload_n 3, 1) := by decide +kernel
theorem dX12_within_255 : decode cX12_within 255 = .ok (.iload 9, 2) := by decide +kernel
theorem dX12_within_257 : decode cX12_within 257 = .ok (.iload 10, 2) := by decide +kernel
theorem dX12_within_259 : decode cX12_within 259 = .ok (.invokestatic 121, 3) := by decide +kernel
theorem dX12_within_262 : decode cX12_within 262 = .ok (.istore 12, 2) := by decide +kernel
theorem dX12_within_264 : decode cX12_within 264 = .ok (.iload 11, 2) := by decide +kernel
theorem dX12_within_266 : decode cX12_within 266 = .ok (.iload 12, 2) := by decide +kernel
theorem dX12_within_268 : decode cX12_within 268 = .ok (.invokestatic 158, 3) := by decide +kernel
theorem dX12_within_271 : decode cX12_within 271 = .ok (.istore 13, 2) := by decide +kernel
theorem dX12_within_273 : decode cX12_within 273 = .ok (.aload_n 0, 1) := by decide +kernel
theorem dX12_within_274 : decode cX12_within 274 = .ok (.getfield 32, 3) := by decide +kernel
theorem dX12_within_277 : decode cX12_within 277 = .ok (.iload 13, 2) := by decide +kernel
theorem dX12_within_279 : decode cX12_within 279 = .ok (.iaload, 1) := by decide +kernel
theorem dX12_within_280 : decode cX12_within 280 = .ok (.aload_n 0, 1) := by decide +kernel
theorem dX12_within_281 : decode cX12_within 281 = .ok (.getfield 161, 3) := by decide +kernel
theorem dX12_within_284 : decode cX12_within 284 = .ok (.if_icmp .eq 32, 3) := by decide +kernel
theorem dX12_within_287 : decode cX12_within 287 = .ok (.aload_n 0, 1) := by decide +kernel
theorem dX12_within_288 : decode cX12_within 288 = .ok (.getfield 32, 3) := by decide +kernel
theorem dX12_within_291 : decode cX12_within 291 = .ok (.iload 13, 2) := by decide +kernel
theorem dX12_within_293 : decode cX12_within 293 = .ok (.aload_n 0, 1) := by decide +kernel
theorem dX12_within_294 : decode cX12_within 294 = .ok (.getfield 161, 3) := by decide +kernel
theorem dX12_within_297 : decode cX12_within 297 = .ok (.iastore, 1) := by decide +kernel
theorem dX12_within_298 : decode cX12_within 298 = .ok (.aload_n 0, 1) := by decide +kernel
theorem dX12_within_299 : decode cX12_within 299 = .ok (.getfield 69, 3) := by decide +kernel
theorem dX12_within_302 : decode cX12_within 302 = .ok (.iload 5, 2) := by decide +kernel
theorem dX12_within_304 : decode cX12_within 304 = .ok (.iload 11, 2) := by decide +kernel
theorem dX12_within_306 : decode cX12_within 306 = .ok (.iload 12, 2) := by decide +kernel
theorem dX12_within_308 : decode cX12_within 308 = .ok (.bipush 16, 2) := by decide +kernel
theorem dX12_within_310 : decode cX12_within 310 = .ok (.ishl, 1) := by decide +kernel
theorem dX12_within_311 : decode cX12_within 311 = .ok (.ior, 1) := by decide +kernel
theorem dX12_within_312 : decode cX12_within 312 = .ok (.iastore, 1) := by decide +kernel
theorem dX12_within_313 : decode cX12_within 313 = .ok (.iinc 5 1, 3) := by decide +kernel
theorem dX12_within_316 : decode cX12_within 316 = .ok (.iinc 8 1, 3) := by decide +kernel
theorem dX12_within_319 : decode cX12_within 319 = .ok (.goto (-158), 3) := by decide +kernel
theorem dX12_within_322 : decode cX12_within 322 = .ok (.goto (-198), 3) := by decide +kernel
theorem dX12_within_325 : decode cX12_within 325 = .ok (.iconst 1, 1) := by decide +kernel
theorem dX12_within_326 : decode cX12_within 326 = .ok (.ireturn, 1) := by decide +kernel
theorem dX12_sheet_0 : decode cX12_sheet 0 = .ok (.aload_n 0, 1) := by decide +kernel
theorem dX12_sheet_1 : decode cX12_sheet 1 = .ok (.iconst 0, 1) := by decide +kernel
theorem dX12_sheet_2 : decode cX12_sheet 2 = .ok (.putfield 72, 3) := by decide +kernel
theorem dX12_sheet_5 : decode cX12_sheet 5 = .ok (.iload_n 1, 1) := by decide +kernel
theorem dX12_sheet_6 : decode cX12_sheet 6 = .ok (.invokestatic 85, 3) := by decide +kernel
theorem dX12_sheet_9 : decode cX12_sheet 9 = .ok (.ifCond .ne 5, 3) := by decide +kernel
theorem dX12_sheet_12 : decode cX12_sheet 12 = .ok (.iconst (-1), 1) := by decide +kernel
theorem dX12_sheet_13 : decode cX12_sheet 13 = .ok (.ireturn, 1) := by decide +kernel
theorem dX12_sheet_14 : decode cX12_sheet 14 = .ok (.iload_n 2, 1) := by decide +kernel
theorem dX12_sheet_15 : decode cX12_sheet 15 = .ok (.invokestatic 89, 3) := by decide +kernel
theorem dX12_sheet_18 : decode cX12_sheet 18 = .ok (.ifCond .eq 9, 3) := by decide +kernel
theorem dX12_sheet_21 : decode cX12_sheet 21 = .ok (.iload_n 3, 1) := by decide +kernel
theorem dX12_sheet_22 : decode cX12_sheet 22 = .ok (.bipush 60, 2) := by decide +kernel
theorem dX12_sheet_24 : decode cX12_sheet 24 = .ok (.if_icmp .le 6, 3) := by decide +kernel
theorem dX12_sheet_27 : decode cX12_sheet 27 = .ok (.bipush (-2), 2) := by decide +kernel
theorem dX12_sheet_29 : decode cX12_sheet 29 = .ok (.ireturn, 1) := by decide +kernel
theorem dX12_sheet_30 : decode cX12_sheet 30 = .ok (.iload_n 3, 1) := by decide +kernel
theorem dX12_sheet_31 : decode cX12_sheet 31 = .ok (.ifCond .ge 9, 3) := by decide +kernel
theorem dX12_sheet_34 : decode cX12_sheet 34 = .ok (.aload_n 0, 1) := by decide +kernel
theorem dX12_sheet_35 : decode cX12_sheet 35 = .ok (.iconst 4, 1) := by decide +kernel
theorem dX12_sheet_36 : decode cX12_sheet 36 = .ok (.invokevirtual 92, 3) := by decide +kernel
theorem dX12_sheet_39 : decode cX12_sheet 39 = .ok (.ireturn, 1) := by decide +kernel
theorem dX12_sheet_40 : decode cX12_sheet 40 = .ok (.aload_n 0, 1) := by decide +kernel
theorem dX12_sheet_41 : decode cX12_sheet 41 = .ok (.getfield 9, 3) := by decide +kernel
theorem dX12_sheet_44 : decode cX12_sheet 44 = .ok (.iload_n 1, 1) := by decide +kernel
theorem dX12_sheet_45 : decode cX12_sheet 45 = .ok (.iload_n 2, 1) := by decide +kernel
theorem dX12_sheet_46 : decode cX12_sheet 46 = .ok (.iastore, 1) := by decide +kernel
theorem dX12_sheet_47 : decode cX12_sheet 47 = .ok (.aload_n 0, 1) := by decide +kernel
theorem dX12_sheet_48 : decode cX12_sheet 48 = .ok (.getfield 13, 3) := by decide +kernel
theorem dX12_sheet_51 : decode cX12_sheet 51 = .ok (.iload_n 1, 1) := by decide +kernel
theorem dX12_sheet_52 : decode cX12_sheet 52 = .ok (.iload_n 3, 1) := by decide +kernel
theorem dX12_sheet_53 : decode cX12_sheet 53 = .ok (.iastore, 1) := by decide +kernel
theorem dX12_sheet_54 : decode cX12_sheet 54 = .ok (.iconst 0, 1) := by decide +kernel
theorem dX12_sheet_55 : decode cX12_sheet 55 = .ok (.istore 4, 2) := by decide +kernel
theorem dX12_sheet_57 : decode cX12_sheet 57 = .ok (.iload 4, 2) := by decide +kernel
theorem dX12_sheet_59 : decode cX12_sheet 59 = .ok (.bipush 60, 2) := by decide +kernel
theorem dX12_sheet_61 : decode cX12_sheet 61 = .ok (.if_icmp .ge 22, 3) := by decide +kernel
theorem dX12_sheet_64 : decode cX12_sheet 64 = .ok (.aload_n 0, 1) := by decide +kernel
theorem dX12_sheet_65 : decode cX12_sheet 65 = .ok (.getfield 16, 3) := by decide +kernel
theorem dX12_sheet_68 : decode cX12_sheet 68 = .ok (.bipush 60, 2) := by decide +kernel
theorem dX12_sheet_70 : decode cX12_sheet 70 = .ok (.iload_n 1, 1) := by decide +kernel
theorem dX12_sheet_71 : decode cX12_sheet 71 = .ok (.imul, 1) := by decide +kernel
theorem dX12_sheet_72 : decode cX12_sheet 72 = .ok (.iload 4, 2) := by decide +kernel
theorem dX12_sheet_74 : decode cX12_sheet 74 = .ok (.iadd, 1) := by decide +kernel
theorem dX12_sheet_75 : decode cX12_sheet 75 = .ok (.iconst 0, 1) := by decide +kernel
theorem dX12_sheet_76 : decode cX12_sheet 76 = .ok (.iastore, 1) := by decide +kernel
theorem dX12_sheet_77 : decode cX12_sheet 77 = .ok (.iinc 4 1, 3) := by decide +kernel
theorem dX12_sheet_80 : decode cX12_sheet 80 = .ok (.goto (-23), 3) := by decide +kernel
theorem dX12_sheet_83 : decode cX12_sheet 83 = .ok (.iconst 1, 1) := by decide +kernel
theorem dX12_sheet_84 : decode cX12_sheet 84 = .ok (.ireturn, 1) := by decide +kernel
theorem dX12_lose_0 : decode cX12_lose 0 = .ok (.iload_n 1, 1) := by decide +kernel
theorem dX12_lose_1 : decode cX12_lose 1 = .ok (.invokestatic 85, 3) := by decide +kernel
theorem dX12_lose_4 : decode cX12_lose 4 = .ok (.ifCond .ne 5, 3) := by decide +kernel
theorem dX12_lose_7 : decode cX12_lose 7 = .ok (.iconst (-1), 1) := by decide +kernel
theorem dX12_lose_8 : decode cX12_lose 8 = .ok (.ireturn, 1) := by decide +kernel
theorem dX12_lose_9 : decode cX12_lose 9 = .ok (.aload_n 0, 1) := by decide +kernel
theorem dX12_lose_10 : decode cX12_lose 10 = .ok (.getfield 9, 3) := by decide +kernel
theorem dX12_lose_13 : decode cX12_lose 13 = .ok (.iload_n 1, 1) := by decide +kernel
theorem dX12_lose_14 : decode cX12_lose 14 = .ok (.iaload, 1) := by decide +kernel
theorem dX12_lose_15 : decode cX12_lose 15 = .ok (.bipush (-9), 2) := by decide +kernel
theorem dX12_lose_17 : decode cX12_lose 17 = .ok (.if_icmp .ne 7, 3) := by decide +kernel
theorem dX12_lose_20 : decode cX12_lose 20 = .ok (.iconst 0, 1) := by decide +kernel
theorem dX12_lose_21 : decode cX12_lose 21 = .ok (.goto 4, 3) := by decide +kernel
theorem dX12_lose_24 : decode cX12_lose 24 = .ok (.iconst 1, 1) := by decide +kernel
theorem dX12_lose_25 : decode cX12_lose 25 = .ok (.istore_n 2, 1) := by decide +kernel
theorem dX12_lose_26 : decode cX12_lose 26 = .ok (.aload_n 0, 1) := by decide +kernel
theorem dX12_lose_27 : decode cX12_lose 27 = .ok (.getfield 9, 3) := by decide +kernel
theorem dX12_lose_30 : decode cX12_lose 30 = .ok (.iload_n 1, 1) := by decide +kernel
theorem dX12_lose_31 : decode cX12_lose 31 = .ok (.bipush (-9), 2) := by decide +kernel
theorem dX12_lose_33 : decode cX12_lose 33 = .ok (.iastore, 1) := by decide +kernel
theorem dX12_lose_34 : decode cX12_lose 34 = .ok (.iload_n 2, 1) := by decide +kernel
theorem dX12_lose_35 : decode cX12_lose 35 = .ok (.ireturn, 1) := by decide +kernel
theorem dX12_put_0 : decode cX12_put 0 = .ok (.aload_n 0, 1) := by decide +kernel
theorem dX12_put_1 : decode cX12_put 1 = .ok (.iconst 0, 1) := by decide +kernel
theorem dX12_put_2 : decode cX12_put 2 = .ok (.putfield 72, 3) := by decide +kernel
theorem dX12_put_5 : decode cX12_put 5 = .ok (.iload_n 1, 1) := by decide +kernel
theorem dX12_put_6 : decode cX12_put 6 = .ok (.invokestatic 85, 3) := by decide +kernel
theorem dX12_put_9 : decode cX12_put 9 = .ok (.ifCond .ne 5, 3) := by decide +kernel
theorem dX12_put_12 : decode cX12_put 12 = .ok (.iconst (-1), 1) := by decide +kernel
theorem dX12_put_13 : decode cX12_put 13 = .ok (.ireturn, 1) := by decide +kernel
theorem dX12_put_14 : decode cX12_put 14 = .ok (.aload_n 0, 1) := by decide +kernel
theorem dX12_put_15 : decode cX12_put 15 = .ok (.getfield 9, 3) := by decide +kernel
theorem dX12_put_18 : decode cX12_put 18 = .ok (.iload_n 1, 1) := by decide +kernel
theorem dX12_put_19 : decode cX12_put 19 = .ok (.iaload, 1) := by decide +kernel
theorem dX12_put_20 : decode cX12_put 20 = .ok (.bipush (-9), 2) := by decide +kernel
theorem dX12_put_22 : decode cX12_put 22 = .ok (.if_icmp .ne 9, 3) := by decide +kernel
theorem dX12_put_25 : decode cX12_put 25 = .ok (.aload_n 0, 1) := by decide +kernel
theorem dX12_put_26 : decode cX12_put 26 = .ok (.iconst 1, 1) := by decide +kernel
theorem dX12_put_27 : decode cX12_put 27 = .ok (.invokevirtual 92, 3) := by decide +kernel
theorem dX12_put_30 : decode cX12_put 30 = .ok (.ireturn, 1) := by decide +kernel
theorem dX12_put_31 : decode cX12_put 31 = .ok (.iload_n 2, 1) := by decide +kernel
theorem dX12_put_32 : decode cX12_put 32 = .ok (.iconst 0, 1) := by decide +kernel
theorem dX12_put_33 : decode cX12_put 33 = .ok (.aload_n 0, 1) := by decide +kernel
theorem dX12_put_34 : decode cX12_put 34 = .ok (.getfield 13, 3) := by decide +kernel
theorem dX12_put_37 : decode cX12_put 37 = .ok (.iload_n 1, 1) := by decide +kernel
theorem dX12_put_38 : decode cX12_put 38 = .ok (.iaload, 1) := by decide +kernel
theorem dX12_put_39 : decode cX12_put 39 = .ok (.iconst 1, 1) := by decide +kernel
theorem dX12_put_40 : decode cX12_put 40 = .ok (.isub, 1) := by decide +kernel
theorem dX12_put_41 : decode cX12_put 41 = .ok (.invokestatic 78, 3) := by decide +kernel
theorem dX12_put_44 : decode cX12_put 44 = .ok (.ifCond .ne 9, 3) := by decide +kernel
theorem dX12_put_47 : decode cX12_put 47 = .ok (.aload_n 0, 1) := by decide +kernel
theorem dX12_put_48 : decode cX12_put 48 = .ok (.iconst 3, 1) := by decide +kernel
theorem dX12_put_49 : decode cX12_put 49 = .ok (.invokevirtual 92, 3) := by decide +kernel
theorem dX12_put_52 : decode cX12_put 52 = .ok (.ireturn, 1) := by decide +kernel
theorem dX12_put_53 : decode cX12_put 53 = .ok (.aload_n 0, 1) := by decide +kernel
theorem dX12_put_54 : decode cX12_put 54 = .ok (.getfield 16, 3) := by decide +kernel
theorem dX12_put_57 : decode cX12_put 57 = .ok (.bipush 60, 2) := by decide +kernel
theorem dX12_put_59 : decode cX12_put 59 = .ok (.iload_n 1, 1) := by decide +kernel
theorem dX12_put_60 : decode cX12_put 60 = .ok (.imul, 1) := by decide +kernel
theorem dX12_put_61 : decode cX12_put 61 = .ok (.iload_n 2, 1) := by decide +kernel
theorem dX12_put_62 : decode cX12_put 62 = .ok (.iadd, 1) := by decide +kernel
theorem dX12_put_63 : decode cX12_put 63 = .ok (.aload_n 0, 1) := by decide +kernel
theorem dX12_put_64 : decode cX12_put 64 = .ok (.getfield 9, 3) := by decide +kernel
theorem dX12_put_67 : decode cX12_put 67 = .ok (.iload_n 1, 1) := by decide +kernel
theorem dX12_put_68 : decode cX12_put 68 = .ok (.iaload, 1) := by decide +kernel
theorem dX12_put_69 : decode cX12_put 69 = .ok (.ifCond .ne 8, 3) := by decide +kernel
theorem dX12_put_72 : decode cX12_put 72 = .ok (.iload_n 3, 1) := by decide +kernel
theorem dX12_put_73 : decode cX12_put 73 = .ok (.i2b, 1) := by decide +kernel
theorem dX12_put_74 : decode cX12_put 74 = .ok (.goto 19, 3) := by decide +kernel
theorem dX12_put_77 : decode cX12_put 77 = .ok (.aload_n 0, 1) := by decide +kernel
theorem dX12_put_78 : decode cX12_put 78 = .ok (.getfield 9, 3) := by decide +kernel
theorem dX12_put_81 : decode cX12_put 81 = .ok (.iload_n 1, 1) := by decide +kernel
theorem dX12_put_82 : decode cX12_put 82 = .ok (.iaload, 1) := by decide +kernel
theorem dX12_put_83 : decode cX12_put 83 = .ok (.iconst 1, 1) := by decide +kernel
theorem dX12_put_84 : decode cX12_put 84 = .ok (.if_icmp .ne 8, 3) := by decide +kernel
theorem dX12_put_87 : decode cX12_put 87 = .ok (.iload_n 3, 1) := by decide +kernel
theorem dX12_put_88 : decode cX12_put 88 = .ok (.i2s, 1) := by decide +kernel
theorem dX12_put_89 : decode cX12_put 89 = .ok (.goto 4, 3) := by decide +kernel
theorem dX12_put_92 : decode cX12_put 92 = .ok (.iload_n 3, 1) := by decide +kernel
theorem dX12_put_93 : decode cX12_put 93 = .ok (.iastore, 1) := by decide +kernel
theorem dX12_put_94 : decode cX12_put 94 = .ok (.iconst 1, 1) := by decide +kernel
theorem dX12_put_95 : decode cX12_put 95 = .ok (.ireturn, 1) := by decide +kernel
theorem dX12_cell_0 : decode cX12_cell 0 = .ok (.aload_n 0, 1) := by decide +kernel
theorem dX12_cell_1 : decode cX12_cell 1 = .ok (.iconst 0, 1) := by decide +kernel
theorem dX12_cell_2 : decode cX12_cell 2 = .ok (.putfield 72, 3) := by decide +kernel
theorem dX12_cell_5 : decode cX12_cell 5 = .ok (.iload_n 1, 1) := by decide +kernel
theorem dX12_cell_6 : decode cX12_cell 6 = .ok (.invokestatic 85, 3) := by decide +kernel
theorem dX12_cell_9 : decode cX12_cell 9 = .ok (.ifCond .eq 10, 3) := by decide +kernel
theorem dX12_cell_12 : decode cX12_cell 12 = .ok (.iload_n 3, 1) := by decide +kernel
theorem dX12_cell_13 : decode cX12_cell 13 = .ok (.invokestatic 89, 3) := by decide +kernel
theorem dX12_cell_16 : decode cX12_cell 16 = .ok (.ifCond .ne 7, 3) := by decide +kernel
theorem dX12_cell_19 : decode cX12_cell 19 = .ok (.ldc2_w 76, 3) := by decide +kernel
theorem dX12_cell_22 : decode cX12_cell 22 = .ok (.lreturn, 1) := by decide +kernel
theorem dX12_cell_23 : decode cX12_cell 23 = .ok (.aload_n 0, 1) := by decide +kernel
theorem dX12_cell_24 : decode cX12_cell 24 = .ok (.getfield 9, 3) := by decide +kernel
theorem dX12_cell_27 : decode cX12_cell 27 = .ok (.iload_n 1, 1) := by decide +kernel
theorem dX12_cell_28 : decode cX12_cell 28 = .ok (.iaload, 1) := by decide +kernel
theorem dX12_cell_29 : decode cX12_cell 29 = .ok (.bipush (-9), 2) := by decide +kernel
theorem dX12_cell_31 : decode cX12_cell 31 = .ok (.if_icmp .eq 19, 3) := by decide +kernel
theorem dX12_cell_34 : decode cX12_cell 34 = .ok (.aload_n 0, 1) := by decide +kernel
theorem dX12_cell_35 : decode cX12_cell 35 = .ok (.getfield 9, 3) := by decide +kernel
theorem dX12_cell_38 : decode cX12_cell 38 = .ok (.iload_n 1, 1) := by decide +kernel
theorem dX12_cell_39 : decode cX12_cell 39 = .ok (.iaload, 1) := by decide +kernel
theorem dX12_cell_40 : decode cX12_cell 40 = .ok (.iload_n 3, 1) := by decide +kernel
theorem dX12_cell_41 : decode cX12_cell 41 = .ok (.if_icmp .eq 9, 3) := by decide +kernel
theorem dX12_cell_44 : decode cX12_cell 44 = .ok (.aload_n 0, 1) := by decide +kernel
theorem dX12_cell_45 : decode cX12_cell 45 = .ok (.iconst 2, 1) := by decide +kernel
theorem dX12_cell_46 : decode cX12_cell 46 = .ok (.invokevirtual 226, 3) := by decide +kernel
theorem dX12_cell_49 : decode cX12_cell 49 = .ok (.lreturn, 1) := by decide +kernel
theorem dX12_cell_50 : decode cX12_cell 50 = .ok (.aload_n 0, 1) := by decide +kernel
theorem dX12_cell_51 : decode cX12_cell 51 = .ok (.getfield 9, 3) := by decide +kernel
theorem dX12_cell_54 : decode cX12_cell 54 = .ok (.iload_n 1, 1) := by decide +kernel
theorem dX12_cell_55 : decode cX12_cell 55 = .ok (.iaload, 1) := by decide +kernel
theorem dX12_cell_56 : decode cX12_cell 56 = .ok (.bipush (-9), 2) := by decide +kernel
theorem dX12_cell_58 : decode cX12_cell 58 = .ok (.if_icmp .ne 9, 3) := by decide +kernel
theorem dX12_cell_61 : decode cX12_cell 61 = .ok (.aload_n 0, 1) := by decide +kernel
theorem dX12_cell_62 : decode cX12_cell 62 = .ok (.iconst 1, 1) := by decide +kernel
theorem dX12_cell_63 : decode cX12_cell 63 = .ok (.invokevirtual 226, 3) := by decide +kernel
theorem dX12_cell_66 : decode cX12_cell 66 = .ok (.lreturn, 1) := by decide +kernel
theorem dX12_cell_67 : decode cX12_cell 67 = .ok (.iload_n 2, 1) := by decide +kernel
theorem dX12_cell_68 : decode cX12_cell 68 = .ok (.iconst 0, 1) := by decide +kernel
theorem dX12_cell_69 : decode cX12_cell 69 = .ok (.aload_n 0, 1) := by decide +kernel
theorem dX12_cell_70 : decode cX12_cell 70 = .ok (.getfield 13, 3) := by decide +kernel
theorem dX12_cell_73 : decode cX12_cell 73 = .ok (.iload_n 1, 1) := by decide +kernel
theorem dX12_cell_74 : decode cX12_cell 74 = .ok (.iaload, 1) := by decide +kernel
theorem dX12_cell_75 : decode cX12_cell 75 = .ok (.iconst 1, 1) := by decide +kernel
theorem dX12_cell_76 : decode cX12_cell 76 = .ok (.isub, 1) := by decide +kernel
theorem dX12_cell_77 : decode cX12_cell 77 = .ok (.invokestatic 78, 3) := by decide +kernel
theorem dX12_cell_80 : decode cX12_cell 80 = .ok (.ifCond .ne 9, 3) := by decide +kernel
theorem dX12_cell_83 : decode cX12_cell 83 = .ok (.aload_n 0, 1) := by decide +kernel
theorem dX12_cell_84 : decode cX12_cell 84 = .ok (.iconst 3, 1) := by decide +kernel
theorem dX12_cell_85 : decode cX12_cell 85 = .ok (.invokevirtual 226, 3) := by decide +kernel
theorem dX12_cell_88 : decode cX12_cell 88 = .ok (.lreturn, 1) := by decide +kernel
theorem dX12_cell_89 : decode cX12_cell 89 = .ok (.aload_n 0, 1) := by decide +kernel
theorem dX12_cell_90 : decode cX12_cell 90 = .ok (.getfield 16, 3) := by decide +kernel
theorem dX12_cell_93 : decode cX12_cell 93 = .ok (.bipush 60, 2) := by decide +kernel
theorem dX12_cell_95 : decode cX12_cell 95 = .ok (.iload_n 1, 1) := by decide +kernel
theorem dX12_cell_96 : decode cX12_cell 96 = .ok (.imul, 1) := by decide +kernel
theorem dX12_cell_97 : decode cX12_cell 97 = .ok (.iload_n 2, 1) := by decide +kernel
theorem dX12_cell_98 : decode cX12_cell 98 = .ok (.iadd, 1) := by decide +kernel
theorem dX12_cell_99 : decode cX12_cell 99 = .ok (.iaload, 1) := by decide +kernel
theorem dX12_cell_100 : decode cX12_cell 100 = .ok (.i2l, 1) := by decide +kernel
theorem dX12_cell_101 : decode cX12_cell 101 = .ok (.lreturn, 1) := by decide +kernel
theorem dX12_copy_0 : decode cX12_copy 0 = .ok (.aload_n 0, 1) := by decide +kernel
theorem dX12_copy_1 : decode cX12_copy 1 = .ok (.iconst 0, 1) := by decide +kernel
theorem dX12_copy_2 : decode cX12_copy 2 = .ok (.putfield 72, 3) := by decide +kernel
theorem dX12_copy_5 : decode cX12_copy 5 = .ok (.iload_n 1, 1) := by decide +kernel
theorem dX12_copy_6 : decode cX12_copy 6 = .ok (.invokestatic 85, 3) := by decide +kernel
theorem dX12_copy_9 : decode cX12_copy 9 = .ok (.ifCond .eq 10, 3) := by decide +kernel
theorem dX12_copy_12 : decode cX12_copy 12 = .ok (.iload_n 3, 1) := by decide +kernel
theorem dX12_copy_13 : decode cX12_copy 13 = .ok (.invokestatic 85, 3) := by decide +kernel
theorem dX12_copy_16 : decode cX12_copy 16 = .ok (.ifCond .ne 5, 3) := by decide +kernel
theorem dX12_copy_19 : decode cX12_copy 19 = .ok (.iconst (-1), 1) := by decide +kernel
theorem dX12_copy_20 : decode cX12_copy 20 = .ok (.ireturn, 1) := by decide +kernel
theorem dX12_copy_21 : decode cX12_copy 21 = .ok (.aload_n 0, 1) := by decide +kernel
theorem dX12_copy_22 : decode cX12_copy 22 = .ok (.getfield 9, 3) := by decide +kernel
theorem dX12_copy_25 : decode cX12_copy 25 = .ok (.iload_n 1, 1) := by decide +kernel
theorem dX12_copy_26 : decode cX12_copy 26 = .ok (.iaload, 1) := by decide +kernel
theorem dX12_copy_27 : decode cX12_copy 27 = .ok (.bipush (-9), 2) := by decide +kernel
theorem dX12_copy_29 : decode cX12_copy 29 = .ok (.if_icmp .eq 14, 3) := by decide +kernel
theorem dX12_copy_32 : decode cX12_copy 32 = .ok (.aload_n 0, 1) := by decide +kernel
theorem dX12_copy_33 : decode cX12_copy 33 = .ok (.getfield 9, 3) := by decide +kernel
theorem dX12_copy_36 : decode cX12_copy 36 = .ok (.iload_n 3, 1) := by decide +kernel
theorem dX12_copy_37 : decode cX12_copy 37 = .ok (.iaload, 1) := by decide +kernel
theorem dX12_copy_38 : decode cX12_copy 38 = .ok (.bipush (-9), 2) := by decide +kernel
theorem dX12_copy_40 : decode cX12_copy 40 = .ok (.if_icmp .ne 9, 3) := by decide +kernel
theorem dX12_copy_43 : decode cX12_copy 43 = .ok (.aload_n 0, 1) := by decide +kernel
theorem dX12_copy_44 : decode cX12_copy 44 = .ok (.iconst 1, 1) := by decide +kernel
theorem dX12_copy_45 : decode cX12_copy 45 = .ok (.invokevirtual 92, 3) := by decide +kernel
theorem dX12_copy_48 : decode cX12_copy 48 = .ok (.ireturn, 1) := by decide +kernel
theorem dX12_copy_49 : decode cX12_copy 49 = .ok (.aload_n 0, 1) := by decide +kernel
theorem dX12_copy_50 : decode cX12_copy 50 = .ok (.getfield 9, 3) := by decide +kernel
theorem dX12_copy_53 : decode cX12_copy 53 = .ok (.iload_n 1, 1) := by decide +kernel
theorem dX12_copy_54 : decode cX12_copy 54 = .ok (.iaload, 1) := by decide +kernel
theorem dX12_copy_55 : decode cX12_copy 55 = .ok (.aload_n 0, 1) := by decide +kernel
theorem dX12_copy_56 : decode cX12_copy 56 = .ok (.getfield 9, 3) := by decide +kernel
theorem dX12_copy_59 : decode cX12_copy 59 = .ok (.iload_n 3, 1) := by decide +kernel
theorem dX12_copy_60 : decode cX12_copy 60 = .ok (.iaload, 1) := by decide +kernel
theorem dX12_copy_61 : decode cX12_copy 61 = .ok (.if_icmp .eq 9, 3) := by decide +kernel
theorem dX12_copy_64 : decode cX12_copy 64 = .ok (.aload_n 0, 1) := by decide +kernel
theorem dX12_copy_65 : decode cX12_copy 65 = .ok (.iconst 2, 1) := by decide +kernel
theorem dX12_copy_66 : decode cX12_copy 66 = .ok (.invokevirtual 92, 3) := by decide +kernel
theorem dX12_copy_69 : decode cX12_copy 69 = .ok (.ireturn, 1) := by decide +kernel
theorem dX12_copy_70 : decode cX12_copy 70 = .ok (.iload_n 2, 1) := by decide +kernel
theorem dX12_copy_71 : decode cX12_copy 71 = .ok (.ifCond .lt 38, 3) := by decide +kernel
theorem dX12_copy_74 : decode cX12_copy 74 = .ok (.iload 4, 2) := by decide +kernel
theorem dX12_copy_76 : decode cX12_copy 76 = .ok (.ifCond .lt 33, 3) := by decide +kernel
theorem dX12_copy_79 : decode cX12_copy 79 = .ok (.iload 5, 2) := by decide +kernel
theorem dX12_copy_81 : decode cX12_copy 81 = .ok (.ifCond .lt 28, 3) := by decide +kernel
theorem dX12_copy_84 : decode cX12_copy 84 = .ok (.iload_n 2, 1) := by decide +kernel
theorem dX12_copy_85 : decode cX12_copy 85 = .ok (.aload_n 0, 1) := by decide +kernel
theorem dX12_copy_86 : decode cX12_copy 86 = .ok (.getfield 13, 3) := by decide +kernel
theorem dX12_copy_89 : decode cX12_copy 89 = .ok (.iload_n 1, 1) := by decide +kernel
theorem dX12_copy_90 : decode cX12_copy 90 = .ok (.iaload, 1) := by decide +kernel
theorem dX12_copy_91 : decode cX12_copy 91 = .ok (.if_icmp .gt 18, 3) := by decide +kernel
theorem dX12_copy_94 : decode cX12_copy 94 = .ok (.iload 4, 2) := by decide +kernel
theorem dX12_copy_96 : decode cX12_copy 96 = .ok (.aload_n 0, 1) := by decide +kernel
theorem dX12_copy_97 : decode cX12_copy 97 = .ok (.getfield 13, 3) := by decide +kernel
theorem dX12_copy_100 : decode cX12_copy 100 = .ok (.iload_n 3, 1) := by decide +kernel
theorem dX12_copy_101 : decode cX12_copy 101 = .ok (.iaload, 1) := by decide +kernel
theorem dX12_copy_102 : decode cX12_copy 102 = .ok (.if_icmp .gt 7, 3) := by decide +kernel
theorem dX12_copy_105 : decode cX12_copy 105 = .ok (.iconst 1, 1) := by decide +kernel
theorem dX12_copy_106 : decode cX12_copy 106 = .ok (.goto 4, 3) := by decide +kernel
theorem dX12_copy_109 : decode cX12_copy 109 = .ok (.iconst 0, 1) := by decide +kernel
theorem dX12_copy_110 : decode cX12_copy 110 = .ok (.istore 6, 2) := by decide +kernel
theorem dX12_copy_112 : decode cX12_copy 112 = .ok (.iload 6, 2) := by decide +kernel
theorem dX12_copy_114 : decode cX12_copy 114 = .ok (.ifCond .eq 30, 3) := by decide +kernel
theorem dX12_copy_117 : decode cX12_copy 117 = .ok (.iload 5, 2) := by decide +kernel
theorem dX12_copy_119 : decode cX12_copy 119 = .ok (.aload_n 0, 1) := by decide +kernel
theorem dX12_copy_120 : decode cX12_copy 120 = .ok (.getfield 13, 3) := by decide +kernel
theorem dX12_copy_123 : decode cX12_copy 123 = .ok (.iload_n 1, 1) := by decide +kernel
theorem dX12_copy_124 : decode cX12_copy 124 = .ok (.iaload, 1) := by decide +kernel
theorem dX12_copy_125 : decode cX12_copy 125 = .ok (.iload_n 2, 1) := by decide +kernel
theorem dX12_copy_126 : decode cX12_copy 126 = .ok (.isub, 1) := by decide +kernel
theorem dX12_copy_127 : decode cX12_copy 127 = .ok (.if_icmp .gt 17, 3) := by decide +kernel
theorem dX12_copy_130 : decode cX12_copy 130 = .ok (.iload 5, 2) := by decide +kernel
theorem dX12_copy_132 : decode cX12_copy 132 = .ok (.aload_n 0, 1) := by decide +kernel
theorem dX12_copy_133 : decode cX12_copy 133 = .ok (.getfield 13, 3) := by decide +kernel
theorem dX12_copy_136 : decode cX12_copy 136 = .ok (.iload_n 3, 1) := by decide +kernel
theorem dX12_copy_137 : decode cX12_copy 137 = .ok (.iaload, 1) := by decide +kernel
theorem dX12_copy_138 : decode cX12_copy 138 = .ok (.iload 4, 2) := by decide +kernel
theorem dX12_copy_140 : decode cX12_copy 140 = .ok (.isub, 1) := by decide +kernel
theorem dX12_copy_141 : decode cX12_copy 141 = .ok (.if_icmp .le 9, 3) := by decide +kernel
theorem dX12_copy_144 : decode cX12_copy 144 = .ok (.aload_n 0, 1) := by decide +kernel
theorem dX12_copy_145 : decode cX12_copy 145 = .ok (.iconst 3, 1) := by decide +kernel
theorem dX12_copy_146 : decode cX12_copy 146 = .ok (.invokevirtual 92, 3) := by decide +kernel
theorem dX12_copy_149 : decode cX12_copy 149 = .ok (.ireturn, 1) := by decide +kernel
theorem dX12_copy_150 : decode cX12_copy 150 = .ok (.iload_n 2, 1) := by decide +kernel
theorem dX12_copy_151 : decode cX12_copy 151 = .ok (.iload 4, 2) := by decide +kernel
theorem dX12_copy_153 : decode cX12_copy 153 = .ok (.if_icmp .ge 7, 3) := by decide +kernel
theorem dX12_copy_156 : decode cX12_copy 156 = .ok (.iconst 1, 1) := by decide +kernel
theorem dX12_copy_157 : decode cX12_copy 157 = .ok (.goto 4, 3) := by decide +kernel
theorem dX12_copy_160 : decode cX12_copy 160 = .ok (.iconst 0, 1) := by decide +kernel
theorem dX12_copy_161 : decode cX12_copy 161 = .ok (.istore 7, 2) := by decide +kernel
theorem dX12_copy_163 : decode cX12_copy 163 = .ok (.iconst 0, 1) := by decide +kernel
theorem dX12_copy_164 : decode cX12_copy 164 = .ok (.istore 8, 2) := by decide +kernel
theorem dX12_copy_166 : decode cX12_copy 166 = .ok (.iload 8, 2) := by decide +kernel
theorem dX12_copy_168 : decode cX12_copy 168 = .ok (.iload 5, 2) := by decide +kernel
theorem dX12_copy_170 : decode cX12_copy 170 = .ok (.if_icmp .ge 57, 3) := by decide +kernel
theorem dX12_copy_173 : decode cX12_copy 173 = .ok (.iload 7, 2) := by decide +kernel
theorem dX12_copy_175 : decode cX12_copy 175 = .ok (.ifCond .eq 13, 3) := by decide +kernel
theorem dX12_copy_178 : decode cX12_copy 178 = .ok (.iload 5, 2) := by decide +kernel
theorem dX12_copy_180 : decode cX12_copy 180 = .ok (.iconst 1, 1) := by decide +kernel
theorem dX12_copy_181 : decode cX12_copy 181 = .ok (.isub, 1) := by decide +kernel
theorem dX12_copy_182 : decode cX12_copy 182 = .ok (.iload 8, 2) := by decide +kernel
theorem dX12_copy_184 : decode cX12_copy 184 = .ok (.isub, 1) := by decide +kernel
theorem dX12_copy_185 : decode cX12_copy 185 = .ok (.goto 5, 3) := by decide +kernel
theorem dX12_copy_188 : decode cX12_copy 188 = .ok (.iload 8, 2) := by decide +kernel
theorem dX12_copy_190 : decode cX12_copy 190 = .ok (.istore 9, 2) := by decide +kernel
theorem dX12_copy_192 : decode cX12_copy 192 = .ok (.aload_n 0, 1) := by decide +kernel
theorem dX12_copy_193 : decode cX12_copy 193 = .ok (.getfield 16, 3) := by decide +kernel
theorem dX12_copy_196 : decode cX12_copy 196 = .ok (.bipush 60, 2) := by decide +kernel
theorem dX12_copy_198 : decode cX12_copy 198 = .ok (.iload_n 3, 1) := by decide +kernel
theorem dX12_copy_199 : decode cX12_copy 199 = .ok (.imul, 1) := by decide +kernel
theorem dX12_copy_200 : decode cX12_copy 200 = .ok (.iload 4, 2) := by decide +kernel
theorem dX12_copy_202 : decode cX12_copy 202 = .ok (.iadd, 1) := by decide +kernel
theorem dX12_copy_203 : decode cX12_copy 203 = .ok (.iload 9, 2) := by decide +kernel
theorem dX12_copy_205 : decode cX12_copy 205 = .ok (.iadd, 1) := by decide +kernel
theorem dX12_copy_206 : decode cX12_copy 206 = .ok (.aload_n 0, 1) := by decide +kernel
theorem dX12_copy_207 : decode cX12_copy 207 = .ok (.getfield 16, 3) := by decide +kernel
theorem dX12_copy_210 : decode cX12_copy 210 = .ok (.bipush 60, 2) := by decide +kernel
theorem dX12_copy_212 : decode cX12_copy 212 = .ok (.iload_n 1, 1) := by decide +kernel
theorem dX12_copy_213 : decode cX12_copy 213 = .ok (.imul, 1) := by decide +kernel
theorem dX12_copy_214 : decode cX12_copy 214 = .ok (.iload_n 2, 1) := by decide +kernel
theorem dX12_copy_215 : decode cX12_copy 215 = .ok (.iadd, 1) := by decide +kernel
theorem dX12_copy_216 : decode cX12_copy 216 = .ok (.iload 9, 2) := by decide +kernel
theorem dX12_copy_218 : decode cX12_copy 218 = .ok (.iadd, 1) := by decide +kernel
theorem dX12_copy_219 : decode cX12_copy 219 = .ok (.iaload, 1) := by decide +kernel
theorem dX12_copy_220 : decode cX12_copy 220 = .ok (.iastore, 1) := by decide +kernel
theorem dX12_copy_221 : decode cX12_copy 221 = .ok (.iinc 8 1, 3) := by decide +kernel
theorem dX12_copy_224 : decode cX12_copy 224 = .ok (.goto (-58), 3) := by decide +kernel
theorem dX12_copy_227 : decode cX12_copy 227 = .ok (.iload 5, 2) := by decide +kernel
theorem dX12_copy_229 : decode cX12_copy 229 = .ok (.ireturn, 1) := by decide +kernel
theorem dX12_begins_0 : decode cX12_begins 0 = .ok (.aload_n 0, 1) := by decide +kernel
theorem dX12_begins_1 : decode cX12_begins 1 = .ok (.bipush 31, 2) := by decide +kernel
theorem dX12_begins_3 : decode cX12_begins 3 = .ok (.aload_n 0, 1) := by decide +kernel
theorem dX12_begins_4 : decode cX12_begins 4 = .ok (.getfield 230, 3) := by decide +kernel
theorem dX12_begins_7 : decode cX12_begins 7 = .ok (.imul, 1) := by decide +kernel
theorem dX12_begins_8 : decode cX12_begins 8 = .ok (.iload_n 1, 1) := by decide +kernel
theorem dX12_begins_9 : decode cX12_begins 9 = .ok (.iadd, 1) := by decide +kernel
theorem dX12_begins_10 : decode cX12_begins 10 = .ok (.putfield 230, 3) := by decide +kernel
theorem dX12_begins_13 : decode cX12_begins 13 = .ok (.return_, 1) := by decide +kernel
theorem dX12_tell_0 : decode cX12_tell 0 = .ok (.aload_n 0, 1) := by decide +kernel
theorem dX12_tell_1 : decode cX12_tell 1 = .ok (.iload_n 1, 1) := by decide +kernel
theorem dX12_tell_2 : decode cX12_tell 2 = .ok (.invokevirtual 144, 3) := by decide +kernel
theorem dX12_tell_5 : decode cX12_tell 5 = .ok (.ifCond .ne 5, 3) := by decide +kernel
theorem dX12_tell_8 : decode cX12_tell 8 = .ok (.iconst (-1), 1) := by decide +kernel
theorem dX12_tell_9 : decode cX12_tell 9 = .ok (.ireturn, 1) := by decide +kernel
theorem dX12_tell_10 : decode cX12_tell 10 = .ok (.bipush 10, 2) := by decide +kernel
theorem dX12_tell_12 : decode cX12_tell 12 = .ok (.aload_n 0, 1) := by decide +kernel
theorem dX12_tell_13 : decode cX12_tell 13 = .ok (.getfield 25, 3) := by decide +kernel
theorem dX12_tell_16 : decode cX12_tell 16 = .ok (.iload_n 1, 1) := by decide +kernel
theorem dX12_tell_17 : decode cX12_tell 17 = .ok (.iaload, 1) := by decide +kernel
theorem dX12_tell_18 : decode cX12_tell 18 = .ok (.imul, 1) := by decide +kernel
theorem dX12_tell_19 : decode cX12_tell 19 = .ok (.aload_n 0, 1) := by decide +kernel
theorem dX12_tell_20 : decode cX12_tell 20 = .ok (.getfield 28, 3) := by decide +kernel
theorem dX12_tell_23 : decode cX12_tell 23 = .ok (.iload_n 1, 1) := by decide +kernel
theorem dX12_tell_24 : decode cX12_tell 24 = .ok (.iaload, 1) := by decide +kernel
theorem dX12_tell_25 : decode cX12_tell 25 = .ok (.iadd, 1) := by decide +kernel
theorem dX12_tell_26 : decode cX12_tell 26 = .ok (.istore_n 2, 1) := by decide +kernel
theorem dX12_tell_27 : decode cX12_tell 27 = .ok (.bipush 100, 2) := by decide +kernel
theorem dX12_tell_29 : decode cX12_tell 29 = .ok (.aload_n 0, 1) := by decide +kernel
theorem dX12_tell_30 : decode cX12_tell 30 = .ok (.iload_n 1, 1) := by decide +kernel
theorem dX12_tell_31 : decode cX12_tell 31 = .ok (.aload_n 0, 1) := by decide +kernel
theorem dX12_tell_32 : decode cX12_tell 32 = .ok (.getfield 25, 3) := by decide +kernel
theorem dX12_tell_35 : decode cX12_tell 35 = .ok (.iload_n 1, 1) := by decide +kernel
theorem dX12_tell_36 : decode cX12_tell 36 = .ok (.iaload, 1) := by decide +kernel
theorem dX12_tell_37 : decode cX12_tell 37 = .ok (.invokevirtual 138, 3) := by decide +kernel
theorem dX12_tell_40 : decode cX12_tell 40 = .ok (.invokestatic 141, 3) := by decide +kernel
theorem dX12_tell_43 : decode cX12_tell 43 = .ok (.aload_n 0, 1) := by decide +kernel
theorem dX12_tell_44 : decode cX12_tell 44 = .ok (.iload_n 1, 1) := by decide +kernel
theorem dX12_tell_45 : decode cX12_tell 45 = .ok (.aload_n 0, 1) := by decide +kernel
theorem dX12_tell_46 : decode cX12_tell 46 = .ok (.getfield 28, 3) := by decide +kernel
theorem dX12_tell_49 : decode cX12_tell 49 = .ok (.iload_n 1, 1) := by decide +kernel
theorem dX12_tell_50 : decode cX12_tell 50 = .ok (.iaload, 1) := by decide +kernel
theorem dX12_tell_51 : decode cX12_tell 51 = .ok (.invokevirtual 138, 3) := by decide +kernel
theorem dX12_tell_54 : decode cX12_tell 54 = .ok (.invokestatic 141, 3) := by decide +kernel
theorem dX12_tell_57 : decode cX12_tell 57 = .ok (.iadd, 1) := by decide +kernel
theorem dX12_tell_58 : decode cX12_tell 58 = .ok (.imul, 1) := by decide +kernel
theorem dX12_tell_59 : decode cX12_tell 59 = .ok (.istore_n 3, 1) := by decide +kernel
theorem dX12_tell_60 : decode cX12_tell 60 = .ok (.aload_n 0, 1) := by decide +kernel
theorem dX12_tell_61 : decode cX12_tell 61 = .ok (.iload_n 1, 1) := by decide +kernel
theorem dX12_tell_62 : decode cX12_tell 62 = .ok (.invokevirtual 147, 3) := by decide +kernel
theorem dX12_tell_65 : decode cX12_tell 65 = .ok (.lookupswitch 67 #[(1, 27), (2, 41)], 27) := by decide +kernel
theorem dX12_tell_92 : decode cX12_tell 92 = .ok (.aload_n 0, 1) := by decide +kernel
theorem dX12_tell_93 : decode cX12_tell 93 = .ok (.iconst 2, 1) := by decide +kernel
theorem dX12_tell_94 : decode cX12_tell 94 = .ok (.invokevirtual 233, 3) := by decide +kernel
theorem dX12_tell_97 : decode cX12_tell 97 = .ok (.aload_n 0, 1) := by decide +kernel
theorem dX12_tell_98 : decode cX12_tell 98 = .ok (.iconst 1, 1) := by decide +kernel
theorem dX12_tell_99 : decode cX12_tell 99 = .ok (.invokevirtual 233, 3) := by decide +kernel
theorem dX12_tell_102 : decode cX12_tell 102 = .ok (.iload_n 2, 1) := by decide +kernel
theorem dX12_tell_103 : decode cX12_tell 103 = .ok (.iload_n 3, 1) := by decide +kernel
theorem dX12_tell_104 : decode cX12_tell 104 = .ok (.iadd, 1) := by decide +kernel
theorem dX12_tell_105 : decode cX12_tell 105 = .ok (.ireturn, 1) := by decide +kernel
theorem dX12_tell_106 : decode cX12_tell 106 = .ok (.aload_n 0, 1) := by decide +kernel
theorem dX12_tell_107 : decode cX12_tell 107 = .ok (.iconst 3, 1) := by decide +kernel
theorem dX12_tell_108 : decode cX12_tell 108 = .ok (.invokevirtual 233, 3) := by decide +kernel
theorem dX12_tell_111 : decode cX12_tell 111 = .ok (.aload_n 0, 1) := by decide +kernel
theorem dX12_tell_112 : decode cX12_tell 112 = .ok (.iconst 2, 1) := by decide +kernel
theorem dX12_tell_113 : decode cX12_tell 113 = .ok (.invokevirtual 233, 3) := by decide +kernel
theorem dX12_tell_116 : decode cX12_tell 116 = .ok (.aload_n 0, 1) := by decide +kernel
theorem dX12_tell_117 : decode cX12_tell 117 = .ok (.iconst 1, 1) := by decide +kernel
theorem dX12_tell_118 : decode cX12_tell 118 = .ok (.invokevirtual 233, 3) := by decide +kernel
theorem dX12_tell_121 : decode cX12_tell 121 = .ok (.aload_n 0, 1) := by decide +kernel
theorem dX12_tell_122 : decode cX12_tell 122 = .ok (.iconst 1, 1) := by decide +kernel
theorem dX12_tell_123 : decode cX12_tell 123 = .ok (.invokevirtual 233, 3) := by decide +kernel
theorem dX12_tell_126 : decode cX12_tell 126 = .ok (.iconst 2, 1) := by decide +kernel
theorem dX12_tell_127 : decode cX12_tell 127 = .ok (.iload_n 2, 1) := by decide +kernel
theorem dX12_tell_128 : decode cX12_tell 128 = .ok (.imul, 1) := by decide +kernel
theorem dX12_tell_129 : decode cX12_tell 129 = .ok (.iload_n 3, 1) := by decide +kernel
theorem dX12_tell_130 : decode cX12_tell 130 = .ok (.iadd, 1) := by decide +kernel
theorem dX12_tell_131 : decode cX12_tell 131 = .ok (.ireturn, 1) := by decide +kernel
theorem dX12_tell_132 : decode cX12_tell 132 = .ok (.aload_n 0, 1) := by decide +kernel
theorem dX12_tell_133 : decode cX12_tell 133 = .ok (.iconst 1, 1) := by decide +kernel
theorem dX12_tell_134 : decode cX12_tell 134 = .ok (.invokevirtual 233, 3) := by decide +kernel
theorem dX12_tell_137 : decode cX12_tell 137 = .ok (.iload_n 2, 1) := by decide +kernel
theorem dX12_tell_138 : decode cX12_tell 138 = .ok (.ireturn, 1) := by decide +kernel
theorem dX12_log_0 : decode cX12_log 0 = .ok (.aload_n 0, 1) := by decide +kernel
theorem dX12_log_1 : decode cX12_log 1 = .ok (.iload_n 1, 1) := by decide +kernel
theorem dX12_log_2 : decode cX12_log 2 = .ok (.invokevirtual 144, 3) := by decide +kernel
theorem dX12_log_5 : decode cX12_log 5 = .ok (.ifCond .ne 5, 3) := by decide +kernel
theorem dX12_log_8 : decode cX12_log 8 = .ok (.iconst (-1), 1) := by decide +kernel
theorem dX12_log_9 : decode cX12_log 9 = .ok (.ireturn, 1) := by decide +kernel
theorem dX12_log_10 : decode cX12_log 10 = .ok (.aload_n 0, 1) := by decide +kernel
theorem dX12_log_11 : decode cX12_log 11 = .ok (.iload_n 1, 1) := by decide +kernel
theorem dX12_log_12 : decode cX12_log 12 = .ok (.invokevirtual 147, 3) := by decide +kernel
theorem dX12_log_15 : decode cX12_log 15 = .ok (.iconst 2, 1) := by decide +kernel
theorem dX12_log_16 : decode cX12_log 16 = .ok (.if_icmp .ne 7, 3) := by decide +kernel
theorem dX12_log_19 : decode cX12_log 19 = .ok (.iconst 1, 1) := by decide +kernel
theorem dX12_log_20 : decode cX12_log 20 = .ok (.goto 4, 3) := by decide +kernel
theorem dX12_log_23 : decode cX12_log 23 = .ok (.iconst 0, 1) := by decide +kernel
theorem dX12_log_24 : decode cX12_log 24 = .ok (.istore_n 2, 1) := by decide +kernel
theorem dX12_log_25 : decode cX12_log 25 = .ok (.aload_n 0, 1) := by decide +kernel
theorem dX12_log_26 : decode cX12_log 26 = .ok (.iload_n 2, 1) := by decide +kernel
theorem dX12_log_27 : decode cX12_log 27 = .ok (.ifCond .eq 7, 3) := by decide +kernel
theorem dX12_log_30 : decode cX12_log 30 = .ok (.iconst 5, 1) := by decide +kernel
theorem dX12_log_31 : decode cX12_log 31 = .ok (.goto 4, 3) := by decide +kernel
theorem dX12_log_34 : decode cX12_log 34 = .ok (.iconst 4, 1) := by decide +kernel
theorem dX12_log_35 : decode cX12_log 35 = .ok (.invokevirtual 233, 3) := by decide +kernel
theorem dX12_log_38 : decode cX12_log 38 = .ok (.iload_n 2, 1) := by decide +kernel
theorem dX12_log_39 : decode cX12_log 39 = .ok (.ifCond .eq 8, 3) := by decide +kernel
theorem dX12_log_42 : decode cX12_log 42 = .ok (.bipush 70, 2) := by decide +kernel
theorem dX12_log_44 : decode cX12_log 44 = .ok (.goto 4, 3) := by decide +kernel
theorem dX12_log_47 : decode cX12_log 47 = .ok (.iload_n 1, 1) := by decide +kernel
theorem dX12_log_48 : decode cX12_log 48 = .ok (.ireturn, 1) := by decide +kernel
theorem dX12_as_0 : decode cX12_as 0 = .ok (.aload_n 0, 1) := by decide +kernel
theorem dX12_as_1 : decode cX12_as 1 = .ok (.iconst 0, 1) := by decide +kernel
theorem dX12_as_2 : decode cX12_as 2 = .ok (.putfield 72, 3) := by decide +kernel
theorem dX12_as_5 : decode cX12_as 5 = .ok (.aload_n 0, 1) := by decide +kernel
theorem dX12_as_6 : decode cX12_as 6 = .ok (.iload_n 1, 1) := by decide +kernel
theorem dX12_as_7 : decode cX12_as 7 = .ok (.invokevirtual 144, 3) := by decide +kernel
theorem dX12_as_10 : decode cX12_as 10 = .ok (.ifCond .ne 5, 3) := by decide +kernel
theorem dX12_as_13 : decode cX12_as 13 = .ok (.iconst (-1), 1) := by decide +kernel
theorem dX12_as_14 : decode cX12_as 14 = .ok (.ireturn, 1) := by decide +kernel
theorem dX12_as_15 : decode cX12_as 15 = .ok (.iload_n 2, 1) := by decide +kernel
theorem dX12_as_16 : decode cX12_as 16 = .ok (.iconst 0, 1) := by decide +kernel
theorem dX12_as_17 : decode cX12_as 17 = .ok (.iconst 2, 1) := by decide +kernel
theorem dX12_as_18 : decode cX12_as 18 = .ok (.invokestatic 78, 3) := by decide +kernel
theorem dX12_as_21 : decode cX12_as 21 = .ok (.ifCond .ne 6, 3) := by decide +kernel
theorem dX12_as_24 : decode cX12_as 24 = .ok (.bipush (-2), 2) := by decide +kernel
theorem dX12_as_26 : decode cX12_as 26 = .ok (.ireturn, 1) := by decide +kernel
theorem dX12_as_27 : decode cX12_as 27 = .ok (.aload_n 0, 1) := by decide +kernel
theorem dX12_as_28 : decode cX12_as 28 = .ok (.iload_n 1, 1) := by decide +kernel
theorem dX12_as_29 : decode cX12_as 29 = .ok (.invokevirtual 147, 3) := by decide +kernel
theorem dX12_as_32 : decode cX12_as 32 = .ok (.iload_n 2, 1) := by decide +kernel
theorem dX12_as_33 : decode cX12_as 33 = .ok (.if_icmp .lt 7, 3) := by decide +kernel
theorem dX12_as_36 : decode cX12_as 36 = .ok (.iconst 1, 1) := by decide +kernel
theorem dX12_as_37 : decode cX12_as 37 = .ok (.goto 8, 3) := by decide +kernel
theorem dX12_as_40 : decode cX12_as 40 = .ok (.aload_n 0, 1) := by decide +kernel
theorem dX12_as_41 : decode cX12_as 41 = .ok (.iconst 2, 1) := by decide +kernel
theorem dX12_as_42 : decode cX12_as 42 = .ok (.invokevirtual 92, 3) := by decide +kernel
theorem dX12_as_45 : decode cX12_as 45 = .ok (.ireturn, 1) := by decide +kernel
theorem dX12_trace_0 : decode cX12_trace 0 = .ok (.aload_n 0, 1) := by decide +kernel
theorem dX12_trace_1 : decode cX12_trace 1 = .ok (.getfield 230, 3) := by decide +kernel
theorem dX12_trace_4 : decode cX12_trace 4 = .ok (.ireturn, 1) := by decide +kernel
theorem dX12_fault_0 : decode cX12_fault 0 = .ok (.aload_n 0, 1) := by decide +kernel
theorem dX12_fault_1 : decode cX12_fault 1 = .ok (.getfield 72, 3) := by decide +kernel
theorem dX12_fault_4 : decode cX12_fault 4 = .ok (.ireturn, 1) := by decide +kernel
theorem dX12_many_0 : decode cX12_many 0 = .ok (.iconst 0, 1) := by decide +kernel
theorem dX12_many_1 : decode cX12_many 1 = .ok (.istore_n 2, 1) := by decide +kernel
theorem dX12_many_2 : decode cX12_many 2 = .ok (.iconst 0, 1) := by decide +kernel
theorem dX12_many_3 : decode cX12_many 3 = .ok (.istore_n 3, 1) := by decide +kernel
theorem dX12_many_4 : decode cX12_many 4 = .ok (.iconst 0, 1) := by decide +kernel
theorem dX12_many_5 : decode cX12_many 5 = .ok (.istore 4, 2) := by decide +kernel
theorem dX12_many_7 : decode cX12_many 7 = .ok (.iload 4, 2) := by decide +kernel
theorem dX12_many_9 : decode cX12_many 9 = .ok (.aload_n 0, 1) := by decide +kernel
theorem dX12_many_10 : decode cX12_many 10 = .ok (.getfield 82, 3) := by decide +kernel
theorem dX12_many_13 : decode cX12_many 13 = .ok (.if_icmp .ge 54, 3) := by decide +kernel
theorem dX12_many_16 : decode cX12_many 16 = .ok (.iload_n 2, 1) := by decide +kernel
theorem dX12_many_17 : decode cX12_many 17 = .ok (.aload_n 0, 1) := by decide +kernel
theorem dX12_many_18 : decode cX12_many 18 = .ok (.aload_n 0, 1) := by decide +kernel
theorem dX12_many_19 : decode cX12_many 19 = .ok (.getfield 103, 3) := by decide +kernel
theorem dX12_many_22 : decode cX12_many 22 = .ok (.invokevirtual 128, 3) := by decide +kernel
theorem dX12_many_25 : decode cX12_many 25 = .ok (.iload 4, 2) := by decide +kernel
theorem dX12_many_27 : decode cX12_many 27 = .ok (.invokestatic 110, 3) := by decide +kernel
theorem dX12_many_30 : decode cX12_many 30 = .ok (.iconst 1, 1) := by decide +kernel
theorem dX12_many_31 : decode cX12_many 31 = .ok (.aload_n 0, 1) := by decide +kernel
theorem dX12_many_32 : decode cX12_many 32 = .ok (.getfield 82, 3) := by decide +kernel
theorem dX12_many_35 : decode cX12_many 35 = .ok (.ishl, 1) := by decide +kernel
theorem dX12_many_36 : decode cX12_many 36 = .ok (.iconst 1, 1) := by decide +kernel
theorem dX12_many_37 : decode cX12_many 37 = .ok (.isub, 1) := by decide +kernel
theorem dX12_many_38 : decode cX12_many 38 = .ok (.if_icmp .ne 7, 3) := by decide +kernel
theorem dX12_many_41 : decode cX12_many 41 = .ok (.iconst 1, 1) := by decide +kernel
theorem dX12_many_42 : decode cX12_many 42 = .ok (.goto 4, 3) := by decide +kernel
theorem dX12_many_45 : decode cX12_many 45 = .ok (.iconst 0, 1) := by decide +kernel
theorem dX12_many_46 : decode cX12_many 46 = .ok (.iadd, 1) := by decide +kernel
theorem dX12_many_47 : decode cX12_many 47 = .ok (.istore_n 2, 1) := by decide +kernel
theorem dX12_many_48 : decode cX12_many 48 = .ok (.iload_n 3, 1) := by decide +kernel
theorem dX12_many_49 : decode cX12_many 49 = .ok (.aload_n 0, 1) := by decide +kernel
theorem dX12_many_50 : decode cX12_many 50 = .ok (.getfield 19, 3) := by decide +kernel
theorem dX12_many_53 : decode cX12_many 53 = .ok (.iload 4, 2) := by decide +kernel
theorem dX12_many_55 : decode cX12_many 55 = .ok (.iaload, 1) := by decide +kernel
theorem dX12_many_56 : decode cX12_many 56 = .ok (.invokestatic 141, 3) := by decide +kernel
theorem dX12_many_59 : decode cX12_many 59 = .ok (.iadd, 1) := by decide +kernel
theorem dX12_many_60 : decode cX12_many 60 = .ok (.istore_n 3, 1) := by decide +kernel
theorem dX12_many_61 : decode cX12_many 61 = .ok (.iinc 4 1, 3) := by decide +kernel
theorem dX12_many_64 : decode cX12_many 64 = .ok (.goto (-57), 3) := by decide +kernel
theorem dX12_many_67 : decode cX12_many 67 = .ok (.iload_n 1, 1) := by decide +kernel
theorem dX12_many_68 : decode cX12_many 68 = .ok (.tableswitch 46 0 3 #[32, 37, 42, 44], 32) := by decide +kernel
theorem dX12_many_100 : decode cX12_many 100 = .ok (.aload_n 0, 1) := by decide +kernel
theorem dX12_many_101 : decode cX12_many 101 = .ok (.getfield 82, 3) := by decide +kernel
theorem dX12_many_104 : decode cX12_many 104 = .ok (.ireturn, 1) := by decide +kernel
theorem dX12_many_105 : decode cX12_many 105 = .ok (.aload_n 0, 1) := by decide +kernel
theorem dX12_many_106 : decode cX12_many 106 = .ok (.getfield 103, 3) := by decide +kernel
theorem dX12_many_109 : decode cX12_many 109 = .ok (.ireturn, 1) := by decide +kernel
theorem dX12_many_110 : decode cX12_many 110 = .ok (.iload_n 2, 1) := by decide +kernel
theorem dX12_many_111 : decode cX12_many 111 = .ok (.ireturn, 1) := by decide +kernel
theorem dX12_many_112 : decode cX12_many 112 = .ok (.iload_n 3, 1) := by decide +kernel
theorem dX12_many_113 : decode cX12_many 113 = .ok (.ireturn, 1) := by decide +kernel
theorem dX12_many_114 : decode cX12_many 114 = .ok (.bipush (-2), 2) := by decide +kernel
theorem dX12_many_116 : decode cX12_many 116 = .ok (.ireturn, 1) := by decide +kernel
