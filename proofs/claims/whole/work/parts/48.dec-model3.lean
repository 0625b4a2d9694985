theorem d_MO_moves_157 : decode c_MO_moves 157 = .ok (.iload 4, 2) := by decide +kernel
theorem d_MO_moves_159 : decode c_MO_moves 159 = .ok (.invokevirtual 121, 3) := by decide +kernel
theorem d_MO_moves_162 : decode c_MO_moves 162 = .ok (.goto 26, 3) := by decide +kernel
theorem d_MO_moves_165 : decode c_MO_moves 165 = .ok (.aload_n 0, 1) := by decide +kernel
theorem d_MO_moves_166 : decode c_MO_moves 166 = .ok (.iconst 0, 1) := by decide +kernel
theorem d_MO_moves_167 : decode c_MO_moves 167 = .ok (.iconst 1, 1) := by decide +kernel
theorem d_MO_moves_168 : decode c_MO_moves 168 = .ok (.iload 4, 2) := by decide +kernel
theorem d_MO_moves_170 : decode c_MO_moves 170 = .ok (.iconst 1, 1) := by decide +kernel
theorem d_MO_moves_171 : decode c_MO_moves 171 = .ok (.iadd, 1) := by decide +kernel
theorem d_MO_moves_172 : decode c_MO_moves 172 = .ok (.invokevirtual 121, 3) := by decide +kernel
theorem d_MO_moves_175 : decode c_MO_moves 175 = .ok (.goto 13, 3) := by decide +kernel
theorem d_MO_moves_178 : decode c_MO_moves 178 = .ok (.aload_n 0, 1) := by decide +kernel
theorem d_MO_moves_179 : decode c_MO_moves 179 = .ok (.iconst 0, 1) := by decide +kernel
theorem d_MO_moves_180 : decode c_MO_moves 180 = .ok (.iconst 1, 1) := by decide +kernel
theorem d_MO_moves_181 : decode c_MO_moves 181 = .ok (.iload 4, 2) := by decide +kernel
theorem d_MO_moves_183 : decode c_MO_moves 183 = .ok (.iconst 1, 1) := by decide +kernel
theorem d_MO_moves_184 : decode c_MO_moves 184 = .ok (.isub, 1) := by decide +kernel
theorem d_MO_moves_185 : decode c_MO_moves 185 = .ok (.invokevirtual 121, 3) := by decide +kernel
theorem d_MO_moves_188 : decode c_MO_moves 188 = .ok (.return_, 1) := by decide +kernel
theorem d_MO_second_0 : decode c_MO_second 0 = .ok (.aload_n 0, 1) := by decide +kernel
theorem d_MO_second_1 : decode c_MO_second 1 = .ok (.aload_n 0, 1) := by decide +kernel
theorem d_MO_second_2 : decode c_MO_second 2 = .ok (.iload_n 1, 1) := by decide +kernel
theorem d_MO_second_3 : decode c_MO_second 3 = .ok (.invokevirtual 163, 3) := by decide +kernel
theorem d_MO_second_6 : decode c_MO_second 6 = .ok (.putfield 53, 3) := by decide +kernel
theorem d_MO_second_9 : decode c_MO_second 9 = .ok (.iconst 0, 1) := by decide +kernel
theorem d_MO_second_10 : decode c_MO_second 10 = .ok (.istore_n 2, 1) := by decide +kernel
theorem d_MO_second_11 : decode c_MO_second 11 = .ok (.aload_n 0, 1) := by decide +kernel
theorem d_MO_second_12 : decode c_MO_second 12 = .ok (.getfield 53, 3) := by decide +kernel
theorem d_MO_second_15 : decode c_MO_second 15 = .ok (.ifCond .ne 27, 3) := by decide +kernel
theorem d_MO_second_18 : decode c_MO_second 18 = .ok (.iload_n 2, 1) := by decide +kernel
theorem d_MO_second_19 : decode c_MO_second 19 = .ok (.iload_n 1, 1) := by decide +kernel
theorem d_MO_second_20 : decode c_MO_second 20 = .ok (.if_icmp .ge 22, 3) := by decide +kernel
theorem d_MO_second_23 : decode c_MO_second 23 = .ok (.aload_n 0, 1) := by decide +kernel
theorem d_MO_second_24 : decode c_MO_second 24 = .ok (.getfield 47, 3) := by decide +kernel
theorem d_MO_second_27 : decode c_MO_second 27 = .ok (.iconst 1, 1) := by decide +kernel
theorem d_MO_second_28 : decode c_MO_second 28 = .ok (.iaload, 1) := by decide +kernel
theorem d_MO_second_29 : decode c_MO_second 29 = .ok (.ifCond .ne 13, 3) := by decide +kernel
theorem d_MO_second_32 : decode c_MO_second 32 = .ok (.aload_n 0, 1) := by decide +kernel
theorem d_MO_second_33 : decode c_MO_second 33 = .ok (.invokevirtual 169, 3) := by decide +kernel
theorem d_MO_second_36 : decode c_MO_second 36 = .ok (.iinc 2 1, 3) := by decide +kernel
theorem d_MO_second_39 : decode c_MO_second 39 = .ok (.goto (-28), 3) := by decide +kernel
theorem d_MO_second_42 : decode c_MO_second 42 = .ok (.iload_n 2, 1) := by decide +kernel
theorem d_MO_second_43 : decode c_MO_second 43 = .ok (.ireturn, 1) := by decide +kernel
theorem d_MO_stepSecond_0 : decode c_MO_stepSecond 0 = .ok (.aload_n 0, 1) := by decide +kernel
theorem d_MO_stepSecond_1 : decode c_MO_stepSecond 1 = .ok (.getfield 50, 3) := by decide +kernel
theorem d_MO_stepSecond_4 : decode c_MO_stepSecond 4 = .ok (.iconst 1, 1) := by decide +kernel
theorem d_MO_stepSecond_5 : decode c_MO_stepSecond 5 = .ok (.dup2, 1) := by decide +kernel
theorem d_MO_stepSecond_6 : decode c_MO_stepSecond 6 = .ok (.iaload, 1) := by decide +kernel
theorem d_MO_stepSecond_7 : decode c_MO_stepSecond 7 = .ok (.iconst 1, 1) := by decide +kernel
theorem d_MO_stepSecond_8 : decode c_MO_stepSecond 8 = .ok (.iadd, 1) := by decide +kernel
theorem d_MO_stepSecond_9 : decode c_MO_stepSecond 9 = .ok (.iastore, 1) := by decide +kernel
theorem d_MO_stepSecond_10 : decode c_MO_stepSecond 10 = .ok (.aload_n 0, 1) := by decide +kernel
theorem d_MO_stepSecond_11 : decode c_MO_stepSecond 11 = .ok (.getfield 38, 3) := by decide +kernel
theorem d_MO_stepSecond_14 : decode c_MO_stepSecond 14 = .ok (.iconst 1, 1) := by decide +kernel
theorem d_MO_stepSecond_15 : decode c_MO_stepSecond 15 = .ok (.iaload, 1) := by decide +kernel
theorem d_MO_stepSecond_16 : decode c_MO_stepSecond 16 = .ok (.istore_n 1, 1) := by decide +kernel
theorem d_MO_stepSecond_17 : decode c_MO_stepSecond 17 = .ok (.aload_n 0, 1) := by decide +kernel
theorem d_MO_stepSecond_18 : decode c_MO_stepSecond 18 = .ok (.getfield 20, 3) := by decide +kernel
theorem d_MO_stepSecond_21 : decode c_MO_stepSecond 21 = .ok (.iload_n 1, 1) := by decide +kernel
theorem d_MO_stepSecond_22 : decode c_MO_stepSecond 22 = .ok (.iaload, 1) := by decide +kernel
theorem d_MO_stepSecond_23 : decode c_MO_stepSecond 23 = .ok (.iconst 1, 1) := by decide +kernel
theorem d_MO_stepSecond_24 : decode c_MO_stepSecond 24 = .ok (.if_icmp .ne 11, 3) := by decide +kernel
theorem d_MO_stepSecond_27 : decode c_MO_stepSecond 27 = .ok (.aload_n 0, 1) := by decide +kernel
theorem d_MO_stepSecond_28 : decode c_MO_stepSecond 28 = .ok (.getfield 47, 3) := by decide +kernel
theorem d_MO_stepSecond_31 : decode c_MO_stepSecond 31 = .ok (.iconst 1, 1) := by decide +kernel
theorem d_MO_stepSecond_32 : decode c_MO_stepSecond 32 = .ok (.iconst 1, 1) := by decide +kernel
theorem d_MO_stepSecond_33 : decode c_MO_stepSecond 33 = .ok (.iastore, 1) := by decide +kernel
theorem d_MO_stepSecond_34 : decode c_MO_stepSecond 34 = .ok (.return_, 1) := by decide +kernel
theorem d_MO_stepSecond_35 : decode c_MO_stepSecond 35 = .ok (.aload_n 0, 1) := by decide +kernel
theorem d_MO_stepSecond_36 : decode c_MO_stepSecond 36 = .ok (.getfield 38, 3) := by decide +kernel
theorem d_MO_stepSecond_39 : decode c_MO_stepSecond 39 = .ok (.iconst 1, 1) := by decide +kernel
theorem d_MO_stepSecond_40 : decode c_MO_stepSecond 40 = .ok (.dup2, 1) := by decide +kernel
theorem d_MO_stepSecond_41 : decode c_MO_stepSecond 41 = .ok (.iaload, 1) := by decide +kernel
theorem d_MO_stepSecond_42 : decode c_MO_stepSecond 42 = .ok (.iconst 1, 1) := by decide +kernel
theorem d_MO_stepSecond_43 : decode c_MO_stepSecond 43 = .ok (.iadd, 1) := by decide +kernel
theorem d_MO_stepSecond_44 : decode c_MO_stepSecond 44 = .ok (.iastore, 1) := by decide +kernel
theorem d_MO_stepSecond_45 : decode c_MO_stepSecond 45 = .ok (.aload_n 0, 1) := by decide +kernel
theorem d_MO_stepSecond_46 : decode c_MO_stepSecond 46 = .ok (.getfield 20, 3) := by decide +kernel
theorem d_MO_stepSecond_49 : decode c_MO_stepSecond 49 = .ok (.iload_n 1, 1) := by decide +kernel
theorem d_MO_stepSecond_50 : decode c_MO_stepSecond 50 = .ok (.iaload, 1) := by decide +kernel
theorem d_MO_stepSecond_51 : decode c_MO_stepSecond 51 = .ok (.bipush 16, 2) := by decide +kernel
theorem d_MO_stepSecond_53 : decode c_MO_stepSecond 53 = .ok (.if_icmp .le 28, 3) := by decide +kernel
theorem d_MO_stepSecond_56 : decode c_MO_stepSecond 56 = .ok (.aload_n 0, 1) := by decide +kernel
theorem d_MO_stepSecond_57 : decode c_MO_stepSecond 57 = .ok (.aload_n 0, 1) := by decide +kernel
theorem d_MO_stepSecond_58 : decode c_MO_stepSecond 58 = .ok (.getfield 20, 3) := by decide +kernel
theorem d_MO_stepSecond_61 : decode c_MO_stepSecond 61 = .ok (.iload_n 1, 1) := by decide +kernel
theorem d_MO_stepSecond_62 : decode c_MO_stepSecond 62 = .ok (.iaload, 1) := by decide +kernel
theorem d_MO_stepSecond_63 : decode c_MO_stepSecond 63 = .ok (.aload_n 0, 1) := by decide +kernel
theorem d_MO_stepSecond_64 : decode c_MO_stepSecond 64 = .ok (.getfield 23, 3) := by decide +kernel
theorem d_MO_stepSecond_67 : decode c_MO_stepSecond 67 = .ok (.iload_n 1, 1) := by decide +kernel
theorem d_MO_stepSecond_68 : decode c_MO_stepSecond 68 = .ok (.iaload, 1) := by decide +kernel
theorem d_MO_stepSecond_69 : decode c_MO_stepSecond 69 = .ok (.aload_n 0, 1) := by decide +kernel
theorem d_MO_stepSecond_70 : decode c_MO_stepSecond 70 = .ok (.getfield 26, 3) := by decide +kernel
theorem d_MO_stepSecond_73 : decode c_MO_stepSecond 73 = .ok (.iload_n 1, 1) := by decide +kernel
theorem d_MO_stepSecond_74 : decode c_MO_stepSecond 74 = .ok (.iaload, 1) := by decide +kernel
theorem d_MO_stepSecond_75 : decode c_MO_stepSecond 75 = .ok (.invokevirtual 157, 3) := by decide +kernel
theorem d_MO_stepSecond_78 : decode c_MO_stepSecond 78 = .ok (.goto 35, 3) := by decide +kernel
theorem d_MO_stepSecond_81 : decode c_MO_stepSecond 81 = .ok (.aload_n 0, 1) := by decide +kernel
theorem d_MO_stepSecond_82 : decode c_MO_stepSecond 82 = .ok (.getfield 20, 3) := by decide +kernel
theorem d_MO_stepSecond_85 : decode c_MO_stepSecond 85 = .ok (.iload_n 1, 1) := by decide +kernel
theorem d_MO_stepSecond_86 : decode c_MO_stepSecond 86 = .ok (.iaload, 1) := by decide +kernel
theorem d_MO_stepSecond_87 : decode c_MO_stepSecond 87 = .ok (.iconst 1, 1) := by decide +kernel
theorem d_MO_stepSecond_88 : decode c_MO_stepSecond 88 = .ok (.if_icmp .le 25, 3) := by decide +kernel
theorem d_MO_stepSecond_91 : decode c_MO_stepSecond 91 = .ok (.aload_n 0, 1) := by decide +kernel
theorem d_MO_stepSecond_92 : decode c_MO_stepSecond 92 = .ok (.aload_n 0, 1) := by decide +kernel
theorem d_MO_stepSecond_93 : decode c_MO_stepSecond 93 = .ok (.getfield 20, 3) := by decide +kernel
theorem d_MO_stepSecond_96 : decode c_MO_stepSecond 96 = .ok (.iload_n 1, 1) := by decide +kernel
theorem d_MO_stepSecond_97 : decode c_MO_stepSecond 97 = .ok (.iaload, 1) := by decide +kernel
theorem d_MO_stepSecond_98 : decode c_MO_stepSecond 98 = .ok (.aload_n 0, 1) := by decide +kernel
theorem d_MO_stepSecond_99 : decode c_MO_stepSecond 99 = .ok (.getfield 23, 3) := by decide +kernel
theorem d_MO_stepSecond_102 : decode c_MO_stepSecond 102 = .ok (.iload_n 1, 1) := by decide +kernel
theorem d_MO_stepSecond_103 : decode c_MO_stepSecond 103 = .ok (.iaload, 1) := by decide +kernel
theorem d_MO_stepSecond_104 : decode c_MO_stepSecond 104 = .ok (.aload_n 0, 1) := by decide +kernel
theorem d_MO_stepSecond_105 : decode c_MO_stepSecond 105 = .ok (.getfield 26, 3) := by decide +kernel
theorem d_MO_stepSecond_108 : decode c_MO_stepSecond 108 = .ok (.iload_n 1, 1) := by decide +kernel
theorem d_MO_stepSecond_109 : decode c_MO_stepSecond 109 = .ok (.iaload, 1) := by decide +kernel
theorem d_MO_stepSecond_110 : decode c_MO_stepSecond 110 = .ok (.invokevirtual 160, 3) := by decide +kernel
theorem d_MO_stepSecond_113 : decode c_MO_stepSecond 113 = .ok (.return_, 1) := by decide +kernel
theorem d_MO_others_0 : decode c_MO_others 0 = .ok (.iload_n 1, 1) := by decide +kernel
theorem d_MO_others_1 : decode c_MO_others 1 = .ok (.bipush 19, 2) := by decide +kernel
theorem d_MO_others_3 : decode c_MO_others 3 = .ok (.if_icmp .eq 52, 3) := by decide +kernel
theorem d_MO_others_6 : decode c_MO_others 6 = .ok (.iload_n 1, 1) := by decide +kernel
theorem d_MO_others_7 : decode c_MO_others 7 = .ok (.bipush 22, 2) := by decide +kernel
theorem d_MO_others_9 : decode c_MO_others 9 = .ok (.if_icmp .ge 26, 3) := by decide +kernel
theorem d_MO_others_12 : decode c_MO_others 12 = .ok (.aload_n 0, 1) := by decide +kernel
theorem d_MO_others_13 : decode c_MO_others 13 = .ok (.getfield 41, 3) := by decide +kernel
theorem d_MO_others_16 : decode c_MO_others 16 = .ok (.iconst 1, 1) := by decide +kernel
theorem d_MO_others_17 : decode c_MO_others 17 = .ok (.baload, 1) := by decide +kernel
theorem d_MO_others_18 : decode c_MO_others 18 = .ok (.iload_n 1, 1) := by decide +kernel
theorem d_MO_others_19 : decode c_MO_others 19 = .ok (.bipush 20, 2) := by decide +kernel
theorem d_MO_others_21 : decode c_MO_others 21 = .ok (.if_icmp .ne 7, 3) := by decide +kernel
theorem d_MO_others_24 : decode c_MO_others 24 = .ok (.iconst 1, 1) := by decide +kernel
theorem d_MO_others_25 : decode c_MO_others 25 = .ok (.goto 4, 3) := by decide +kernel
theorem d_MO_others_28 : decode c_MO_others 28 = .ok (.iconst 0, 1) := by decide +kernel
theorem d_MO_others_29 : decode c_MO_others 29 = .ok (.if_icmp .ne 30, 3) := by decide +kernel
theorem d_MO_others_32 : decode c_MO_others 32 = .ok (.goto 23, 3) := by decide +kernel
theorem d_MO_others_35 : decode c_MO_others 35 = .ok (.aload_n 0, 1) := by decide +kernel
theorem d_MO_others_36 : decode c_MO_others 36 = .ok (.getfield 44, 3) := by decide +kernel
theorem d_MO_others_39 : decode c_MO_others 39 = .ok (.iconst 1, 1) := by decide +kernel
theorem d_MO_others_40 : decode c_MO_others 40 = .ok (.baload, 1) := by decide +kernel
theorem d_MO_others_41 : decode c_MO_others 41 = .ok (.iload_n 1, 1) := by decide +kernel
theorem d_MO_others_42 : decode c_MO_others 42 = .ok (.bipush 22, 2) := by decide +kernel
theorem d_MO_others_44 : decode c_MO_others 44 = .ok (.if_icmp .ne 7, 3) := by decide +kernel
theorem d_MO_others_47 : decode c_MO_others 47 = .ok (.iconst 1, 1) := by decide +kernel
theorem d_MO_others_48 : decode c_MO_others 48 = .ok (.goto 4, 3) := by decide +kernel
theorem d_MO_others_51 : decode c_MO_others 51 = .ok (.iconst 0, 1) := by decide +kernel
theorem d_MO_others_52 : decode c_MO_others 52 = .ok (.if_icmp .ne 7, 3) := by decide +kernel
theorem d_MO_others_55 : decode c_MO_others 55 = .ok (.iconst 1, 1) := by decide +kernel
theorem d_MO_others_56 : decode c_MO_others 56 = .ok (.goto 4, 3) := by decide +kernel
theorem d_MO_others_59 : decode c_MO_others 59 = .ok (.iconst 0, 1) := by decide +kernel
theorem d_MO_others_60 : decode c_MO_others 60 = .ok (.istore 4, 2) := by decide +kernel
theorem d_MO_others_62 : decode c_MO_others 62 = .ok (.iload_n 1, 1) := by decide +kernel
theorem d_MO_others_63 : decode c_MO_others 63 = .ok (.bipush 17, 2) := by decide +kernel
theorem d_MO_others_65 : decode c_MO_others 65 = .ok (.if_icmp .ne 16, 3) := by decide +kernel
theorem d_MO_others_68 : decode c_MO_others 68 = .ok (.aload_n 0, 1) := by decide +kernel
theorem d_MO_others_69 : decode c_MO_others 69 = .ok (.aload_n 0, 1) := by decide +kernel
theorem d_MO_others_70 : decode c_MO_others 70 = .ok (.getfield 44, 3) := by decide +kernel
theorem d_MO_others_73 : decode c_MO_others 73 = .ok (.iconst 1, 1) := by decide +kernel
theorem d_MO_others_74 : decode c_MO_others 74 = .ok (.baload, 1) := by decide +kernel
theorem d_MO_others_75 : decode c_MO_others 75 = .ok (.putfield 108, 3) := by decide +kernel
theorem d_MO_others_78 : decode c_MO_others 78 = .ok (.goto 160, 3) := by decide +kernel
theorem d_MO_others_81 : decode c_MO_others 81 = .ok (.iload_n 1, 1) := by decide +kernel
theorem d_MO_others_82 : decode c_MO_others 82 = .ok (.bipush 18, 2) := by decide +kernel
theorem d_MO_others_84 : decode c_MO_others 84 = .ok (.if_icmp .ne 16, 3) := by decide +kernel
theorem d_MO_others_87 : decode c_MO_others 87 = .ok (.aload_n 0, 1) := by decide +kernel
theorem d_MO_others_88 : decode c_MO_others 88 = .ok (.getfield 44, 3) := by decide +kernel
theorem d_MO_others_91 : decode c_MO_others 91 = .ok (.iconst 1, 1) := by decide +kernel
theorem d_MO_others_92 : decode c_MO_others 92 = .ok (.aload_n 0, 1) := by decide +kernel
theorem d_MO_others_93 : decode c_MO_others 93 = .ok (.getfield 108, 3) := by decide +kernel
theorem d_MO_others_96 : decode c_MO_others 96 = .ok (.bastore, 1) := by decide +kernel
theorem d_MO_others_97 : decode c_MO_others 97 = .ok (.goto 141, 3) := by decide +kernel
theorem d_MO_others_100 : decode c_MO_others 100 = .ok (.iload_n 1, 1) := by decide +kernel
theorem d_MO_others_101 : decode c_MO_others 101 = .ok (.bipush 24, 2) := by decide +kernel
theorem d_MO_others_103 : decode c_MO_others 103 = .ok (.if_icmp .ge 27, 3) := by decide +kernel
theorem d_MO_others_106 : decode c_MO_others 106 = .ok (.aload_n 0, 1) := by decide +kernel
theorem d_MO_others_107 : decode c_MO_others 107 = .ok (.getfield 38, 3) := by decide +kernel
theorem d_MO_others_110 : decode c_MO_others 110 = .ok (.iconst 1, 1) := by decide +kernel
theorem d_MO_others_111 : decode c_MO_others 111 = .ok (.iload 4, 2) := by decide +kernel
theorem d_MO_others_113 : decode c_MO_others 113 = .ok (.ifCond .eq 7, 3) := by decide +kernel
theorem d_MO_others_116 : decode c_MO_others 116 = .ok (.iload_n 3, 1) := by decide +kernel
theorem d_MO_others_117 : decode c_MO_others 117 = .ok (.goto 9, 3) := by decide +kernel
theorem d_MO_others_120 : decode c_MO_others 120 = .ok (.aload_n 0, 1) := by decide +kernel
theorem d_MO_others_121 : decode c_MO_others 121 = .ok (.getfield 38, 3) := by decide +kernel
theorem d_MO_others_124 : decode c_MO_others 124 = .ok (.iconst 1, 1) := by decide +kernel
theorem d_MO_others_125 : decode c_MO_others 125 = .ok (.iaload, 1) := by decide +kernel
theorem d_MO_others_126 : decode c_MO_others 126 = .ok (.iastore, 1) := by decide +kernel
theorem d_MO_others_127 : decode c_MO_others 127 = .ok (.goto 111, 3) := by decide +kernel
theorem d_MO_others_130 : decode c_MO_others 130 = .ok (.iload_n 1, 1) := by decide +kernel
theorem d_MO_others_131 : decode c_MO_others 131 = .ok (.bipush 24, 2) := by decide +kernel
theorem d_MO_others_133 : decode c_MO_others 133 = .ok (.if_icmp .ne 19, 3) := by decide +kernel
theorem d_MO_others_136 : decode c_MO_others 136 = .ok (.aload_n 0, 1) := by decide +kernel
theorem d_MO_others_137 : decode c_MO_others 137 = .ok (.iconst 1, 1) := by decide +kernel
theorem d_MO_others_138 : decode c_MO_others 138 = .ok (.aload_n 0, 1) := by decide +kernel
theorem d_MO_others_139 : decode c_MO_others 139 = .ok (.getfield 29, 3) := by decide +kernel
theorem d_MO_others_142 : decode c_MO_others 142 = .ok (.iconst 3, 1) := by decide +kernel
theorem d_MO_others_143 : decode c_MO_others 143 = .ok (.iload_n 2, 1) := by decide +kernel
theorem d_MO_others_144 : decode c_MO_others 144 = .ok (.iadd, 1) := by decide +kernel
theorem d_MO_others_145 : decode c_MO_others 145 = .ok (.iaload, 1) := by decide +kernel
theorem d_MO_others_146 : decode c_MO_others 146 = .ok (.invokevirtual 142, 3) := by decide +kernel
theorem d_MO_others_149 : decode c_MO_others 149 = .ok (.goto 89, 3) := by decide +kernel
theorem d_MO_others_152 : decode c_MO_others 152 = .ok (.iload_n 1, 1) := by decide +kernel
theorem d_MO_others_153 : decode c_MO_others 153 = .ok (.bipush 25, 2) := by decide +kernel
theorem d_MO_others_155 : decode c_MO_others 155 = .ok (.if_icmp .ne 21, 3) := by decide +kernel
theorem d_MO_others_158 : decode c_MO_others 158 = .ok (.aload_n 0, 1) := by decide +kernel
theorem d_MO_others_159 : decode c_MO_others 159 = .ok (.iconst 1, 1) := by decide +kernel
theorem d_MO_others_160 : decode c_MO_others 160 = .ok (.invokevirtual 145, 3) := by decide +kernel
theorem d_MO_others_163 : decode c_MO_others 163 = .ok (.istore 5, 2) := by decide +kernel
theorem d_MO_others_165 : decode c_MO_others 165 = .ok (.aload_n 0, 1) := by decide +kernel
theorem d_MO_others_166 : decode c_MO_others 166 = .ok (.iconst 1, 1) := by decide +kernel
theorem d_MO_others_167 : decode c_MO_others 167 = .ok (.iload_n 2, 1) := by decide +kernel
theorem d_MO_others_168 : decode c_MO_others 168 = .ok (.iload 5, 2) := by decide +kernel
theorem d_MO_others_170 : decode c_MO_others 170 = .ok (.invokevirtual 118, 3) := by decide +kernel
theorem d_MO_others_173 : decode c_MO_others 173 = .ok (.goto 65, 3) := by decide +kernel
theorem d_MO_others_176 : decode c_MO_others 176 = .ok (.aload_n 0, 1) := by decide +kernel
theorem d_MO_others_177 : decode c_MO_others 177 = .ok (.getfield 17, 3) := by decide +kernel
theorem d_MO_others_180 : decode c_MO_others 180 = .ok (.aload_n 0, 1) := by decide +kernel
theorem d_MO_others_181 : decode c_MO_others 181 = .ok (.getfield 29, 3) := by decide +kernel
theorem d_MO_others_184 : decode c_MO_others 184 = .ok (.iconst 3, 1) := by decide +kernel
theorem d_MO_others_185 : decode c_MO_others 185 = .ok (.iload_n 2, 1) := by decide +kernel
theorem d_MO_others_186 : decode c_MO_others 186 = .ok (.iadd, 1) := by decide +kernel
theorem d_MO_others_187 : decode c_MO_others 187 = .ok (.iaload, 1) := by decide +kernel
theorem d_MO_others_188 : decode c_MO_others 188 = .ok (.iaload, 1) := by decide +kernel
theorem d_MO_others_189 : decode c_MO_others 189 = .ok (.istore 5, 2) := by decide +kernel
theorem d_MO_others_191 : decode c_MO_others 191 = .ok (.aload_n 0, 1) := by decide +kernel
theorem d_MO_others_192 : decode c_MO_others 192 = .ok (.getfield 47, 3) := by decide +kernel
theorem d_MO_others_195 : decode c_MO_others 195 = .ok (.iconst 1, 1) := by decide +kernel
theorem d_MO_others_196 : decode c_MO_others 196 = .ok (.iload 5, 2) := by decide +kernel
theorem d_MO_others_198 : decode c_MO_others 198 = .ok (.iconst (-1), 1) := by decide +kernel
theorem d_MO_others_199 : decode c_MO_others 199 = .ok (.if_icmp .ne 7, 3) := by decide +kernel
theorem d_MO_others_202 : decode c_MO_others 202 = .ok (.iconst 2, 1) := by decide +kernel
theorem d_MO_others_203 : decode c_MO_others 203 = .ok (.goto 9, 3) := by decide +kernel
theorem d_MO_others_206 : decode c_MO_others 206 = .ok (.aload_n 0, 1) := by decide +kernel
theorem d_MO_others_207 : decode c_MO_others 207 = .ok (.getfield 47, 3) := by decide +kernel
theorem d_MO_others_210 : decode c_MO_others 210 = .ok (.iconst 1, 1) := by decide +kernel
theorem d_MO_others_211 : decode c_MO_others 211 = .ok (.iaload, 1) := by decide +kernel
theorem d_MO_others_212 : decode c_MO_others 212 = .ok (.iastore, 1) := by decide +kernel
theorem d_MO_others_213 : decode c_MO_others 213 = .ok (.aload_n 0, 1) := by decide +kernel
theorem d_MO_others_214 : decode c_MO_others 214 = .ok (.getfield 38, 3) := by decide +kernel
theorem d_MO_others_217 : decode c_MO_others 217 = .ok (.iconst 1, 1) := by decide +kernel
theorem d_MO_others_218 : decode c_MO_others 218 = .ok (.iload 5, 2) := by decide +kernel
theorem d_MO_others_220 : decode c_MO_others 220 = .ok (.iconst (-1), 1) := by decide +kernel
theorem d_MO_others_221 : decode c_MO_others 221 = .ok (.if_icmp .ne 14, 3) := by decide +kernel
theorem d_MO_others_224 : decode c_MO_others 224 = .ok (.aload_n 0, 1) := by decide +kernel
theorem d_MO_others_225 : decode c_MO_others 225 = .ok (.getfield 38, 3) := by decide +kernel
theorem d_MO_others_228 : decode c_MO_others 228 = .ok (.iconst 1, 1) := by decide +kernel
theorem d_MO_others_229 : decode c_MO_others 229 = .ok (.iaload, 1) := by decide +kernel
theorem d_MO_others_230 : decode c_MO_others 230 = .ok (.iconst 1, 1) := by decide +kernel
theorem d_MO_others_231 : decode c_MO_others 231 = .ok (.isub, 1) := by decide +kernel
theorem d_MO_others_232 : decode c_MO_others 232 = .ok (.goto 5, 3) := by decide +kernel
theorem d_MO_others_235 : decode c_MO_others 235 = .ok (.iload 5, 2) := by decide +kernel
theorem d_MO_others_237 : decode c_MO_others 237 = .ok (.iastore, 1) := by decide +kernel
theorem d_MO_others_238 : decode c_MO_others 238 = .ok (.return_, 1) := by decide +kernel
theorem d_MO_works_0 : decode c_MO_works 0 = .ok (.aload_n 0, 1) := by decide +kernel
theorem d_MO_works_1 : decode c_MO_works 1 = .ok (.getfield 29, 3) := by decide +kernel
theorem d_MO_works_4 : decode c_MO_works 4 = .ok (.iconst 3, 1) := by decide +kernel
theorem d_MO_works_5 : decode c_MO_works 5 = .ok (.iload_n 2, 1) := by decide +kernel
theorem d_MO_works_6 : decode c_MO_works 6 = .ok (.iadd, 1) := by decide +kernel
theorem d_MO_works_7 : decode c_MO_works 7 = .ok (.iaload, 1) := by decide +kernel
theorem d_MO_works_8 : decode c_MO_works 8 = .ok (.istore 4, 2) := by decide +kernel
theorem d_MO_works_10 : decode c_MO_works 10 = .ok (.aload_n 0, 1) := by decide +kernel
theorem d_MO_works_11 : decode c_MO_works 11 = .ok (.getfield 29, 3) := by decide +kernel
theorem d_MO_works_14 : decode c_MO_works 14 = .ok (.iconst 3, 1) := by decide +kernel
theorem d_MO_works_15 : decode c_MO_works 15 = .ok (.iload_n 3, 1) := by decide +kernel
theorem d_MO_works_16 : decode c_MO_works 16 = .ok (.iconst 3, 1) := by decide +kernel
theorem d_MO_works_17 : decode c_MO_works 17 = .ok (.iand, 1) := by decide +kernel
theorem d_MO_works_18 : decode c_MO_works 18 = .ok (.iconst 3, 1) := by decide +kernel
theorem d_MO_works_19 : decode c_MO_works 19 = .ok (.irem, 1) := by decide +kernel
theorem d_MO_works_20 : decode c_MO_works 20 = .ok (.iadd, 1) := by decide +kernel
theorem d_MO_works_21 : decode c_MO_works 21 = .ok (.iaload, 1) := by decide +kernel
theorem d_MO_works_22 : decode c_MO_works 22 = .ok (.istore 5, 2) := by decide +kernel
theorem d_MO_works_24 : decode c_MO_works 24 = .ok (.iload_n 1, 1) := by decide +kernel
theorem d_MO_works_25 : decode c_MO_works 25 = .ok (.tableswitch 271 2 15 #[71, 81, 92, 107, 118, 140, 162, 173, 185, 210, 222, 236, 250, 262], 71) := by decide +kernel
theorem d_MO_works_96 : decode c_MO_works 96 = .ok (.aload_n 0, 1) := by decide +kernel
theorem d_MO_works_97 : decode c_MO_works 97 = .ok (.iconst 1, 1) := by decide +kernel
theorem d_MO_works_98 : decode c_MO_works 98 = .ok (.iload_n 2, 1) := by decide +kernel
theorem d_MO_works_99 : decode c_MO_works 99 = .ok (.iload_n 3, 1) := by decide +kernel
theorem d_MO_works_100 : decode c_MO_works 100 = .ok (.invokevirtual 118, 3) := by decide +kernel
theorem d_MO_works_103 : decode c_MO_works 103 = .ok (.goto 199, 3) := by decide +kernel
theorem d_MO_works_106 : decode c_MO_works 106 = .ok (.aload_n 0, 1) := by decide +kernel
theorem d_MO_works_107 : decode c_MO_works 107 = .ok (.iconst 1, 1) := by decide +kernel
theorem d_MO_works_108 : decode c_MO_works 108 = .ok (.iload_n 2, 1) := by decide +kernel
theorem d_MO_works_109 : decode c_MO_works 109 = .ok (.iload 5, 2) := by decide +kernel
theorem d_MO_works_111 : decode c_MO_works 111 = .ok (.invokevirtual 118, 3) := by decide +kernel
theorem d_MO_works_114 : decode c_MO_works 114 = .ok (.goto 188, 3) := by decide +kernel
theorem d_MO_works_117 : decode c_MO_works 117 = .ok (.aload_n 0, 1) := by decide +kernel
theorem d_MO_works_118 : decode c_MO_works 118 = .ok (.iconst 1, 1) := by decide +kernel
theorem d_MO_works_119 : decode c_MO_works 119 = .ok (.iload_n 2, 1) := by decide +kernel
theorem d_MO_works_120 : decode c_MO_works 120 = .ok (.aload_n 0, 1) := by decide +kernel
theorem d_MO_works_121 : decode c_MO_works 121 = .ok (.iconst 1, 1) := by decide +kernel
theorem d_MO_works_122 : decode c_MO_works 122 = .ok (.iload_n 3, 1) := by decide +kernel
theorem d_MO_works_123 : decode c_MO_works 123 = .ok (.invokevirtual 114, 3) := by decide +kernel
theorem d_MO_works_126 : decode c_MO_works 126 = .ok (.invokevirtual 118, 3) := by decide +kernel
theorem d_MO_works_129 : decode c_MO_works 129 = .ok (.goto 173, 3) := by decide +kernel
theorem d_MO_works_132 : decode c_MO_works 132 = .ok (.aload_n 0, 1) := by decide +kernel
theorem d_MO_works_133 : decode c_MO_works 133 = .ok (.iconst 1, 1) := by decide +kernel
theorem d_MO_works_134 : decode c_MO_works 134 = .ok (.iload_n 3, 1) := by decide +kernel
theorem d_MO_works_135 : decode c_MO_works 135 = .ok (.iload 4, 2) := by decide +kernel
theorem d_MO_works_137 : decode c_MO_works 137 = .ok (.invokevirtual 111, 3) := by decide +kernel
theorem d_MO_works_140 : decode c_MO_works 140 = .ok (.goto 162, 3) := by decide +kernel
theorem d_MO_works_143 : decode c_MO_works 143 = .ok (.aload_n 0, 1) := by decide +kernel
theorem d_MO_works_144 : decode c_MO_works 144 = .ok (.iconst 1, 1) := by decide +kernel
theorem d_MO_works_145 : decode c_MO_works 145 = .ok (.iconst 0, 1) := by decide +kernel
theorem d_MO_works_146 : decode c_MO_works 146 = .ok (.aload_n 0, 1) := by decide +kernel
theorem d_MO_works_147 : decode c_MO_works 147 = .ok (.iconst 1, 1) := by decide +kernel
theorem d_MO_works_148 : decode c_MO_works 148 = .ok (.iload_n 3, 1) := by decide +kernel
theorem d_MO_works_149 : decode c_MO_works 149 = .ok (.aload_n 0, 1) := by decide +kernel
theorem d_MO_works_150 : decode c_MO_works 150 = .ok (.getfield 29, 3) := by decide +kernel
theorem d_MO_works_153 : decode c_MO_works 153 = .ok (.iconst 4, 1) := by decide +kernel
theorem d_MO_works_154 : decode c_MO_works 154 = .ok (.iaload, 1) := by decide +kernel
theorem d_MO_works_155 : decode c_MO_works 155 = .ok (.iadd, 1) := by decide +kernel
theorem d_MO_works_156 : decode c_MO_works 156 = .ok (.invokevirtual 114, 3) := by decide +kernel
theorem d_MO_works_159 : decode c_MO_works 159 = .ok (.invokevirtual 118, 3) := by decide +kernel
theorem d_MO_works_162 : decode c_MO_works 162 = .ok (.goto 140, 3) := by decide +kernel
theorem d_MO_works_165 : decode c_MO_works 165 = .ok (.aload_n 0, 1) := by decide +kernel
theorem d_MO_works_166 : decode c_MO_works 166 = .ok (.iconst 1, 1) := by decide +kernel
theorem d_MO_works_167 : decode c_MO_works 167 = .ok (.iload_n 3, 1) := by decide +kernel
theorem d_MO_works_168 : decode c_MO_works 168 = .ok (.aload_n 0, 1) := by decide +kernel
theorem d_MO_works_169 : decode c_MO_works 169 = .ok (.getfield 29, 3) := by decide +kernel
theorem d_MO_works_172 : decode c_MO_works 172 = .ok (.iconst 4, 1) := by decide +kernel
theorem d_MO_works_173 : decode c_MO_works 173 = .ok (.iaload, 1) := by decide +kernel
theorem d_MO_works_174 : decode c_MO_works 174 = .ok (.iadd, 1) := by decide +kernel
theorem d_MO_works_175 : decode c_MO_works 175 = .ok (.aload_n 0, 1) := by decide +kernel
theorem d_MO_works_176 : decode c_MO_works 176 = .ok (.getfield 29, 3) := by decide +kernel
theorem d_MO_works_179 : decode c_MO_works 179 = .ok (.iconst 3, 1) := by decide +kernel
theorem d_MO_works_180 : decode c_MO_works 180 = .ok (.iaload, 1) := by decide +kernel
theorem d_MO_works_181 : decode c_MO_works 181 = .ok (.invokevirtual 111, 3) := by decide +kernel
theorem d_MO_works_184 : decode c_MO_works 184 = .ok (.goto 118, 3) := by decide +kernel
theorem d_MO_works_187 : decode c_MO_works 187 = .ok (.aload_n 0, 1) := by decide +kernel
theorem d_MO_works_188 : decode c_MO_works 188 = .ok (.iconst 1, 1) := by decide +kernel
theorem d_MO_works_189 : decode c_MO_works 189 = .ok (.iload_n 2, 1) := by decide +kernel
theorem d_MO_works_190 : decode c_MO_works 190 = .ok (.iload 4, 2) := by decide +kernel
theorem d_MO_works_192 : decode c_MO_works 192 = .ok (.invokevirtual 132, 3) := by decide +kernel
theorem d_MO_works_195 : decode c_MO_works 195 = .ok (.goto 107, 3) := by decide +kernel
theorem d_MO_works_198 : decode c_MO_works 198 = .ok (.aload_n 0, 1) := by decide +kernel
theorem d_MO_works_199 : decode c_MO_works 199 = .ok (.iconst 1, 1) := by decide +kernel
theorem d_MO_works_200 : decode c_MO_works 200 = .ok (.iload_n 2, 1) := by decide +kernel
theorem d_MO_works_201 : decode c_MO_works 201 = .ok (.iload 5, 2) := by decide +kernel
theorem d_MO_works_203 : decode c_MO_works 203 = .ok (.iconst 0, 1) := by decide +kernel
theorem d_MO_works_204 : decode c_MO_works 204 = .ok (.invokevirtual 124, 3) := by decide +kernel
theorem d_MO_works_207 : decode c_MO_works 207 = .ok (.goto 95, 3) := by decide +kernel
theorem d_MO_works_210 : decode c_MO_works 210 = .ok (.aload_n 0, 1) := by decide +kernel
theorem d_MO_works_211 : decode c_MO_works 211 = .ok (.iconst 1, 1) := by decide +kernel
theorem d_MO_works_212 : decode c_MO_works 212 = .ok (.iload_n 2, 1) := by decide +kernel
theorem d_MO_works_213 : decode c_MO_works 213 = .ok (.iload 5, 2) := by decide +kernel
theorem d_MO_works_215 : decode c_MO_works 215 = .ok (.aload_n 0, 1) := by decide +kernel
theorem d_MO_works_216 : decode c_MO_works 216 = .ok (.getfield 44, 3) := by decide +kernel
theorem d_MO_works_219 : decode c_MO_works 219 = .ok (.iconst 1, 1) := by decide +kernel
theorem d_MO_works_220 : decode c_MO_works 220 = .ok (.baload, 1) := by decide +kernel
theorem d_MO_works_221 : decode c_MO_works 221 = .ok (.ifCond .eq 7, 3) := by decide +kernel
theorem d_MO_works_224 : decode c_MO_works 224 = .ok (.iconst 1, 1) := by decide +kernel
theorem d_MO_works_225 : decode c_MO_works 225 = .ok (.goto 4, 3) := by decide +kernel
theorem d_MO_works_228 : decode c_MO_works 228 = .ok (.iconst 0, 1) := by decide +kernel
theorem d_MO_works_229 : decode c_MO_works 229 = .ok (.invokevirtual 124, 3) := by decide +kernel
theorem d_MO_works_232 : decode c_MO_works 232 = .ok (.goto 70, 3) := by decide +kernel
theorem d_MO_works_235 : decode c_MO_works 235 = .ok (.aload_n 0, 1) := by decide +kernel
theorem d_MO_works_236 : decode c_MO_works 236 = .ok (.iconst 1, 1) := by decide +kernel
theorem d_MO_works_237 : decode c_MO_works 237 = .ok (.iload_n 2, 1) := by decide +kernel
theorem d_MO_works_238 : decode c_MO_works 238 = .ok (.iload 5, 2) := by decide +kernel
theorem d_MO_works_240 : decode c_MO_works 240 = .ok (.iconst 0, 1) := by decide +kernel
theorem d_MO_works_241 : decode c_MO_works 241 = .ok (.invokevirtual 128, 3) := by decide +kernel
theorem d_MO_works_244 : decode c_MO_works 244 = .ok (.goto 58, 3) := by decide +kernel
theorem d_MO_works_247 : decode c_MO_works 247 = .ok (.aload_n 0, 1) := by decide +kernel
theorem d_MO_works_248 : decode c_MO_works 248 = .ok (.iconst 1, 1) := by decide +kernel
theorem d_MO_works_249 : decode c_MO_works 249 = .ok (.iload_n 2, 1) := by decide +kernel
theorem d_MO_works_250 : decode c_MO_works 250 = .ok (.iload 4, 2) := by decide +kernel
theorem d_MO_works_252 : decode c_MO_works 252 = .ok (.iload 5, 2) := by decide +kernel
theorem d_MO_works_254 : decode c_MO_works 254 = .ok (.iand, 1) := by decide +kernel
theorem d_MO_works_255 : decode c_MO_works 255 = .ok (.invokevirtual 132, 3) := by decide +kernel
theorem d_MO_works_258 : decode c_MO_works 258 = .ok (.goto 44, 3) := by decide +kernel
theorem d_MO_works_261 : decode c_MO_works 261 = .ok (.aload_n 0, 1) := by decide +kernel
theorem d_MO_works_262 : decode c_MO_works 262 = .ok (.iconst 1, 1) := by decide +kernel
theorem d_MO_works_263 : decode c_MO_works 263 = .ok (.iload_n 2, 1) := by decide +kernel
theorem d_MO_works_264 : decode c_MO_works 264 = .ok (.iload 4, 2) := by decide +kernel
theorem d_MO_works_266 : decode c_MO_works 266 = .ok (.iload 5, 2) := by decide +kernel
theorem d_MO_works_268 : decode c_MO_works 268 = .ok (.ixor, 1) := by decide +kernel
theorem d_MO_works_269 : decode c_MO_works 269 = .ok (.invokevirtual 132, 3) := by decide +kernel
theorem d_MO_works_272 : decode c_MO_works 272 = .ok (.goto 30, 3) := by decide +kernel
theorem d_MO_works_275 : decode c_MO_works 275 = .ok (.aload_n 0, 1) := by decide +kernel
theorem d_MO_works_276 : decode c_MO_works 276 = .ok (.iconst 1, 1) := by decide +kernel
theorem d_MO_works_277 : decode c_MO_works 277 = .ok (.iload_n 2, 1) := by decide +kernel
theorem d_MO_works_278 : decode c_MO_works 278 = .ok (.iload 5, 2) := by decide +kernel
theorem d_MO_works_280 : decode c_MO_works 280 = .ok (.iconst 1, 1) := by decide +kernel
theorem d_MO_works_281 : decode c_MO_works 281 = .ok (.invokevirtual 128, 3) := by decide +kernel
theorem d_MO_works_284 : decode c_MO_works 284 = .ok (.goto 18, 3) := by decide +kernel
theorem d_MO_works_287 : decode c_MO_works 287 = .ok (.aload_n 0, 1) := by decide +kernel
theorem d_MO_works_288 : decode c_MO_works 288 = .ok (.iconst 1, 1) := by decide +kernel
theorem d_MO_works_289 : decode c_MO_works 289 = .ok (.iload_n 2, 1) := by decide +kernel
theorem d_MO_works_290 : decode c_MO_works 290 = .ok (.invokevirtual 135, 3) := by decide +kernel
theorem d_MO_works_293 : decode c_MO_works 293 = .ok (.goto 9, 3) := by decide +kernel
theorem d_MO_works_296 : decode c_MO_works 296 = .ok (.aload_n 0, 1) := by decide +kernel
theorem d_MO_works_297 : decode c_MO_works 297 = .ok (.iconst 1, 1) := by decide +kernel
theorem d_MO_works_298 : decode c_MO_works 298 = .ok (.iload_n 2, 1) := by decide +kernel
theorem d_MO_works_299 : decode c_MO_works 299 = .ok (.invokevirtual 139, 3) := by decide +kernel
theorem d_MO_works_302 : decode c_MO_works 302 = .ok (.return_, 1) := by decide +kernel
theorem d_MO_boundary_0 : decode c_MO_boundary 0 = .ok (.aload_n 0, 1) := by decide +kernel
theorem d_MO_boundary_1 : decode c_MO_boundary 1 = .ok (.aload_n 0, 1) := by decide +kernel
theorem d_MO_boundary_2 : decode c_MO_boundary 2 = .ok (.getfield 104, 3) := by decide +kernel
theorem d_MO_boundary_5 : decode c_MO_boundary 5 = .ok (.ifCond .eq 7, 3) := by decide +kernel
theorem d_MO_boundary_8 : decode c_MO_boundary 8 = .ok (.iconst 0, 1) := by decide +kernel
theorem d_MO_boundary_9 : decode c_MO_boundary 9 = .ok (.goto 4, 3) := by decide +kernel
theorem d_MO_boundary_12 : decode c_MO_boundary 12 = .ok (.iconst 1, 1) := by decide +kernel
theorem d_MO_boundary_13 : decode c_MO_boundary 13 = .ok (.putfield 53, 3) := by decide +kernel
theorem d_MO_boundary_16 : decode c_MO_boundary 16 = .ok (.iconst 0, 1) := by decide +kernel
theorem d_MO_boundary_17 : decode c_MO_boundary 17 = .ok (.istore_n 1, 1) := by decide +kernel
theorem d_MO_boundary_18 : decode c_MO_boundary 18 = .ok (.aload_n 0, 1) := by decide +kernel
theorem d_MO_boundary_19 : decode c_MO_boundary 19 = .ok (.getfield 53, 3) := by decide +kernel
theorem d_MO_boundary_22 : decode c_MO_boundary 22 = .ok (.ifCond .ne 7, 3) := by decide +kernel
theorem d_MO_boundary_25 : decode c_MO_boundary 25 = .ok (.iconst 1, 1) := by decide +kernel
theorem d_MO_boundary_26 : decode c_MO_boundary 26 = .ok (.goto 4, 3) := by decide +kernel
theorem d_MO_boundary_29 : decode c_MO_boundary 29 = .ok (.iconst 0, 1) := by decide +kernel
theorem d_MO_boundary_30 : decode c_MO_boundary 30 = .ok (.istore_n 2, 1) := by decide +kernel
theorem d_MO_boundary_31 : decode c_MO_boundary 31 = .ok (.iload_n 2, 1) := by decide +kernel
theorem d_MO_boundary_32 : decode c_MO_boundary 32 = .ok (.ifCond .eq 42, 3) := by decide +kernel
theorem d_MO_boundary_35 : decode c_MO_boundary 35 = .ok (.iload_n 1, 1) := by decide +kernel
theorem d_MO_boundary_36 : decode c_MO_boundary 36 = .ok (.sipush 1024, 3) := by decide +kernel
theorem d_MO_boundary_39 : decode c_MO_boundary 39 = .ok (.if_icmp .ge 35, 3) := by decide +kernel
theorem d_MO_boundary_42 : decode c_MO_boundary 42 = .ok (.aload_n 0, 1) := by decide +kernel
theorem d_MO_boundary_43 : decode c_MO_boundary 43 = .ok (.getfield 47, 3) := by decide +kernel
theorem d_MO_boundary_46 : decode c_MO_boundary 46 = .ok (.iconst 1, 1) := by decide +kernel
theorem d_MO_boundary_47 : decode c_MO_boundary 47 = .ok (.iaload, 1) := by decide +kernel
theorem d_MO_boundary_48 : decode c_MO_boundary 48 = .ok (.ifCond .ne 26, 3) := by decide +kernel
theorem d_MO_boundary_51 : decode c_MO_boundary 51 = .ok (.aload_n 0, 1) := by decide +kernel
theorem d_MO_boundary_52 : decode c_MO_boundary 52 = .ok (.invokevirtual 169, 3) := by decide +kernel
theorem d_MO_boundary_55 : decode c_MO_boundary 55 = .ok (.iinc 1 1, 3) := by decide +kernel
theorem d_MO_boundary_58 : decode c_MO_boundary 58 = .ok (.aload_n 0, 1) := by decide +kernel
theorem d_MO_boundary_59 : decode c_MO_boundary 59 = .ok (.invokevirtual 172, 3) := by decide +kernel
theorem d_MO_boundary_62 : decode c_MO_boundary 62 = .ok (.ifCond .ne 7, 3) := by decide +kernel
theorem d_MO_boundary_65 : decode c_MO_boundary 65 = .ok (.iconst 1, 1) := by decide +kernel
theorem d_MO_boundary_66 : decode c_MO_boundary 66 = .ok (.goto 4, 3) := by decide +kernel
theorem d_MO_boundary_69 : decode c_MO_boundary 69 = .ok (.iconst 0, 1) := by decide +kernel
theorem d_MO_boundary_70 : decode c_MO_boundary 70 = .ok (.istore_n 2, 1) := by decide +kernel
theorem d_MO_boundary_71 : decode c_MO_boundary 71 = .ok (.goto (-40), 3) := by decide +kernel
theorem d_MO_boundary_74 : decode c_MO_boundary 74 = .ok (.iload_n 1, 1) := by decide +kernel
theorem d_MO_boundary_75 : decode c_MO_boundary 75 = .ok (.ireturn, 1) := by decide +kernel
theorem d_MO_atBeginning_0 : decode c_MO_atBeginning 0 = .ok (.iconst 0, 1) := by decide +kernel
theorem d_MO_atBeginning_1 : decode c_MO_atBeginning 1 = .ok (.istore_n 1, 1) := by decide +kernel
theorem d_MO_atBeginning_2 : decode c_MO_atBeginning 2 = .ok (.iconst 0, 1) := by decide +kernel
theorem d_MO_atBeginning_3 : decode c_MO_atBeginning 3 = .ok (.istore_n 2, 1) := by decide +kernel
theorem d_MO_atBeginning_4 : decode c_MO_atBeginning 4 = .ok (.iload_n 2, 1) := by decide +kernel
theorem d_MO_atBeginning_5 : decode c_MO_atBeginning 5 = .ok (.sipush 256, 3) := by decide +kernel
theorem d_MO_atBeginning_8 : decode c_MO_atBeginning 8 = .ok (.if_icmp .ge 34, 3) := by decide +kernel
theorem d_MO_atBeginning_11 : decode c_MO_atBeginning 11 = .ok (.iload_n 1, 1) := by decide +kernel
theorem d_MO_atBeginning_12 : decode c_MO_atBeginning 12 = .ok (.ifCond .ne 18, 3) := by decide +kernel
theorem d_MO_atBeginning_15 : decode c_MO_atBeginning 15 = .ok (.aload_n 0, 1) := by decide +kernel
theorem d_MO_atBeginning_16 : decode c_MO_atBeginning 16 = .ok (.getfield 17, 3) := by decide +kernel
theorem d_MO_atBeginning_19 : decode c_MO_atBeginning 19 = .ok (.iload_n 2, 1) := by decide +kernel
theorem d_MO_atBeginning_20 : decode c_MO_atBeginning 20 = .ok (.iaload, 1) := by decide +kernel
theorem d_MO_atBeginning_21 : decode c_MO_atBeginning 21 = .ok (.aload_n 0, 1) := by decide +kernel
theorem d_MO_atBeginning_22 : decode c_MO_atBeginning 22 = .ok (.getfield 38, 3) := by decide +kernel
theorem d_MO_atBeginning_25 : decode c_MO_atBeginning 25 = .ok (.iconst 1, 1) := by decide +kernel
theorem d_MO_atBeginning_26 : decode c_MO_atBeginning 26 = .ok (.iaload, 1) := by decide +kernel
theorem d_MO_atBeginning_27 : decode c_MO_atBeginning 27 = .ok (.if_icmp .ne 7, 3) := by decide +kernel
theorem d_MO_atBeginning_30 : decode c_MO_atBeginning 30 = .ok (.iconst 1, 1) := by decide +kernel
theorem d_MO_atBeginning_31 : decode c_MO_atBeginning 31 = .ok (.goto 4, 3) := by decide +kernel
theorem d_MO_atBeginning_34 : decode c_MO_atBeginning 34 = .ok (.iconst 0, 1) := by decide +kernel
theorem d_MO_atBeginning_35 : decode c_MO_atBeginning 35 = .ok (.istore_n 1, 1) := by decide +kernel
theorem d_MO_atBeginning_36 : decode c_MO_atBeginning 36 = .ok (.iinc 2 1, 3) := by decide +kernel
theorem d_MO_atBeginning_39 : decode c_MO_atBeginning 39 = .ok (.goto (-35), 3) := by decide +kernel
theorem d_MO_atBeginning_42 : decode c_MO_atBeginning 42 = .ok (.iload_n 1, 1) := by decide +kernel
theorem d_MO_atBeginning_43 : decode c_MO_atBeginning 43 = .ok (.ireturn, 1) := by decide +kernel
theorem d_MO_alike_0 : decode c_MO_alike 0 = .ok (.aload_n 0, 1) := by decide +kernel
theorem d_MO_alike_1 : decode c_MO_alike 1 = .ok (.iconst 0, 1) := by decide +kernel
theorem d_MO_alike_2 : decode c_MO_alike 2 = .ok (.putfield 53, 3) := by decide +kernel
theorem d_MO_alike_5 : decode c_MO_alike 5 = .ok (.aload_n 0, 1) := by decide +kernel
theorem d_MO_alike_6 : decode c_MO_alike 6 = .ok (.getfield 29, 3) := by decide +kernel
theorem d_MO_alike_9 : decode c_MO_alike 9 = .ok (.iconst 0, 1) := by decide +kernel
theorem d_MO_alike_10 : decode c_MO_alike 10 = .ok (.iaload, 1) := by decide +kernel
theorem d_MO_alike_11 : decode c_MO_alike 11 = .ok (.aload_n 0, 1) := by decide +kernel
theorem d_MO_alike_12 : decode c_MO_alike 12 = .ok (.getfield 29, 3) := by decide +kernel
theorem d_MO_alike_15 : decode c_MO_alike 15 = .ok (.iconst 3, 1) := by decide +kernel
theorem d_MO_alike_16 : decode c_MO_alike 16 = .ok (.iaload, 1) := by decide +kernel
theorem d_MO_alike_17 : decode c_MO_alike 17 = .ok (.if_icmp .ne 67, 3) := by decide +kernel
theorem d_MO_alike_20 : decode c_MO_alike 20 = .ok (.aload_n 0, 1) := by decide +kernel
theorem d_MO_alike_21 : decode c_MO_alike 21 = .ok (.getfield 29, 3) := by decide +kernel
theorem d_MO_alike_24 : decode c_MO_alike 24 = .ok (.iconst 1, 1) := by decide +kernel
theorem d_MO_alike_25 : decode c_MO_alike 25 = .ok (.iaload, 1) := by decide +kernel
theorem d_MO_alike_26 : decode c_MO_alike 26 = .ok (.aload_n 0, 1) := by decide +kernel
theorem d_MO_alike_27 : decode c_MO_alike 27 = .ok (.getfield 29, 3) := by decide +kernel
theorem d_MO_alike_30 : decode c_MO_alike 30 = .ok (.iconst 4, 1) := by decide +kernel
theorem d_MO_alike_31 : decode c_MO_alike 31 = .ok (.iaload, 1) := by decide +kernel
theorem d_MO_alike_32 : decode c_MO_alike 32 = .ok (.if_icmp .ne 52, 3) := by decide +kernel
theorem d_MO_alike_35 : decode c_MO_alike 35 = .ok (.aload_n 0, 1) := by decide +kernel
theorem d_MO_alike_36 : decode c_MO_alike 36 = .ok (.getfield 35, 3) := by decide +kernel
theorem d_MO_alike_39 : decode c_MO_alike 39 = .ok (.iconst 0, 1) := by decide +kernel
theorem d_MO_alike_40 : decode c_MO_alike 40 = .ok (.iaload, 1) := by decide +kernel
theorem d_MO_alike_41 : decode c_MO_alike 41 = .ok (.aload_n 0, 1) := by decide +kernel
theorem d_MO_alike_42 : decode c_MO_alike 42 = .ok (.getfield 35, 3) := by decide +kernel
theorem d_MO_alike_45 : decode c_MO_alike 45 = .ok (.iconst 1, 1) := by decide +kernel
theorem d_MO_alike_46 : decode c_MO_alike 46 = .ok (.iaload, 1) := by decide +kernel
theorem d_MO_alike_47 : decode c_MO_alike 47 = .ok (.if_icmp .ne 37, 3) := by decide +kernel
theorem d_MO_alike_50 : decode c_MO_alike 50 = .ok (.aload_n 0, 1) := by decide +kernel
theorem d_MO_alike_51 : decode c_MO_alike 51 = .ok (.getfield 41, 3) := by decide +kernel
theorem d_MO_alike_54 : decode c_MO_alike 54 = .ok (.iconst 0, 1) := by decide +kernel
theorem d_MO_alike_55 : decode c_MO_alike 55 = .ok (.baload, 1) := by decide +kernel
theorem d_MO_alike_56 : decode c_MO_alike 56 = .ok (.aload_n 0, 1) := by decide +kernel
theorem d_MO_alike_57 : decode c_MO_alike 57 = .ok (.getfield 41, 3) := by decide +kernel
theorem d_MO_alike_60 : decode c_MO_alike 60 = .ok (.iconst 1, 1) := by decide +kernel
theorem d_MO_alike_61 : decode c_MO_alike 61 = .ok (.baload, 1) := by decide +kernel
theorem d_MO_alike_62 : decode c_MO_alike 62 = .ok (.if_icmp .ne 22, 3) := by decide +kernel
theorem d_MO_alike_65 : decode c_MO_alike 65 = .ok (.aload_n 0, 1) := by decide +kernel
theorem d_MO_alike_66 : decode c_MO_alike 66 = .ok (.getfield 44, 3) := by decide +kernel
theorem d_MO_alike_69 : decode c_MO_alike 69 = .ok (.iconst 0, 1) := by decide +kernel
theorem d_MO_alike_70 : decode c_MO_alike 70 = .ok (.baload, 1) := by decide +kernel
theorem d_MO_alike_71 : decode c_MO_alike 71 = .ok (.aload_n 0, 1) := by decide +kernel
theorem d_MO_alike_72 : decode c_MO_alike 72 = .ok (.getfield 44, 3) := by decide +kernel
theorem d_MO_alike_75 : decode c_MO_alike 75 = .ok (.iconst 1, 1) := by decide +kernel
theorem d_MO_alike_76 : decode c_MO_alike 76 = .ok (.baload, 1) := by decide +kernel
theorem d_MO_alike_77 : decode c_MO_alike 77 = .ok (.if_icmp .ne 7, 3) := by decide +kernel
theorem d_MO_alike_80 : decode c_MO_alike 80 = .ok (.iconst 1, 1) := by decide +kernel
theorem d_MO_alike_81 : decode c_MO_alike 81 = .ok (.goto 4, 3) := by decide +kernel
theorem d_MO_alike_84 : decode c_MO_alike 84 = .ok (.iconst 0, 1) := by decide +kernel
theorem d_MO_alike_85 : decode c_MO_alike 85 = .ok (.istore_n 1, 1) := by decide +kernel
theorem d_MO_alike_86 : decode c_MO_alike 86 = .ok (.iconst 0, 1) := by decide +kernel
theorem d_MO_alike_87 : decode c_MO_alike 87 = .ok (.istore_n 2, 1) := by decide +kernel
theorem d_MO_alike_88 : decode c_MO_alike 88 = .ok (.iload_n 2, 1) := by decide +kernel
theorem d_MO_alike_89 : decode c_MO_alike 89 = .ok (.sipush 256, 3) := by decide +kernel
theorem d_MO_alike_92 : decode c_MO_alike 92 = .ok (.if_icmp .ge 38, 3) := by decide +kernel
theorem d_MO_alike_95 : decode c_MO_alike 95 = .ok (.iload_n 1, 1) := by decide +kernel
theorem d_MO_alike_96 : decode c_MO_alike 96 = .ok (.ifCond .eq 26, 3) := by decide +kernel
theorem d_MO_alike_99 : decode c_MO_alike 99 = .ok (.aload_n 0, 1) := by decide +kernel
theorem d_MO_alike_100 : decode c_MO_alike 100 = .ok (.getfield 32, 3) := by decide +kernel
theorem d_MO_alike_103 : decode c_MO_alike 103 = .ok (.iload_n 2, 1) := by decide +kernel
theorem d_MO_alike_104 : decode c_MO_alike 104 = .ok (.iaload, 1) := by decide +kernel
theorem d_MO_alike_105 : decode c_MO_alike 105 = .ok (.aload_n 0, 1) := by decide +kernel
theorem d_MO_alike_106 : decode c_MO_alike 106 = .ok (.getfield 32, 3) := by decide +kernel
theorem d_MO_alike_109 : decode c_MO_alike 109 = .ok (.sipush 256, 3) := by decide +kernel
theorem d_MO_alike_112 : decode c_MO_alike 112 = .ok (.iload_n 2, 1) := by decide +kernel
theorem d_MO_alike_113 : decode c_MO_alike 113 = .ok (.iadd, 1) := by decide +kernel
theorem d_MO_alike_114 : decode c_MO_alike 114 = .ok (.iaload, 1) := by decide +kernel
theorem d_MO_alike_115 : decode c_MO_alike 115 = .ok (.if_icmp .ne 7, 3) := by decide +kernel
theorem d_MO_alike_118 : decode c_MO_alike 118 = .ok (.iconst 1, 1) := by decide +kernel
theorem d_MO_alike_119 : decode c_MO_alike 119 = .ok (.goto 4, 3) := by decide +kernel
theorem d_MO_alike_122 : decode c_MO_alike 122 = .ok (.iconst 0, 1) := by decide +kernel
theorem d_MO_alike_123 : decode c_MO_alike 123 = .ok (.istore_n 1, 1) := by decide +kernel
theorem d_MO_alike_124 : decode c_MO_alike 124 = .ok (.iinc 2 1, 3) := by decide +kernel
theorem d_MO_alike_127 : decode c_MO_alike 127 = .ok (.goto (-39), 3) := by decide +kernel
theorem d_MO_alike_130 : decode c_MO_alike 130 = .ok (.aload_n 0, 1) := by decide +kernel
theorem d_MO_alike_131 : decode c_MO_alike 131 = .ok (.getfield 17, 3) := by decide +kernel
theorem d_MO_alike_134 : decode c_MO_alike 134 = .ok (.aload_n 0, 1) := by decide +kernel
theorem d_MO_alike_135 : decode c_MO_alike 135 = .ok (.getfield 38, 3) := by decide +kernel
theorem d_MO_alike_138 : decode c_MO_alike 138 = .ok (.iconst 0, 1) := by decide +kernel
theorem d_MO_alike_139 : decode c_MO_alike 139 = .ok (.iaload, 1) := by decide +kernel
theorem d_MO_alike_140 : decode c_MO_alike 140 = .ok (.iaload, 1) := by decide +kernel
theorem d_MO_alike_141 : decode c_MO_alike 141 = .ok (.istore_n 2, 1) := by decide +kernel
theorem d_MO_alike_142 : decode c_MO_alike 142 = .ok (.iload_n 1, 1) := by decide +kernel
theorem d_MO_alike_143 : decode c_MO_alike 143 = .ok (.ifCond .eq 55, 3) := by decide +kernel
theorem d_MO_alike_146 : decode c_MO_alike 146 = .ok (.iload_n 2, 1) := by decide +kernel
theorem d_MO_alike_147 : decode c_MO_alike 147 = .ok (.iconst (-1), 1) := by decide +kernel
theorem d_MO_alike_148 : decode c_MO_alike 148 = .ok (.if_icmp .eq 50, 3) := by decide +kernel
theorem d_MO_alike_151 : decode c_MO_alike 151 = .ok (.iload_n 2, 1) := by decide +kernel
theorem d_MO_alike_152 : decode c_MO_alike 152 = .ok (.aload_n 0, 1) := by decide +kernel
theorem d_MO_alike_153 : decode c_MO_alike 153 = .ok (.getfield 38, 3) := by decide +kernel
theorem d_MO_alike_156 : decode c_MO_alike 156 = .ok (.iconst 1, 1) := by decide +kernel
theorem d_MO_alike_157 : decode c_MO_alike 157 = .ok (.iaload, 1) := by decide +kernel
theorem d_MO_alike_158 : decode c_MO_alike 158 = .ok (.if_icmp .ne 40, 3) := by decide +kernel
theorem d_MO_alike_161 : decode c_MO_alike 161 = .ok (.aload_n 0, 1) := by decide +kernel
theorem d_MO_alike_162 : decode c_MO_alike 162 = .ok (.getfield 47, 3) := by decide +kernel
theorem d_MO_alike_165 : decode c_MO_alike 165 = .ok (.iconst 0, 1) := by decide +kernel
theorem d_MO_alike_166 : decode c_MO_alike 166 = .ok (.iaload, 1) := by decide +kernel
theorem d_MO_alike_167 : decode c_MO_alike 167 = .ok (.iconst 1, 1) := by decide +kernel
theorem d_MO_alike_168 : decode c_MO_alike 168 = .ok (.if_icmp .ne 7, 3) := by decide +kernel
theorem d_MO_alike_171 : decode c_MO_alike 171 = .ok (.iconst 1, 1) := by decide +kernel
theorem d_MO_alike_172 : decode c_MO_alike 172 = .ok (.goto 4, 3) := by decide +kernel
theorem d_MO_alike_175 : decode c_MO_alike 175 = .ok (.iconst 0, 1) := by decide +kernel
theorem d_MO_alike_176 : decode c_MO_alike 176 = .ok (.aload_n 0, 1) := by decide +kernel
theorem d_MO_alike_177 : decode c_MO_alike 177 = .ok (.getfield 47, 3) := by decide +kernel
theorem d_MO_alike_180 : decode c_MO_alike 180 = .ok (.iconst 1, 1) := by decide +kernel
theorem d_MO_alike_181 : decode c_MO_alike 181 = .ok (.iaload, 1) := by decide +kernel
theorem d_MO_alike_182 : decode c_MO_alike 182 = .ok (.iconst 1, 1) := by decide +kernel
theorem d_MO_alike_183 : decode c_MO_alike 183 = .ok (.if_icmp .ne 7, 3) := by decide +kernel
theorem d_MO_alike_186 : decode c_MO_alike 186 = .ok (.iconst 1, 1) := by decide +kernel
theorem d_MO_alike_187 : decode c_MO_alike 187 = .ok (.goto 4, 3) := by decide +kernel
theorem d_MO_alike_190 : decode c_MO_alike 190 = .ok (.iconst 0, 1) := by decide +kernel
theorem d_MO_alike_191 : decode c_MO_alike 191 = .ok (.if_icmp .ne 7, 3) := by decide +kernel
theorem d_MO_alike_194 : decode c_MO_alike 194 = .ok (.iconst 1, 1) := by decide +kernel
theorem d_MO_alike_195 : decode c_MO_alike 195 = .ok (.goto 4, 3) := by decide +kernel
theorem d_MO_alike_198 : decode c_MO_alike 198 = .ok (.iconst 0, 1) := by decide +kernel
theorem d_MO_alike_199 : decode c_MO_alike 199 = .ok (.ireturn, 1) := by decide +kernel
theorem d_MO_code_0 : decode c_MO_code 0 = .ok (.aload_n 0, 1) := by decide +kernel
theorem d_MO_code_1 : decode c_MO_code 1 = .ok (.iconst 0, 1) := by decide +kernel
theorem d_MO_code_2 : decode c_MO_code 2 = .ok (.putfield 53, 3) := by decide +kernel
theorem d_MO_code_5 : decode c_MO_code 5 = .ok (.iload_n 1, 1) := by decide +kernel
theorem d_MO_code_6 : decode c_MO_code 6 = .ok (.ifCond .lt 11, 3) := by decide +kernel
theorem d_MO_code_9 : decode c_MO_code 9 = .ok (.iload_n 1, 1) := by decide +kernel
theorem d_MO_code_10 : decode c_MO_code 10 = .ok (.aload_n 0, 1) := by decide +kernel
theorem d_MO_code_11 : decode c_MO_code 11 = .ok (.getfield 77, 3) := by decide +kernel
theorem d_MO_code_14 : decode c_MO_code 14 = .ok (.if_icmp .lt 5, 3) := by decide +kernel
theorem d_MO_code_17 : decode c_MO_code 17 = .ok (.iconst (-1), 1) := by decide +kernel
theorem d_MO_code_18 : decode c_MO_code 18 = .ok (.ireturn, 1) := by decide +kernel
theorem d_MO_code_19 : decode c_MO_code 19 = .ok (.iload_n 2, 1) := by decide +kernel
theorem d_MO_code_20 : decode c_MO_code 20 = .ok (.ifCond .ne 12, 3) := by decide +kernel
theorem d_MO_code_23 : decode c_MO_code 23 = .ok (.aload_n 0, 1) := by decide +kernel
theorem d_MO_code_24 : decode c_MO_code 24 = .ok (.getfield 20, 3) := by decide +kernel
theorem d_MO_code_27 : decode c_MO_code 27 = .ok (.iload_n 1, 1) := by decide +kernel
theorem d_MO_code_28 : decode c_MO_code 28 = .ok (.iaload, 1) := by decide +kernel
theorem d_MO_code_29 : decode c_MO_code 29 = .ok (.goto 32, 3) := by decide +kernel
theorem d_MO_code_32 : decode c_MO_code 32 = .ok (.iload_n 2, 1) := by decide +kernel
theorem d_MO_code_33 : decode c_MO_code 33 = .ok (.iconst 1, 1) := by decide +kernel
theorem d_MO_code_34 : decode c_MO_code 34 = .ok (.if_icmp .ne 12, 3) := by decide +kernel
theorem d_MO_code_37 : decode c_MO_code 37 = .ok (.aload_n 0, 1) := by decide +kernel
theorem d_MO_code_38 : decode c_MO_code 38 = .ok (.getfield 23, 3) := by decide +kernel
theorem d_MO_code_41 : decode c_MO_code 41 = .ok (.iload_n 1, 1) := by decide +kernel
theorem d_MO_code_42 : decode c_MO_code 42 = .ok (.iaload, 1) := by decide +kernel
theorem d_MO_code_43 : decode c_MO_code 43 = .ok (.goto 18, 3) := by decide +kernel
theorem d_MO_code_46 : decode c_MO_code 46 = .ok (.iload_n 2, 1) := by decide +kernel
theorem d_MO_code_47 : decode c_MO_code 47 = .ok (.iconst 2, 1) := by decide +kernel
theorem d_MO_code_48 : decode c_MO_code 48 = .ok (.if_icmp .ne 12, 3) := by decide +kernel
theorem d_MO_code_51 : decode c_MO_code 51 = .ok (.aload_n 0, 1) := by decide +kernel
theorem d_MO_code_52 : decode c_MO_code 52 = .ok (.getfield 26, 3) := by decide +kernel
theorem d_MO_code_55 : decode c_MO_code 55 = .ok (.iload_n 1, 1) := by decide +kernel
theorem d_MO_code_56 : decode c_MO_code 56 = .ok (.iaload, 1) := by decide +kernel
theorem d_MO_code_57 : decode c_MO_code 57 = .ok (.goto 4, 3) := by decide +kernel
theorem d_MO_code_60 : decode c_MO_code 60 = .ok (.iconst (-1), 1) := by decide +kernel
theorem d_MO_code_61 : decode c_MO_code 61 = .ok (.ireturn, 1) := by decide +kernel
theorem d_MO_mapped_0 : decode c_MO_mapped 0 = .ok (.aload_n 0, 1) := by decide +kernel
theorem d_MO_mapped_1 : decode c_MO_mapped 1 = .ok (.iconst 0, 1) := by decide +kernel
theorem d_MO_mapped_2 : decode c_MO_mapped 2 = .ok (.putfield 53, 3) := by decide +kernel
theorem d_MO_mapped_5 : decode c_MO_mapped 5 = .ok (.iload_n 1, 1) := by decide +kernel
theorem d_MO_mapped_6 : decode c_MO_mapped 6 = .ok (.invokestatic 57, 3) := by decide +kernel
theorem d_MO_mapped_9 : decode c_MO_mapped 9 = .ok (.ifCond .eq 12, 3) := by decide +kernel
theorem d_MO_mapped_12 : decode c_MO_mapped 12 = .ok (.aload_n 0, 1) := by decide +kernel
theorem d_MO_mapped_13 : decode c_MO_mapped 13 = .ok (.getfield 17, 3) := by decide +kernel
theorem d_MO_mapped_16 : decode c_MO_mapped 16 = .ok (.iload_n 1, 1) := by decide +kernel
theorem d_MO_mapped_17 : decode c_MO_mapped 17 = .ok (.iaload, 1) := by decide +kernel
theorem d_MO_mapped_18 : decode c_MO_mapped 18 = .ok (.goto 4, 3) := by decide +kernel
theorem d_MO_mapped_21 : decode c_MO_mapped 21 = .ok (.iconst (-1), 1) := by decide +kernel
theorem d_MO_mapped_22 : decode c_MO_mapped 22 = .ok (.ireturn, 1) := by decide +kernel
theorem d_MO_look_0 : decode c_MO_look 0 = .ok (.aload_n 0, 1) := by decide +kernel
theorem d_MO_look_1 : decode c_MO_look 1 = .ok (.iconst 0, 1) := by decide +kernel
theorem d_MO_look_2 : decode c_MO_look 2 = .ok (.putfield 53, 3) := by decide +kernel
theorem d_MO_look_5 : decode c_MO_look 5 = .ok (.iload_n 1, 1) := by decide +kernel
theorem d_MO_look_6 : decode c_MO_look 6 = .ok (.ifCond .lt 8, 3) := by decide +kernel
theorem d_MO_look_9 : decode c_MO_look 9 = .ok (.iload_n 1, 1) := by decide +kernel
theorem d_MO_look_10 : decode c_MO_look 10 = .ok (.iconst 1, 1) := by decide +kernel
theorem d_MO_look_11 : decode c_MO_look 11 = .ok (.if_icmp .le 5, 3) := by decide +kernel
theorem d_MO_look_14 : decode c_MO_look 14 = .ok (.iconst (-1), 1) := by decide +kernel
theorem d_MO_look_15 : decode c_MO_look 15 = .ok (.ireturn, 1) := by decide +kernel
theorem d_MO_look_16 : decode c_MO_look 16 = .ok (.iload_n 2, 1) := by decide +kernel
theorem d_MO_look_17 : decode c_MO_look 17 = .ok (.tableswitch 166 0 9 #[55, 64, 75, 82, 89, 104, 119, 126, 133, 148], 55) := by decide +kernel
theorem d_MO_look_72 : decode c_MO_look 72 = .ok (.aload_n 0, 1) := by decide +kernel
theorem d_MO_look_73 : decode c_MO_look 73 = .ok (.getfield 29, 3) := by decide +kernel
theorem d_MO_look_76 : decode c_MO_look 76 = .ok (.iconst 3, 1) := by decide +kernel
theorem d_MO_look_77 : decode c_MO_look 77 = .ok (.iload_n 1, 1) := by decide +kernel
theorem d_MO_look_78 : decode c_MO_look 78 = .ok (.imul, 1) := by decide +kernel
theorem d_MO_look_79 : decode c_MO_look 79 = .ok (.iaload, 1) := by decide +kernel
theorem d_MO_look_80 : decode c_MO_look 80 = .ok (.ireturn, 1) := by decide +kernel
theorem d_MO_look_81 : decode c_MO_look 81 = .ok (.aload_n 0, 1) := by decide +kernel
theorem d_MO_look_82 : decode c_MO_look 82 = .ok (.getfield 29, 3) := by decide +kernel
theorem d_MO_look_85 : decode c_MO_look 85 = .ok (.iconst 3, 1) := by decide +kernel
theorem d_MO_look_86 : decode c_MO_look 86 = .ok (.iload_n 1, 1) := by decide +kernel
theorem d_MO_look_87 : decode c_MO_look 87 = .ok (.imul, 1) := by decide +kernel
theorem d_MO_look_88 : decode c_MO_look 88 = .ok (.iconst 1, 1) := by decide +kernel
theorem d_MO_look_89 : decode c_MO_look 89 = .ok (.iadd, 1) := by decide +kernel
theorem d_MO_look_90 : decode c_MO_look 90 = .ok (.iaload, 1) := by decide +kernel
theorem d_MO_look_91 : decode c_MO_look 91 = .ok (.ireturn, 1) := by decide +kernel
theorem d_MO_look_92 : decode c_MO_look 92 = .ok (.aload_n 0, 1) := by decide +kernel
theorem d_MO_look_93 : decode c_MO_look 93 = .ok (.getfield 35, 3) := by decide +kernel
theorem d_MO_look_96 : decode c_MO_look 96 = .ok (.iload_n 1, 1) := by decide +kernel
theorem d_MO_look_97 : decode c_MO_look 97 = .ok (.iaload, 1) := by decide +kernel
theorem d_MO_look_98 : decode c_MO_look 98 = .ok (.ireturn, 1) := by decide +kernel
theorem d_MO_look_99 : decode c_MO_look 99 = .ok (.aload_n 0, 1) := by decide +kernel
theorem d_MO_look_100 : decode c_MO_look 100 = .ok (.getfield 38, 3) := by decide +kernel
theorem d_MO_look_103 : decode c_MO_look 103 = .ok (.iload_n 1, 1) := by decide +kernel
theorem d_MO_look_104 : decode c_MO_look 104 = .ok (.iaload, 1) := by decide +kernel
theorem d_MO_look_105 : decode c_MO_look 105 = .ok (.ireturn, 1) := by decide +kernel
theorem d_MO_look_106 : decode c_MO_look 106 = .ok (.aload_n 0, 1) := by decide +kernel
theorem d_MO_look_107 : decode c_MO_look 107 = .ok (.getfield 41, 3) := by decide +kernel
theorem d_MO_look_110 : decode c_MO_look 110 = .ok (.iload_n 1, 1) := by decide +kernel
theorem d_MO_look_111 : decode c_MO_look 111 = .ok (.baload, 1) := by decide +kernel
theorem d_MO_look_112 : decode c_MO_look 112 = .ok (.ifCond .eq 7, 3) := by decide +kernel
theorem d_MO_look_115 : decode c_MO_look 115 = .ok (.iconst 1, 1) := by decide +kernel
theorem d_MO_look_116 : decode c_MO_look 116 = .ok (.goto 4, 3) := by decide +kernel
theorem d_MO_look_119 : decode c_MO_look 119 = .ok (.iconst 0, 1) := by decide +kernel
theorem d_MO_look_120 : decode c_MO_look 120 = .ok (.ireturn, 1) := by decide +kernel
theorem d_MO_look_121 : decode c_MO_look 121 = .ok (.aload_n 0, 1) := by decide +kernel
theorem d_MO_look_122 : decode c_MO_look 122 = .ok (.getfield 44, 3) := by decide +kernel
theorem d_MO_look_125 : decode c_MO_look 125 = .ok (.iload_n 1, 1) := by decide +kernel
theorem d_MO_look_126 : decode c_MO_look 126 = .ok (.baload, 1) := by decide +kernel
theorem d_MO_look_127 : decode c_MO_look 127 = .ok (.ifCond .eq 7, 3) := by decide +kernel
theorem d_MO_look_130 : decode c_MO_look 130 = .ok (.iconst 1, 1) := by decide +kernel
theorem d_MO_look_131 : decode c_MO_look 131 = .ok (.goto 4, 3) := by decide +kernel
theorem d_MO_look_134 : decode c_MO_look 134 = .ok (.iconst 0, 1) := by decide +kernel
theorem d_MO_look_135 : decode c_MO_look 135 = .ok (.ireturn, 1) := by decide +kernel
theorem d_MO_look_136 : decode c_MO_look 136 = .ok (.aload_n 0, 1) := by decide +kernel
theorem d_MO_look_137 : decode c_MO_look 137 = .ok (.getfield 47, 3) := by decide +kernel
theorem d_MO_look_140 : decode c_MO_look 140 = .ok (.iload_n 1, 1) := by decide +kernel
theorem d_MO_look_141 : decode c_MO_look 141 = .ok (.iaload, 1) := by decide +kernel
theorem d_MO_look_142 : decode c_MO_look 142 = .ok (.ireturn, 1) := by decide +kernel
theorem d_MO_look_143 : decode c_MO_look 143 = .ok (.aload_n 0, 1) := by decide +kernel
theorem d_MO_look_144 : decode c_MO_look 144 = .ok (.getfield 50, 3) := by decide +kernel
theorem d_MO_look_147 : decode c_MO_look 147 = .ok (.iload_n 1, 1) := by decide +kernel
theorem d_MO_look_148 : decode c_MO_look 148 = .ok (.iaload, 1) := by decide +kernel
theorem d_MO_look_149 : decode c_MO_look 149 = .ok (.ireturn, 1) := by decide +kernel
theorem d_MO_look_150 : decode c_MO_look 150 = .ok (.iload_n 1, 1) := by decide +kernel
theorem d_MO_look_151 : decode c_MO_look 151 = .ok (.ifCond .ne 7, 3) := by decide +kernel
theorem d_MO_look_154 : decode c_MO_look 154 = .ok (.iconst 0, 1) := by decide +kernel
theorem d_MO_look_155 : decode c_MO_look 155 = .ok (.goto 9, 3) := by decide +kernel
theorem d_MO_look_158 : decode c_MO_look 158 = .ok (.aload_n 0, 1) := by decide +kernel
theorem d_MO_look_159 : decode c_MO_look 159 = .ok (.getfield 29, 3) := by decide +kernel
theorem d_MO_look_162 : decode c_MO_look 162 = .ok (.iconst 5, 1) := by decide +kernel
theorem d_MO_look_163 : decode c_MO_look 163 = .ok (.iaload, 1) := by decide +kernel
theorem d_MO_look_164 : decode c_MO_look 164 = .ok (.ireturn, 1) := by decide +kernel
theorem d_MO_look_165 : decode c_MO_look 165 = .ok (.iload_n 1, 1) := by decide +kernel
theorem d_MO_look_166 : decode c_MO_look 166 = .ok (.iconst 1, 1) := by decide +kernel
theorem d_MO_look_167 : decode c_MO_look 167 = .ok (.if_icmp .ne 14, 3) := by decide +kernel
theorem d_MO_look_170 : decode c_MO_look 170 = .ok (.aload_n 0, 1) := by decide +kernel
theorem d_MO_look_171 : decode c_MO_look 171 = .ok (.getfield 108, 3) := by decide +kernel
theorem d_MO_look_174 : decode c_MO_look 174 = .ok (.ifCond .eq 7, 3) := by decide +kernel
theorem d_MO_look_177 : decode c_MO_look 177 = .ok (.iconst 1, 1) := by decide +kernel
theorem d_MO_look_178 : decode c_MO_look 178 = .ok (.goto 4, 3) := by decide +kernel
theorem d_MO_look_181 : decode c_MO_look 181 = .ok (.iconst 0, 1) := by decide +kernel
theorem d_MO_look_182 : decode c_MO_look 182 = .ok (.ireturn, 1) := by decide +kernel
theorem d_MO_look_183 : decode c_MO_look 183 = .ok (.iconst (-1), 1) := by decide +kernel
theorem d_MO_look_184 : decode c_MO_look 184 = .ok (.ireturn, 1) := by decide +kernel
theorem d_MO_byteAt_0 : decode c_MO_byteAt 0 = .ok (.aload_n 0, 1) := by decide +kernel
theorem d_MO_byteAt_1 : decode c_MO_byteAt 1 = .ok (.iconst 0, 1) := by decide +kernel
theorem d_MO_byteAt_2 : decode c_MO_byteAt 2 = .ok (.putfield 53, 3) := by decide +kernel
theorem d_MO_byteAt_5 : decode c_MO_byteAt 5 = .ok (.iload_n 1, 1) := by decide +kernel
theorem d_MO_byteAt_6 : decode c_MO_byteAt 6 = .ok (.ifCond .lt 15, 3) := by decide +kernel
theorem d_MO_byteAt_9 : decode c_MO_byteAt 9 = .ok (.iload_n 1, 1) := by decide +kernel
theorem d_MO_byteAt_10 : decode c_MO_byteAt 10 = .ok (.iconst 1, 1) := by decide +kernel
theorem d_MO_byteAt_11 : decode c_MO_byteAt 11 = .ok (.if_icmp .gt 10, 3) := by decide +kernel
theorem d_MO_byteAt_14 : decode c_MO_byteAt 14 = .ok (.iload_n 2, 1) := by decide +kernel
theorem d_MO_byteAt_15 : decode c_MO_byteAt 15 = .ok (.invokestatic 57, 3) := by decide +kernel
theorem d_MO_byteAt_18 : decode c_MO_byteAt 18 = .ok (.ifCond .ne 7, 3) := by decide +kernel
theorem d_MO_byteAt_21 : decode c_MO_byteAt 21 = .ok (.iconst (-1), 1) := by decide +kernel
theorem d_MO_byteAt_22 : decode c_MO_byteAt 22 = .ok (.goto 15, 3) := by decide +kernel
theorem d_MO_byteAt_25 : decode c_MO_byteAt 25 = .ok (.aload_n 0, 1) := by decide +kernel
theorem d_MO_byteAt_26 : decode c_MO_byteAt 26 = .ok (.getfield 32, 3) := by decide +kernel
theorem d_MO_byteAt_29 : decode c_MO_byteAt 29 = .ok (.sipush 256, 3) := by decide +kernel
theorem d_MO_byteAt_32 : decode c_MO_byteAt 32 = .ok (.iload_n 1, 1) := by decide +kernel
theorem d_MO_byteAt_33 : decode c_MO_byteAt 33 = .ok (.imul, 1) := by decide +kernel
theorem d_MO_byteAt_34 : decode c_MO_byteAt 34 = .ok (.iload_n 2, 1) := by decide +kernel
theorem d_MO_byteAt_35 : decode c_MO_byteAt 35 = .ok (.iadd, 1) := by decide +kernel
theorem d_MO_byteAt_36 : decode c_MO_byteAt 36 = .ok (.iaload, 1) := by decide +kernel
theorem d_MO_byteAt_37 : decode c_MO_byteAt 37 = .ok (.ireturn, 1) := by decide +kernel
