theorem d_FM_init_0 : decode c_FM_init 0 = .ok (.aload_n 0, 1) := by decide +kernel
theorem d_FM_init_1 : decode c_FM_init 1 = .ok (.invokespecial 3, 3) := by decide +kernel
theorem d_FM_init_4 : decode c_FM_init 4 = .ok (.return_, 1) := by decide +kernel
theorem d_FM_step_0 : decode c_FM_step 0 = .ok (.aload_n 0, 1) := by decide +kernel
theorem d_FM_step_1 : decode c_FM_step 1 = .ok (.aload_n 0, 1) := by decide +kernel
theorem d_FM_step_2 : decode c_FM_step 2 = .ok (.getfield 9, 3) := by decide +kernel
theorem d_FM_step_5 : decode c_FM_step 5 = .ok (.invokevirtual 15, 3) := by decide +kernel
theorem d_FM_step_8 : decode c_FM_step 8 = .ok (.istore_n 1, 1) := by decide +kernel
theorem d_FM_step_9 : decode c_FM_step 9 = .ok (.aload_n 0, 1) := by decide +kernel
theorem d_FM_step_10 : decode c_FM_step 10 = .ok (.aload_n 0, 1) := by decide +kernel
theorem d_FM_step_11 : decode c_FM_step 11 = .ok (.getfield 9, 3) := by decide +kernel
theorem d_FM_step_14 : decode c_FM_step 14 = .ok (.iconst 1, 1) := by decide +kernel
theorem d_FM_step_15 : decode c_FM_step 15 = .ok (.iadd, 1) := by decide +kernel
theorem d_FM_step_16 : decode c_FM_step 16 = .ok (.invokevirtual 15, 3) := by decide +kernel
theorem d_FM_step_19 : decode c_FM_step 19 = .ok (.istore_n 2, 1) := by decide +kernel
theorem d_FM_step_20 : decode c_FM_step 20 = .ok (.iload_n 1, 1) := by decide +kernel
theorem d_FM_step_21 : decode c_FM_step 21 = .ok (.invokestatic 19, 3) := by decide +kernel
theorem d_FM_step_24 : decode c_FM_step 24 = .ok (.ifCond .eq 9, 3) := by decide +kernel
theorem d_FM_step_27 : decode c_FM_step 27 = .ok (.aload_n 0, 1) := by decide +kernel
theorem d_FM_step_28 : decode c_FM_step 28 = .ok (.iconst 2, 1) := by decide +kernel
theorem d_FM_step_29 : decode c_FM_step 29 = .ok (.putfield 25, 3) := by decide +kernel
theorem d_FM_step_32 : decode c_FM_step 32 = .ok (.return_, 1) := by decide +kernel
theorem d_FM_step_33 : decode c_FM_step 33 = .ok (.iload_n 1, 1) := by decide +kernel
theorem d_FM_step_34 : decode c_FM_step 34 = .ok (.iconst 1, 1) := by decide +kernel
theorem d_FM_step_35 : decode c_FM_step 35 = .ok (.if_icmp .ne 9, 3) := by decide +kernel
theorem d_FM_step_38 : decode c_FM_step 38 = .ok (.aload_n 0, 1) := by decide +kernel
theorem d_FM_step_39 : decode c_FM_step 39 = .ok (.iconst 1, 1) := by decide +kernel
theorem d_FM_step_40 : decode c_FM_step 40 = .ok (.putfield 25, 3) := by decide +kernel
theorem d_FM_step_43 : decode c_FM_step 43 = .ok (.return_, 1) := by decide +kernel
theorem d_FM_step_44 : decode c_FM_step 44 = .ok (.aload_n 0, 1) := by decide +kernel
theorem d_FM_step_45 : decode c_FM_step 45 = .ok (.aload_n 0, 1) := by decide +kernel
theorem d_FM_step_46 : decode c_FM_step 46 = .ok (.getfield 9, 3) := by decide +kernel
theorem d_FM_step_49 : decode c_FM_step 49 = .ok (.iload_n 1, 1) := by decide +kernel
theorem d_FM_step_50 : decode c_FM_step 50 = .ok (.invokestatic 28, 3) := by decide +kernel
theorem d_FM_step_53 : decode c_FM_step 53 = .ok (.iadd, 1) := by decide +kernel
theorem d_FM_step_54 : decode c_FM_step 54 = .ok (.sipush 255, 3) := by decide +kernel
theorem d_FM_step_57 : decode c_FM_step 57 = .ok (.iand, 1) := by decide +kernel
theorem d_FM_step_58 : decode c_FM_step 58 = .ok (.putfield 9, 3) := by decide +kernel
theorem d_FM_step_61 : decode c_FM_step 61 = .ok (.iload_n 1, 1) := by decide +kernel
theorem d_FM_step_62 : decode c_FM_step 62 = .ok (.bipush 9, 2) := by decide +kernel
theorem d_FM_step_64 : decode c_FM_step 64 = .ok (.if_icmp .gt 12, 3) := by decide +kernel
theorem d_FM_step_67 : decode c_FM_step 67 = .ok (.aload_n 0, 1) := by decide +kernel
theorem d_FM_step_68 : decode c_FM_step 68 = .ok (.iload_n 1, 1) := by decide +kernel
theorem d_FM_step_69 : decode c_FM_step 69 = .ok (.iload_n 2, 1) := by decide +kernel
theorem d_FM_step_70 : decode c_FM_step 70 = .ok (.invokevirtual 31, 3) := by decide +kernel
theorem d_FM_step_73 : decode c_FM_step 73 = .ok (.goto 24, 3) := by decide +kernel
theorem d_FM_step_76 : decode c_FM_step 76 = .ok (.iload_n 1, 1) := by decide +kernel
theorem d_FM_step_77 : decode c_FM_step 77 = .ok (.bipush 21, 2) := by decide +kernel
theorem d_FM_step_79 : decode c_FM_step 79 = .ok (.if_icmp .gt 12, 3) := by decide +kernel
theorem d_FM_step_82 : decode c_FM_step 82 = .ok (.aload_n 0, 1) := by decide +kernel
theorem d_FM_step_83 : decode c_FM_step 83 = .ok (.iload_n 1, 1) := by decide +kernel
theorem d_FM_step_84 : decode c_FM_step 84 = .ok (.iload_n 2, 1) := by decide +kernel
theorem d_FM_step_85 : decode c_FM_step 85 = .ok (.invokevirtual 35, 3) := by decide +kernel
theorem d_FM_step_88 : decode c_FM_step 88 = .ok (.goto 9, 3) := by decide +kernel
theorem d_FM_step_91 : decode c_FM_step 91 = .ok (.aload_n 0, 1) := by decide +kernel
theorem d_FM_step_92 : decode c_FM_step 92 = .ok (.iload_n 1, 1) := by decide +kernel
theorem d_FM_step_93 : decode c_FM_step 93 = .ok (.iload_n 2, 1) := by decide +kernel
theorem d_FM_step_94 : decode c_FM_step 94 = .ok (.invokevirtual 38, 3) := by decide +kernel
theorem d_FM_step_97 : decode c_FM_step 97 = .ok (.return_, 1) := by decide +kernel
theorem d_FM_move_0 : decode c_FM_move 0 = .ok (.iload_n 1, 1) := by decide +kernel
theorem d_FM_move_1 : decode c_FM_move 1 = .ok (.tableswitch 159 2 9 #[47, 59, 75, 96, 108, 125, 133, 144], 47) := by decide +kernel
theorem d_FM_move_48 : decode c_FM_move 48 = .ok (.aload_n 0, 1) := by decide +kernel
theorem d_FM_move_49 : decode c_FM_move 49 = .ok (.aload_n 0, 1) := by decide +kernel
theorem d_FM_move_50 : decode c_FM_move 50 = .ok (.iload_n 2, 1) := by decide +kernel
theorem d_FM_move_51 : decode c_FM_move 51 = .ok (.invokevirtual 41, 3) := by decide +kernel
theorem d_FM_move_54 : decode c_FM_move 54 = .ok (.putfield 44, 3) := by decide +kernel
theorem d_FM_move_57 : decode c_FM_move 57 = .ok (.goto 103, 3) := by decide +kernel
theorem d_FM_move_60 : decode c_FM_move 60 = .ok (.aload_n 0, 1) := by decide +kernel
theorem d_FM_move_61 : decode c_FM_move 61 = .ok (.aload_n 0, 1) := by decide +kernel
theorem d_FM_move_62 : decode c_FM_move 62 = .ok (.aload_n 0, 1) := by decide +kernel
theorem d_FM_move_63 : decode c_FM_move 63 = .ok (.iload_n 2, 1) := by decide +kernel
theorem d_FM_move_64 : decode c_FM_move 64 = .ok (.invokevirtual 15, 3) := by decide +kernel
theorem d_FM_move_67 : decode c_FM_move 67 = .ok (.invokevirtual 41, 3) := by decide +kernel
theorem d_FM_move_70 : decode c_FM_move 70 = .ok (.putfield 44, 3) := by decide +kernel
theorem d_FM_move_73 : decode c_FM_move 73 = .ok (.goto 87, 3) := by decide +kernel
theorem d_FM_move_76 : decode c_FM_move 76 = .ok (.aload_n 0, 1) := by decide +kernel
theorem d_FM_move_77 : decode c_FM_move 77 = .ok (.aload_n 0, 1) := by decide +kernel
theorem d_FM_move_78 : decode c_FM_move 78 = .ok (.aload_n 0, 1) := by decide +kernel
theorem d_FM_move_79 : decode c_FM_move 79 = .ok (.iload_n 2, 1) := by decide +kernel
theorem d_FM_move_80 : decode c_FM_move 80 = .ok (.aload_n 0, 1) := by decide +kernel
theorem d_FM_move_81 : decode c_FM_move 81 = .ok (.getfield 47, 3) := by decide +kernel
theorem d_FM_move_84 : decode c_FM_move 84 = .ok (.iadd, 1) := by decide +kernel
theorem d_FM_move_85 : decode c_FM_move 85 = .ok (.invokevirtual 15, 3) := by decide +kernel
theorem d_FM_move_88 : decode c_FM_move 88 = .ok (.invokevirtual 41, 3) := by decide +kernel
theorem d_FM_move_91 : decode c_FM_move 91 = .ok (.putfield 44, 3) := by decide +kernel
theorem d_FM_move_94 : decode c_FM_move 94 = .ok (.goto 66, 3) := by decide +kernel
theorem d_FM_move_97 : decode c_FM_move 97 = .ok (.aload_n 0, 1) := by decide +kernel
theorem d_FM_move_98 : decode c_FM_move 98 = .ok (.iload_n 2, 1) := by decide +kernel
theorem d_FM_move_99 : decode c_FM_move 99 = .ok (.aload_n 0, 1) := by decide +kernel
theorem d_FM_move_100 : decode c_FM_move 100 = .ok (.getfield 44, 3) := by decide +kernel
theorem d_FM_move_103 : decode c_FM_move 103 = .ok (.invokevirtual 50, 3) := by decide +kernel
theorem d_FM_move_106 : decode c_FM_move 106 = .ok (.goto 54, 3) := by decide +kernel
theorem d_FM_move_109 : decode c_FM_move 109 = .ok (.aload_n 0, 1) := by decide +kernel
theorem d_FM_move_110 : decode c_FM_move 110 = .ok (.iload_n 2, 1) := by decide +kernel
theorem d_FM_move_111 : decode c_FM_move 111 = .ok (.aload_n 0, 1) := by decide +kernel
theorem d_FM_move_112 : decode c_FM_move 112 = .ok (.getfield 47, 3) := by decide +kernel
theorem d_FM_move_115 : decode c_FM_move 115 = .ok (.iadd, 1) := by decide +kernel
theorem d_FM_move_116 : decode c_FM_move 116 = .ok (.aload_n 0, 1) := by decide +kernel
theorem d_FM_move_117 : decode c_FM_move 117 = .ok (.getfield 44, 3) := by decide +kernel
theorem d_FM_move_120 : decode c_FM_move 120 = .ok (.invokevirtual 50, 3) := by decide +kernel
theorem d_FM_move_123 : decode c_FM_move 123 = .ok (.goto 37, 3) := by decide +kernel
theorem d_FM_move_126 : decode c_FM_move 126 = .ok (.aload_n 0, 1) := by decide +kernel
theorem d_FM_move_127 : decode c_FM_move 127 = .ok (.iload_n 2, 1) := by decide +kernel
theorem d_FM_move_128 : decode c_FM_move 128 = .ok (.putfield 47, 3) := by decide +kernel
theorem d_FM_move_131 : decode c_FM_move 131 = .ok (.goto 29, 3) := by decide +kernel
theorem d_FM_move_134 : decode c_FM_move 134 = .ok (.aload_n 0, 1) := by decide +kernel
theorem d_FM_move_135 : decode c_FM_move 135 = .ok (.aload_n 0, 1) := by decide +kernel
theorem d_FM_move_136 : decode c_FM_move 136 = .ok (.getfield 44, 3) := by decide +kernel
theorem d_FM_move_139 : decode c_FM_move 139 = .ok (.putfield 47, 3) := by decide +kernel
theorem d_FM_move_142 : decode c_FM_move 142 = .ok (.goto 18, 3) := by decide +kernel
theorem d_FM_move_145 : decode c_FM_move 145 = .ok (.aload_n 0, 1) := by decide +kernel
theorem d_FM_move_146 : decode c_FM_move 146 = .ok (.aload_n 0, 1) := by decide +kernel
theorem d_FM_move_147 : decode c_FM_move 147 = .ok (.aload_n 0, 1) := by decide +kernel
theorem d_FM_move_148 : decode c_FM_move 148 = .ok (.getfield 47, 3) := by decide +kernel
theorem d_FM_move_151 : decode c_FM_move 151 = .ok (.invokevirtual 41, 3) := by decide +kernel
theorem d_FM_move_154 : decode c_FM_move 154 = .ok (.putfield 44, 3) := by decide +kernel
theorem d_FM_move_157 : decode c_FM_move 157 = .ok (.goto 3, 3) := by decide +kernel
theorem d_FM_move_160 : decode c_FM_move 160 = .ok (.return_, 1) := by decide +kernel
theorem d_FM_reckon_0 : decode c_FM_reckon 0 = .ok (.iload_n 1, 1) := by decide +kernel
theorem d_FM_reckon_1 : decode c_FM_reckon 1 = .ok (.tableswitch 280 10 21 #[63, 84, 105, 122, 143, 167, 183, 203, 220, 237, 250, 265], 63) := by decide +kernel
theorem d_FM_reckon_64 : decode c_FM_reckon 64 = .ok (.aload_n 0, 1) := by decide +kernel
theorem d_FM_reckon_65 : decode c_FM_reckon 65 = .ok (.aload_n 0, 1) := by decide +kernel
theorem d_FM_reckon_66 : decode c_FM_reckon 66 = .ok (.aload_n 0, 1) := by decide +kernel
theorem d_FM_reckon_67 : decode c_FM_reckon 67 = .ok (.getfield 47, 3) := by decide +kernel
theorem d_FM_reckon_70 : decode c_FM_reckon 70 = .ok (.iconst 1, 1) := by decide +kernel
theorem d_FM_reckon_71 : decode c_FM_reckon 71 = .ok (.iadd, 1) := by decide +kernel
theorem d_FM_reckon_72 : decode c_FM_reckon 72 = .ok (.sipush 255, 3) := by decide +kernel
theorem d_FM_reckon_75 : decode c_FM_reckon 75 = .ok (.iand, 1) := by decide +kernel
theorem d_FM_reckon_76 : decode c_FM_reckon 76 = .ok (.invokevirtual 41, 3) := by decide +kernel
theorem d_FM_reckon_79 : decode c_FM_reckon 79 = .ok (.putfield 47, 3) := by decide +kernel
theorem d_FM_reckon_82 : decode c_FM_reckon 82 = .ok (.goto 199, 3) := by decide +kernel
theorem d_FM_reckon_85 : decode c_FM_reckon 85 = .ok (.aload_n 0, 1) := by decide +kernel
theorem d_FM_reckon_86 : decode c_FM_reckon 86 = .ok (.aload_n 0, 1) := by decide +kernel
theorem d_FM_reckon_87 : decode c_FM_reckon 87 = .ok (.aload_n 0, 1) := by decide +kernel
theorem d_FM_reckon_88 : decode c_FM_reckon 88 = .ok (.getfield 47, 3) := by decide +kernel
theorem d_FM_reckon_91 : decode c_FM_reckon 91 = .ok (.iconst 1, 1) := by decide +kernel
theorem d_FM_reckon_92 : decode c_FM_reckon 92 = .ok (.isub, 1) := by decide +kernel
theorem d_FM_reckon_93 : decode c_FM_reckon 93 = .ok (.sipush 255, 3) := by decide +kernel
theorem d_FM_reckon_96 : decode c_FM_reckon 96 = .ok (.iand, 1) := by decide +kernel
theorem d_FM_reckon_97 : decode c_FM_reckon 97 = .ok (.invokevirtual 41, 3) := by decide +kernel
theorem d_FM_reckon_100 : decode c_FM_reckon 100 = .ok (.putfield 47, 3) := by decide +kernel
theorem d_FM_reckon_103 : decode c_FM_reckon 103 = .ok (.goto 178, 3) := by decide +kernel
theorem d_FM_reckon_106 : decode c_FM_reckon 106 = .ok (.aload_n 0, 1) := by decide +kernel
theorem d_FM_reckon_107 : decode c_FM_reckon 107 = .ok (.aload_n 0, 1) := by decide +kernel
theorem d_FM_reckon_108 : decode c_FM_reckon 108 = .ok (.aload_n 0, 1) := by decide +kernel
theorem d_FM_reckon_109 : decode c_FM_reckon 109 = .ok (.getfield 44, 3) := by decide +kernel
theorem d_FM_reckon_112 : decode c_FM_reckon 112 = .ok (.iload_n 2, 1) := by decide +kernel
theorem d_FM_reckon_113 : decode c_FM_reckon 113 = .ok (.iconst 0, 1) := by decide +kernel
theorem d_FM_reckon_114 : decode c_FM_reckon 114 = .ok (.invokevirtual 53, 3) := by decide +kernel
theorem d_FM_reckon_117 : decode c_FM_reckon 117 = .ok (.putfield 44, 3) := by decide +kernel
theorem d_FM_reckon_120 : decode c_FM_reckon 120 = .ok (.goto 161, 3) := by decide +kernel
theorem d_FM_reckon_123 : decode c_FM_reckon 123 = .ok (.aload_n 0, 1) := by decide +kernel
theorem d_FM_reckon_124 : decode c_FM_reckon 124 = .ok (.aload_n 0, 1) := by decide +kernel
theorem d_FM_reckon_125 : decode c_FM_reckon 125 = .ok (.aload_n 0, 1) := by decide +kernel
theorem d_FM_reckon_126 : decode c_FM_reckon 126 = .ok (.getfield 44, 3) := by decide +kernel
theorem d_FM_reckon_129 : decode c_FM_reckon 129 = .ok (.aload_n 0, 1) := by decide +kernel
theorem d_FM_reckon_130 : decode c_FM_reckon 130 = .ok (.iload_n 2, 1) := by decide +kernel
theorem d_FM_reckon_131 : decode c_FM_reckon 131 = .ok (.invokevirtual 15, 3) := by decide +kernel
theorem d_FM_reckon_134 : decode c_FM_reckon 134 = .ok (.iconst 0, 1) := by decide +kernel
theorem d_FM_reckon_135 : decode c_FM_reckon 135 = .ok (.invokevirtual 53, 3) := by decide +kernel
theorem d_FM_reckon_138 : decode c_FM_reckon 138 = .ok (.putfield 44, 3) := by decide +kernel
theorem d_FM_reckon_141 : decode c_FM_reckon 141 = .ok (.goto 140, 3) := by decide +kernel
theorem d_FM_reckon_144 : decode c_FM_reckon 144 = .ok (.aload_n 0, 1) := by decide +kernel
theorem d_FM_reckon_145 : decode c_FM_reckon 145 = .ok (.aload_n 0, 1) := by decide +kernel
theorem d_FM_reckon_146 : decode c_FM_reckon 146 = .ok (.aload_n 0, 1) := by decide +kernel
theorem d_FM_reckon_147 : decode c_FM_reckon 147 = .ok (.getfield 44, 3) := by decide +kernel
theorem d_FM_reckon_150 : decode c_FM_reckon 150 = .ok (.aload_n 0, 1) := by decide +kernel
theorem d_FM_reckon_151 : decode c_FM_reckon 151 = .ok (.iload_n 2, 1) := by decide +kernel
theorem d_FM_reckon_152 : decode c_FM_reckon 152 = .ok (.invokevirtual 15, 3) := by decide +kernel
theorem d_FM_reckon_155 : decode c_FM_reckon 155 = .ok (.aload_n 0, 1) := by decide +kernel
theorem d_FM_reckon_156 : decode c_FM_reckon 156 = .ok (.getfield 57, 3) := by decide +kernel
theorem d_FM_reckon_159 : decode c_FM_reckon 159 = .ok (.invokevirtual 53, 3) := by decide +kernel
theorem d_FM_reckon_162 : decode c_FM_reckon 162 = .ok (.putfield 44, 3) := by decide +kernel
theorem d_FM_reckon_165 : decode c_FM_reckon 165 = .ok (.goto 116, 3) := by decide +kernel
theorem d_FM_reckon_168 : decode c_FM_reckon 168 = .ok (.aload_n 0, 1) := by decide +kernel
theorem d_FM_reckon_169 : decode c_FM_reckon 169 = .ok (.aload_n 0, 1) := by decide +kernel
theorem d_FM_reckon_170 : decode c_FM_reckon 170 = .ok (.aload_n 0, 1) := by decide +kernel
theorem d_FM_reckon_171 : decode c_FM_reckon 171 = .ok (.getfield 44, 3) := by decide +kernel
theorem d_FM_reckon_174 : decode c_FM_reckon 174 = .ok (.iload_n 2, 1) := by decide +kernel
theorem d_FM_reckon_175 : decode c_FM_reckon 175 = .ok (.invokevirtual 61, 3) := by decide +kernel
theorem d_FM_reckon_178 : decode c_FM_reckon 178 = .ok (.putfield 44, 3) := by decide +kernel
theorem d_FM_reckon_181 : decode c_FM_reckon 181 = .ok (.goto 100, 3) := by decide +kernel
theorem d_FM_reckon_184 : decode c_FM_reckon 184 = .ok (.aload_n 0, 1) := by decide +kernel
theorem d_FM_reckon_185 : decode c_FM_reckon 185 = .ok (.aload_n 0, 1) := by decide +kernel
theorem d_FM_reckon_186 : decode c_FM_reckon 186 = .ok (.aload_n 0, 1) := by decide +kernel
theorem d_FM_reckon_187 : decode c_FM_reckon 187 = .ok (.getfield 44, 3) := by decide +kernel
theorem d_FM_reckon_190 : decode c_FM_reckon 190 = .ok (.aload_n 0, 1) := by decide +kernel
theorem d_FM_reckon_191 : decode c_FM_reckon 191 = .ok (.iload_n 2, 1) := by decide +kernel
theorem d_FM_reckon_192 : decode c_FM_reckon 192 = .ok (.invokevirtual 15, 3) := by decide +kernel
theorem d_FM_reckon_195 : decode c_FM_reckon 195 = .ok (.invokevirtual 61, 3) := by decide +kernel
theorem d_FM_reckon_198 : decode c_FM_reckon 198 = .ok (.putfield 44, 3) := by decide +kernel
theorem d_FM_reckon_201 : decode c_FM_reckon 201 = .ok (.goto 80, 3) := by decide +kernel
theorem d_FM_reckon_204 : decode c_FM_reckon 204 = .ok (.aload_n 0, 1) := by decide +kernel
theorem d_FM_reckon_205 : decode c_FM_reckon 205 = .ok (.aload_n 0, 1) := by decide +kernel
theorem d_FM_reckon_206 : decode c_FM_reckon 206 = .ok (.aload_n 0, 1) := by decide +kernel
theorem d_FM_reckon_207 : decode c_FM_reckon 207 = .ok (.getfield 44, 3) := by decide +kernel
theorem d_FM_reckon_210 : decode c_FM_reckon 210 = .ok (.iload_n 2, 1) := by decide +kernel
theorem d_FM_reckon_211 : decode c_FM_reckon 211 = .ok (.iand, 1) := by decide +kernel
theorem d_FM_reckon_212 : decode c_FM_reckon 212 = .ok (.invokevirtual 65, 3) := by decide +kernel
theorem d_FM_reckon_215 : decode c_FM_reckon 215 = .ok (.putfield 44, 3) := by decide +kernel
theorem d_FM_reckon_218 : decode c_FM_reckon 218 = .ok (.goto 63, 3) := by decide +kernel
theorem d_FM_reckon_221 : decode c_FM_reckon 221 = .ok (.aload_n 0, 1) := by decide +kernel
theorem d_FM_reckon_222 : decode c_FM_reckon 222 = .ok (.aload_n 0, 1) := by decide +kernel
theorem d_FM_reckon_223 : decode c_FM_reckon 223 = .ok (.aload_n 0, 1) := by decide +kernel
theorem d_FM_reckon_224 : decode c_FM_reckon 224 = .ok (.getfield 44, 3) := by decide +kernel
theorem d_FM_reckon_227 : decode c_FM_reckon 227 = .ok (.iload_n 2, 1) := by decide +kernel
theorem d_FM_reckon_228 : decode c_FM_reckon 228 = .ok (.ixor, 1) := by decide +kernel
theorem d_FM_reckon_229 : decode c_FM_reckon 229 = .ok (.invokevirtual 65, 3) := by decide +kernel
theorem d_FM_reckon_232 : decode c_FM_reckon 232 = .ok (.putfield 44, 3) := by decide +kernel
theorem d_FM_reckon_235 : decode c_FM_reckon 235 = .ok (.goto 46, 3) := by decide +kernel
theorem d_FM_reckon_238 : decode c_FM_reckon 238 = .ok (.aload_n 0, 1) := by decide +kernel
theorem d_FM_reckon_239 : decode c_FM_reckon 239 = .ok (.aload_n 0, 1) := by decide +kernel
theorem d_FM_reckon_240 : decode c_FM_reckon 240 = .ok (.getfield 44, 3) := by decide +kernel
theorem d_FM_reckon_243 : decode c_FM_reckon 243 = .ok (.iload_n 2, 1) := by decide +kernel
theorem d_FM_reckon_244 : decode c_FM_reckon 244 = .ok (.invokevirtual 61, 3) := by decide +kernel
theorem d_FM_reckon_247 : decode c_FM_reckon 247 = .ok (.pop, 1) := by decide +kernel
theorem d_FM_reckon_248 : decode c_FM_reckon 248 = .ok (.goto 33, 3) := by decide +kernel
theorem d_FM_reckon_251 : decode c_FM_reckon 251 = .ok (.aload_n 0, 1) := by decide +kernel
theorem d_FM_reckon_252 : decode c_FM_reckon 252 = .ok (.aload_n 0, 1) := by decide +kernel
theorem d_FM_reckon_253 : decode c_FM_reckon 253 = .ok (.aload_n 0, 1) := by decide +kernel
theorem d_FM_reckon_254 : decode c_FM_reckon 254 = .ok (.getfield 44, 3) := by decide +kernel
theorem d_FM_reckon_257 : decode c_FM_reckon 257 = .ok (.invokevirtual 68, 3) := by decide +kernel
theorem d_FM_reckon_260 : decode c_FM_reckon 260 = .ok (.putfield 44, 3) := by decide +kernel
theorem d_FM_reckon_263 : decode c_FM_reckon 263 = .ok (.goto 18, 3) := by decide +kernel
theorem d_FM_reckon_266 : decode c_FM_reckon 266 = .ok (.aload_n 0, 1) := by decide +kernel
theorem d_FM_reckon_267 : decode c_FM_reckon 267 = .ok (.aload_n 0, 1) := by decide +kernel
theorem d_FM_reckon_268 : decode c_FM_reckon 268 = .ok (.aload_n 0, 1) := by decide +kernel
theorem d_FM_reckon_269 : decode c_FM_reckon 269 = .ok (.getfield 44, 3) := by decide +kernel
theorem d_FM_reckon_272 : decode c_FM_reckon 272 = .ok (.invokevirtual 71, 3) := by decide +kernel
theorem d_FM_reckon_275 : decode c_FM_reckon 275 = .ok (.putfield 44, 3) := by decide +kernel
theorem d_FM_reckon_278 : decode c_FM_reckon 278 = .ok (.goto 3, 3) := by decide +kernel
theorem d_FM_reckon_281 : decode c_FM_reckon 281 = .ok (.return_, 1) := by decide +kernel
theorem d_FM_transfer_0 : decode c_FM_transfer 0 = .ok (.iload_n 1, 1) := by decide +kernel
theorem d_FM_transfer_1 : decode c_FM_transfer 1 = .ok (.tableswitch 191 22 31 #[55, 63, 75, 95, 107, 127, 143, 154, 165, 180], 55) := by decide +kernel
theorem d_FM_transfer_56 : decode c_FM_transfer 56 = .ok (.aload_n 0, 1) := by decide +kernel
theorem d_FM_transfer_57 : decode c_FM_transfer 57 = .ok (.iload_n 2, 1) := by decide +kernel
theorem d_FM_transfer_58 : decode c_FM_transfer 58 = .ok (.putfield 9, 3) := by decide +kernel
theorem d_FM_transfer_61 : decode c_FM_transfer 61 = .ok (.goto 131, 3) := by decide +kernel
theorem d_FM_transfer_64 : decode c_FM_transfer 64 = .ok (.aload_n 0, 1) := by decide +kernel
theorem d_FM_transfer_65 : decode c_FM_transfer 65 = .ok (.aload_n 0, 1) := by decide +kernel
theorem d_FM_transfer_66 : decode c_FM_transfer 66 = .ok (.getfield 74, 3) := by decide +kernel
theorem d_FM_transfer_69 : decode c_FM_transfer 69 = .ok (.iload_n 2, 1) := by decide +kernel
theorem d_FM_transfer_70 : decode c_FM_transfer 70 = .ok (.invokevirtual 77, 3) := by decide +kernel
theorem d_FM_transfer_73 : decode c_FM_transfer 73 = .ok (.goto 119, 3) := by decide +kernel
theorem d_FM_transfer_76 : decode c_FM_transfer 76 = .ok (.aload_n 0, 1) := by decide +kernel
theorem d_FM_transfer_77 : decode c_FM_transfer 77 = .ok (.aload_n 0, 1) := by decide +kernel
theorem d_FM_transfer_78 : decode c_FM_transfer 78 = .ok (.getfield 74, 3) := by decide +kernel
theorem d_FM_transfer_81 : decode c_FM_transfer 81 = .ok (.ifCond .ne 7, 3) := by decide +kernel
theorem d_FM_transfer_84 : decode c_FM_transfer 84 = .ok (.iconst 1, 1) := by decide +kernel
theorem d_FM_transfer_85 : decode c_FM_transfer 85 = .ok (.goto 4, 3) := by decide +kernel
theorem d_FM_transfer_88 : decode c_FM_transfer 88 = .ok (.iconst 0, 1) := by decide +kernel
theorem d_FM_transfer_89 : decode c_FM_transfer 89 = .ok (.iload_n 2, 1) := by decide +kernel
theorem d_FM_transfer_90 : decode c_FM_transfer 90 = .ok (.invokevirtual 77, 3) := by decide +kernel
theorem d_FM_transfer_93 : decode c_FM_transfer 93 = .ok (.goto 99, 3) := by decide +kernel
theorem d_FM_transfer_96 : decode c_FM_transfer 96 = .ok (.aload_n 0, 1) := by decide +kernel
theorem d_FM_transfer_97 : decode c_FM_transfer 97 = .ok (.aload_n 0, 1) := by decide +kernel
theorem d_FM_transfer_98 : decode c_FM_transfer 98 = .ok (.getfield 57, 3) := by decide +kernel
theorem d_FM_transfer_101 : decode c_FM_transfer 101 = .ok (.iload_n 2, 1) := by decide +kernel
theorem d_FM_transfer_102 : decode c_FM_transfer 102 = .ok (.invokevirtual 77, 3) := by decide +kernel
theorem d_FM_transfer_105 : decode c_FM_transfer 105 = .ok (.goto 87, 3) := by decide +kernel
theorem d_FM_transfer_108 : decode c_FM_transfer 108 = .ok (.aload_n 0, 1) := by decide +kernel
theorem d_FM_transfer_109 : decode c_FM_transfer 109 = .ok (.aload_n 0, 1) := by decide +kernel
theorem d_FM_transfer_110 : decode c_FM_transfer 110 = .ok (.getfield 57, 3) := by decide +kernel
theorem d_FM_transfer_113 : decode c_FM_transfer 113 = .ok (.ifCond .ne 7, 3) := by decide +kernel
theorem d_FM_transfer_116 : decode c_FM_transfer 116 = .ok (.iconst 1, 1) := by decide +kernel
theorem d_FM_transfer_117 : decode c_FM_transfer 117 = .ok (.goto 4, 3) := by decide +kernel
theorem d_FM_transfer_120 : decode c_FM_transfer 120 = .ok (.iconst 0, 1) := by decide +kernel
theorem d_FM_transfer_121 : decode c_FM_transfer 121 = .ok (.iload_n 2, 1) := by decide +kernel
theorem d_FM_transfer_122 : decode c_FM_transfer 122 = .ok (.invokevirtual 77, 3) := by decide +kernel
theorem d_FM_transfer_125 : decode c_FM_transfer 125 = .ok (.goto 67, 3) := by decide +kernel
theorem d_FM_transfer_128 : decode c_FM_transfer 128 = .ok (.aload_n 0, 1) := by decide +kernel
theorem d_FM_transfer_129 : decode c_FM_transfer 129 = .ok (.aload_n 0, 1) := by decide +kernel
theorem d_FM_transfer_130 : decode c_FM_transfer 130 = .ok (.getfield 9, 3) := by decide +kernel
theorem d_FM_transfer_133 : decode c_FM_transfer 133 = .ok (.invokevirtual 81, 3) := by decide +kernel
theorem d_FM_transfer_136 : decode c_FM_transfer 136 = .ok (.aload_n 0, 1) := by decide +kernel
theorem d_FM_transfer_137 : decode c_FM_transfer 137 = .ok (.iload_n 2, 1) := by decide +kernel
theorem d_FM_transfer_138 : decode c_FM_transfer 138 = .ok (.putfield 9, 3) := by decide +kernel
theorem d_FM_transfer_141 : decode c_FM_transfer 141 = .ok (.goto 51, 3) := by decide +kernel
theorem d_FM_transfer_144 : decode c_FM_transfer 144 = .ok (.aload_n 0, 1) := by decide +kernel
theorem d_FM_transfer_145 : decode c_FM_transfer 145 = .ok (.aload_n 0, 1) := by decide +kernel
theorem d_FM_transfer_146 : decode c_FM_transfer 146 = .ok (.invokevirtual 85, 3) := by decide +kernel
theorem d_FM_transfer_149 : decode c_FM_transfer 149 = .ok (.putfield 9, 3) := by decide +kernel
theorem d_FM_transfer_152 : decode c_FM_transfer 152 = .ok (.goto 40, 3) := by decide +kernel
theorem d_FM_transfer_155 : decode c_FM_transfer 155 = .ok (.aload_n 0, 1) := by decide +kernel
theorem d_FM_transfer_156 : decode c_FM_transfer 156 = .ok (.aload_n 0, 1) := by decide +kernel
theorem d_FM_transfer_157 : decode c_FM_transfer 157 = .ok (.getfield 44, 3) := by decide +kernel
theorem d_FM_transfer_160 : decode c_FM_transfer 160 = .ok (.invokevirtual 81, 3) := by decide +kernel
theorem d_FM_transfer_163 : decode c_FM_transfer 163 = .ok (.goto 29, 3) := by decide +kernel
theorem d_FM_transfer_166 : decode c_FM_transfer 166 = .ok (.aload_n 0, 1) := by decide +kernel
theorem d_FM_transfer_167 : decode c_FM_transfer 167 = .ok (.aload_n 0, 1) := by decide +kernel
theorem d_FM_transfer_168 : decode c_FM_transfer 168 = .ok (.aload_n 0, 1) := by decide +kernel
theorem d_FM_transfer_169 : decode c_FM_transfer 169 = .ok (.invokevirtual 85, 3) := by decide +kernel
theorem d_FM_transfer_172 : decode c_FM_transfer 172 = .ok (.invokevirtual 41, 3) := by decide +kernel
theorem d_FM_transfer_175 : decode c_FM_transfer 175 = .ok (.putfield 44, 3) := by decide +kernel
theorem d_FM_transfer_178 : decode c_FM_transfer 178 = .ok (.goto 14, 3) := by decide +kernel
theorem d_FM_transfer_181 : decode c_FM_transfer 181 = .ok (.aload_n 0, 1) := by decide +kernel
theorem d_FM_transfer_182 : decode c_FM_transfer 182 = .ok (.aload_n 0, 1) := by decide +kernel
theorem d_FM_transfer_183 : decode c_FM_transfer 183 = .ok (.getfield 47, 3) := by decide +kernel
theorem d_FM_transfer_186 : decode c_FM_transfer 186 = .ok (.putfield 9, 3) := by decide +kernel
theorem d_FM_transfer_189 : decode c_FM_transfer 189 = .ok (.goto 3, 3) := by decide +kernel
theorem d_FM_transfer_192 : decode c_FM_transfer 192 = .ok (.return_, 1) := by decide +kernel
theorem d_SM_init_0 : decode c_SM_init 0 = .ok (.aload_n 0, 1) := by decide +kernel
theorem d_SM_init_1 : decode c_SM_init 1 = .ok (.invokespecial 3, 3) := by decide +kernel
theorem d_SM_init_4 : decode c_SM_init 4 = .ok (.aload_n 0, 1) := by decide +kernel
theorem d_SM_init_5 : decode c_SM_init 5 = .ok (.new 9, 3) := by decide +kernel
theorem d_SM_init_8 : decode c_SM_init 8 = .ok (.dup, 1) := by decide +kernel
theorem d_SM_init_9 : decode c_SM_init 9 = .ok (.invokespecial 11, 3) := by decide +kernel
theorem d_SM_init_12 : decode c_SM_init 12 = .ok (.putfield 12, 3) := by decide +kernel
theorem d_SM_init_15 : decode c_SM_init 15 = .ok (.return_, 1) := by decide +kernel
theorem d_SM_view_0 : decode c_SM_view 0 = .ok (.iload_n 1, 1) := by decide +kernel
theorem d_SM_view_1 : decode c_SM_view 1 = .ok (.bipush 8, 2) := by decide +kernel
theorem d_SM_view_3 : decode c_SM_view 3 = .ok (.if_icmp .ne 8, 3) := by decide +kernel
theorem d_SM_view_6 : decode c_SM_view 6 = .ok (.aload_n 0, 1) := by decide +kernel
theorem d_SM_view_7 : decode c_SM_view 7 = .ok (.getfield 22, 3) := by decide +kernel
theorem d_SM_view_10 : decode c_SM_view 10 = .ok (.ireturn, 1) := by decide +kernel
theorem d_SM_view_11 : decode c_SM_view 11 = .ok (.iload_n 1, 1) := by decide +kernel
theorem d_SM_view_12 : decode c_SM_view 12 = .ok (.bipush 9, 2) := by decide +kernel
theorem d_SM_view_14 : decode c_SM_view 14 = .ok (.if_icmp .ne 13, 3) := by decide +kernel
theorem d_SM_view_17 : decode c_SM_view 17 = .ok (.aload_n 0, 1) := by decide +kernel
theorem d_SM_view_18 : decode c_SM_view 18 = .ok (.getfield 26, 3) := by decide +kernel
theorem d_SM_view_21 : decode c_SM_view 21 = .ok (.invokestatic 44, 3) := by decide +kernel
theorem d_SM_view_24 : decode c_SM_view 24 = .ok (.goto 8, 3) := by decide +kernel
theorem d_SM_view_27 : decode c_SM_view 27 = .ok (.aload_n 0, 1) := by decide +kernel
theorem d_SM_view_28 : decode c_SM_view 28 = .ok (.iload_n 1, 1) := by decide +kernel
theorem d_SM_view_29 : decode c_SM_view 29 = .ok (.invokespecial 48, 3) := by decide +kernel
theorem d_SM_view_32 : decode c_SM_view 32 = .ok (.ireturn, 1) := by decide +kernel
theorem d_SM_begin_0 : decode c_SM_begin 0 = .ok (.aload_n 0, 1) := by decide +kernel
theorem d_SM_begin_1 : decode c_SM_begin 1 = .ok (.aload_n 1, 1) := by decide +kernel
theorem d_SM_begin_2 : decode c_SM_begin 2 = .ok (.iload_n 2, 1) := by decide +kernel
theorem d_SM_begin_3 : decode c_SM_begin 3 = .ok (.invokespecial 18, 3) := by decide +kernel
theorem d_SM_begin_6 : decode c_SM_begin 6 = .ok (.aload_n 0, 1) := by decide +kernel
theorem d_SM_begin_7 : decode c_SM_begin 7 = .ok (.iconst 0, 1) := by decide +kernel
theorem d_SM_begin_8 : decode c_SM_begin 8 = .ok (.putfield 22, 3) := by decide +kernel
theorem d_SM_begin_11 : decode c_SM_begin 11 = .ok (.aload_n 0, 1) := by decide +kernel
theorem d_SM_begin_12 : decode c_SM_begin 12 = .ok (.iconst 0, 1) := by decide +kernel
theorem d_SM_begin_13 : decode c_SM_begin 13 = .ok (.putfield 26, 3) := by decide +kernel
theorem d_SM_begin_16 : decode c_SM_begin 16 = .ok (.return_, 1) := by decide +kernel
theorem d_SM_step_0 : decode c_SM_step 0 = .ok (.aload_n 0, 1) := by decide +kernel
theorem d_SM_step_1 : decode c_SM_step 1 = .ok (.getfield 12, 3) := by decide +kernel
theorem d_SM_step_4 : decode c_SM_step 4 = .ok (.aload_n 0, 1) := by decide +kernel
theorem d_SM_step_5 : decode c_SM_step 5 = .ok (.getfield 37, 3) := by decide +kernel
theorem d_SM_step_8 : decode c_SM_step 8 = .ok (.iconst 0, 1) := by decide +kernel
theorem d_SM_step_9 : decode c_SM_step 9 = .ok (.invokevirtual 51, 3) := by decide +kernel
theorem d_SM_step_12 : decode c_SM_step 12 = .ok (.istore_n 1, 1) := by decide +kernel
theorem d_SM_step_13 : decode c_SM_step 13 = .ok (.aload_n 0, 1) := by decide +kernel
theorem d_SM_step_14 : decode c_SM_step 14 = .ok (.getfield 12, 3) := by decide +kernel
theorem d_SM_step_17 : decode c_SM_step 17 = .ok (.aload_n 0, 1) := by decide +kernel
theorem d_SM_step_18 : decode c_SM_step 18 = .ok (.getfield 37, 3) := by decide +kernel
theorem d_SM_step_21 : decode c_SM_step 21 = .ok (.iconst 1, 1) := by decide +kernel
theorem d_SM_step_22 : decode c_SM_step 22 = .ok (.invokevirtual 51, 3) := by decide +kernel
theorem d_SM_step_25 : decode c_SM_step 25 = .ok (.istore_n 2, 1) := by decide +kernel
theorem d_SM_step_26 : decode c_SM_step 26 = .ok (.aload_n 0, 1) := by decide +kernel
theorem d_SM_step_27 : decode c_SM_step 27 = .ok (.getfield 12, 3) := by decide +kernel
theorem d_SM_step_30 : decode c_SM_step 30 = .ok (.aload_n 0, 1) := by decide +kernel
theorem d_SM_step_31 : decode c_SM_step 31 = .ok (.getfield 37, 3) := by decide +kernel
theorem d_SM_step_34 : decode c_SM_step 34 = .ok (.iconst 2, 1) := by decide +kernel
theorem d_SM_step_35 : decode c_SM_step 35 = .ok (.invokevirtual 51, 3) := by decide +kernel
theorem d_SM_step_38 : decode c_SM_step 38 = .ok (.istore_n 3, 1) := by decide +kernel
theorem d_SM_step_39 : decode c_SM_step 39 = .ok (.iload_n 1, 1) := by decide +kernel
theorem d_SM_step_40 : decode c_SM_step 40 = .ok (.iconst (-1), 1) := by decide +kernel
theorem d_SM_step_41 : decode c_SM_step 41 = .ok (.if_icmp .ne 9, 3) := by decide +kernel
theorem d_SM_step_44 : decode c_SM_step 44 = .ok (.aload_n 0, 1) := by decide +kernel
theorem d_SM_step_45 : decode c_SM_step 45 = .ok (.iconst 2, 1) := by decide +kernel
theorem d_SM_step_46 : decode c_SM_step 46 = .ok (.putfield 30, 3) := by decide +kernel
theorem d_SM_step_49 : decode c_SM_step 49 = .ok (.return_, 1) := by decide +kernel
theorem d_SM_step_50 : decode c_SM_step 50 = .ok (.iload_n 1, 1) := by decide +kernel
theorem d_SM_step_51 : decode c_SM_step 51 = .ok (.iconst 1, 1) := by decide +kernel
theorem d_SM_step_52 : decode c_SM_step 52 = .ok (.if_icmp .ne 9, 3) := by decide +kernel
theorem d_SM_step_55 : decode c_SM_step 55 = .ok (.aload_n 0, 1) := by decide +kernel
theorem d_SM_step_56 : decode c_SM_step 56 = .ok (.iconst 1, 1) := by decide +kernel
theorem d_SM_step_57 : decode c_SM_step 57 = .ok (.putfield 30, 3) := by decide +kernel
theorem d_SM_step_60 : decode c_SM_step 60 = .ok (.return_, 1) := by decide +kernel
theorem d_SM_step_61 : decode c_SM_step 61 = .ok (.iload_n 1, 1) := by decide +kernel
theorem d_SM_step_62 : decode c_SM_step 62 = .ok (.bipush 26, 2) := by decide +kernel
theorem d_SM_step_64 : decode c_SM_step 64 = .ok (.if_icmp .ne 13, 3) := by decide +kernel
theorem d_SM_step_67 : decode c_SM_step 67 = .ok (.aload_n 0, 1) := by decide +kernel
theorem d_SM_step_68 : decode c_SM_step 68 = .ok (.aload_n 0, 1) := by decide +kernel
theorem d_SM_step_69 : decode c_SM_step 69 = .ok (.iload_n 2, 1) := by decide +kernel
theorem d_SM_step_70 : decode c_SM_step 70 = .ok (.invokevirtual 57, 3) := by decide +kernel
theorem d_SM_step_73 : decode c_SM_step 73 = .ok (.invokevirtual 60, 3) := by decide +kernel
theorem d_SM_step_76 : decode c_SM_step 76 = .ok (.return_, 1) := by decide +kernel
theorem d_SM_step_77 : decode c_SM_step 77 = .ok (.aload_n 0, 1) := by decide +kernel
theorem d_SM_step_78 : decode c_SM_step 78 = .ok (.dup, 1) := by decide +kernel
theorem d_SM_step_79 : decode c_SM_step 79 = .ok (.getfield 37, 3) := by decide +kernel
theorem d_SM_step_82 : decode c_SM_step 82 = .ok (.iconst 1, 1) := by decide +kernel
theorem d_SM_step_83 : decode c_SM_step 83 = .ok (.iadd, 1) := by decide +kernel
theorem d_SM_step_84 : decode c_SM_step 84 = .ok (.putfield 37, 3) := by decide +kernel
theorem d_SM_step_87 : decode c_SM_step 87 = .ok (.iload_n 1, 1) := by decide +kernel
theorem d_SM_step_88 : decode c_SM_step 88 = .ok (.bipush 7, 2) := by decide +kernel
theorem d_SM_step_90 : decode c_SM_step 90 = .ok (.if_icmp .gt 13, 3) := by decide +kernel
theorem d_SM_step_93 : decode c_SM_step 93 = .ok (.aload_n 0, 1) := by decide +kernel
theorem d_SM_step_94 : decode c_SM_step 94 = .ok (.iload_n 1, 1) := by decide +kernel
theorem d_SM_step_95 : decode c_SM_step 95 = .ok (.iload_n 2, 1) := by decide +kernel
theorem d_SM_step_96 : decode c_SM_step 96 = .ok (.iload_n 3, 1) := by decide +kernel
theorem d_SM_step_97 : decode c_SM_step 97 = .ok (.invokevirtual 64, 3) := by decide +kernel
theorem d_SM_step_100 : decode c_SM_step 100 = .ok (.goto 26, 3) := by decide +kernel
theorem d_SM_step_103 : decode c_SM_step 103 = .ok (.iload_n 1, 1) := by decide +kernel
theorem d_SM_step_104 : decode c_SM_step 104 = .ok (.bipush 16, 2) := by decide +kernel
theorem d_SM_step_106 : decode c_SM_step 106 = .ok (.if_icmp .gt 13, 3) := by decide +kernel
theorem d_SM_step_109 : decode c_SM_step 109 = .ok (.aload_n 0, 1) := by decide +kernel
theorem d_SM_step_110 : decode c_SM_step 110 = .ok (.iload_n 1, 1) := by decide +kernel
theorem d_SM_step_111 : decode c_SM_step 111 = .ok (.iload_n 2, 1) := by decide +kernel
theorem d_SM_step_112 : decode c_SM_step 112 = .ok (.iload_n 3, 1) := by decide +kernel
theorem d_SM_step_113 : decode c_SM_step 113 = .ok (.invokevirtual 68, 3) := by decide +kernel
theorem d_SM_step_116 : decode c_SM_step 116 = .ok (.goto 10, 3) := by decide +kernel
theorem d_SM_step_119 : decode c_SM_step 119 = .ok (.aload_n 0, 1) := by decide +kernel
theorem d_SM_step_120 : decode c_SM_step 120 = .ok (.iload_n 1, 1) := by decide +kernel
theorem d_SM_step_121 : decode c_SM_step 121 = .ok (.iload_n 2, 1) := by decide +kernel
theorem d_SM_step_122 : decode c_SM_step 122 = .ok (.iload_n 3, 1) := by decide +kernel
theorem d_SM_step_123 : decode c_SM_step 123 = .ok (.invokevirtual 71, 3) := by decide +kernel
theorem d_SM_step_126 : decode c_SM_step 126 = .ok (.return_, 1) := by decide +kernel
theorem d_SM_register_0 : decode c_SM_register 0 = .ok (.iload_n 1, 1) := by decide +kernel
theorem d_SM_register_1 : decode c_SM_register 1 = .ok (.ifCond .ne 8, 3) := by decide +kernel
theorem d_SM_register_4 : decode c_SM_register 4 = .ok (.aload_n 0, 1) := by decide +kernel
theorem d_SM_register_5 : decode c_SM_register 5 = .ok (.getfield 90, 3) := by decide +kernel
theorem d_SM_register_8 : decode c_SM_register 8 = .ok (.ireturn, 1) := by decide +kernel
theorem d_SM_register_9 : decode c_SM_register 9 = .ok (.iload_n 1, 1) := by decide +kernel
theorem d_SM_register_10 : decode c_SM_register 10 = .ok (.iconst 1, 1) := by decide +kernel
theorem d_SM_register_11 : decode c_SM_register 11 = .ok (.if_icmp .ne 10, 3) := by decide +kernel
theorem d_SM_register_14 : decode c_SM_register 14 = .ok (.aload_n 0, 1) := by decide +kernel
theorem d_SM_register_15 : decode c_SM_register 15 = .ok (.getfield 87, 3) := by decide +kernel
theorem d_SM_register_18 : decode c_SM_register 18 = .ok (.goto 7, 3) := by decide +kernel
theorem d_SM_register_21 : decode c_SM_register 21 = .ok (.aload_n 0, 1) := by decide +kernel
theorem d_SM_register_22 : decode c_SM_register 22 = .ok (.getfield 22, 3) := by decide +kernel
theorem d_SM_register_25 : decode c_SM_register 25 = .ok (.ireturn, 1) := by decide +kernel
theorem d_SM_goMapped_0 : decode c_SM_goMapped 0 = .ok (.aload_n 0, 1) := by decide +kernel
theorem d_SM_goMapped_1 : decode c_SM_goMapped 1 = .ok (.getfield 12, 3) := by decide +kernel
theorem d_SM_goMapped_4 : decode c_SM_goMapped 4 = .ok (.iload_n 1, 1) := by decide +kernel
theorem d_SM_goMapped_5 : decode c_SM_goMapped 5 = .ok (.invokevirtual 74, 3) := by decide +kernel
theorem d_SM_goMapped_8 : decode c_SM_goMapped 8 = .ok (.istore_n 2, 1) := by decide +kernel
theorem d_SM_goMapped_9 : decode c_SM_goMapped 9 = .ok (.iload_n 2, 1) := by decide +kernel
theorem d_SM_goMapped_10 : decode c_SM_goMapped 10 = .ok (.iconst (-1), 1) := by decide +kernel
theorem d_SM_goMapped_11 : decode c_SM_goMapped 11 = .ok (.if_icmp .ne 11, 3) := by decide +kernel
theorem d_SM_goMapped_14 : decode c_SM_goMapped 14 = .ok (.aload_n 0, 1) := by decide +kernel
theorem d_SM_goMapped_15 : decode c_SM_goMapped 15 = .ok (.iconst 2, 1) := by decide +kernel
theorem d_SM_goMapped_16 : decode c_SM_goMapped 16 = .ok (.putfield 30, 3) := by decide +kernel
theorem d_SM_goMapped_19 : decode c_SM_goMapped 19 = .ok (.goto 8, 3) := by decide +kernel
theorem d_SM_goMapped_22 : decode c_SM_goMapped 22 = .ok (.aload_n 0, 1) := by decide +kernel
theorem d_SM_goMapped_23 : decode c_SM_goMapped 23 = .ok (.iload_n 2, 1) := by decide +kernel
theorem d_SM_goMapped_24 : decode c_SM_goMapped 24 = .ok (.putfield 37, 3) := by decide +kernel
theorem d_SM_goMapped_27 : decode c_SM_goMapped 27 = .ok (.return_, 1) := by decide +kernel
theorem d_SM_move_0 : decode c_SM_move 0 = .ok (.iload_n 1, 1) := by decide +kernel
theorem d_SM_move_1 : decode c_SM_move 1 = .ok (.tableswitch 121 2 7 #[39, 48, 61, 74, 87, 104], 39) := by decide +kernel
theorem d_SM_move_40 : decode c_SM_move 40 = .ok (.aload_n 0, 1) := by decide +kernel
theorem d_SM_move_41 : decode c_SM_move 41 = .ok (.iload_n 2, 1) := by decide +kernel
theorem d_SM_move_42 : decode c_SM_move 42 = .ok (.iload_n 3, 1) := by decide +kernel
theorem d_SM_move_43 : decode c_SM_move 43 = .ok (.invokevirtual 77, 3) := by decide +kernel
theorem d_SM_move_46 : decode c_SM_move 46 = .ok (.goto 76, 3) := by decide +kernel
theorem d_SM_move_49 : decode c_SM_move 49 = .ok (.aload_n 0, 1) := by decide +kernel
theorem d_SM_move_50 : decode c_SM_move 50 = .ok (.iload_n 2, 1) := by decide +kernel
theorem d_SM_move_51 : decode c_SM_move 51 = .ok (.aload_n 0, 1) := by decide +kernel
theorem d_SM_move_52 : decode c_SM_move 52 = .ok (.iload_n 3, 1) := by decide +kernel
theorem d_SM_move_53 : decode c_SM_move 53 = .ok (.invokevirtual 57, 3) := by decide +kernel
theorem d_SM_move_56 : decode c_SM_move 56 = .ok (.invokevirtual 77, 3) := by decide +kernel
theorem d_SM_move_59 : decode c_SM_move 59 = .ok (.goto 63, 3) := by decide +kernel
theorem d_SM_move_62 : decode c_SM_move 62 = .ok (.aload_n 0, 1) := by decide +kernel
theorem d_SM_move_63 : decode c_SM_move 63 = .ok (.iload_n 2, 1) := by decide +kernel
theorem d_SM_move_64 : decode c_SM_move 64 = .ok (.aload_n 0, 1) := by decide +kernel
theorem d_SM_move_65 : decode c_SM_move 65 = .ok (.iload_n 3, 1) := by decide +kernel
theorem d_SM_move_66 : decode c_SM_move 66 = .ok (.invokevirtual 81, 3) := by decide +kernel
theorem d_SM_move_69 : decode c_SM_move 69 = .ok (.invokevirtual 77, 3) := by decide +kernel
theorem d_SM_move_72 : decode c_SM_move 72 = .ok (.goto 50, 3) := by decide +kernel
theorem d_SM_move_75 : decode c_SM_move 75 = .ok (.aload_n 0, 1) := by decide +kernel
theorem d_SM_move_76 : decode c_SM_move 76 = .ok (.iload_n 3, 1) := by decide +kernel
theorem d_SM_move_77 : decode c_SM_move 77 = .ok (.aload_n 0, 1) := by decide +kernel
theorem d_SM_move_78 : decode c_SM_move 78 = .ok (.iload_n 2, 1) := by decide +kernel
theorem d_SM_move_79 : decode c_SM_move 79 = .ok (.invokevirtual 57, 3) := by decide +kernel
theorem d_SM_move_82 : decode c_SM_move 82 = .ok (.invokevirtual 84, 3) := by decide +kernel
theorem d_SM_move_85 : decode c_SM_move 85 = .ok (.goto 37, 3) := by decide +kernel
theorem d_SM_move_88 : decode c_SM_move 88 = .ok (.aload_n 0, 1) := by decide +kernel
theorem d_SM_move_89 : decode c_SM_move 89 = .ok (.aload_n 0, 1) := by decide +kernel
theorem d_SM_move_90 : decode c_SM_move 90 = .ok (.iload_n 3, 1) := by decide +kernel
theorem d_SM_move_91 : decode c_SM_move 91 = .ok (.aload_n 0, 1) := by decide +kernel
theorem d_SM_move_92 : decode c_SM_move 92 = .ok (.getfield 87, 3) := by decide +kernel
theorem d_SM_move_95 : decode c_SM_move 95 = .ok (.iadd, 1) := by decide +kernel
theorem d_SM_move_96 : decode c_SM_move 96 = .ok (.invokevirtual 81, 3) := by decide +kernel
theorem d_SM_move_99 : decode c_SM_move 99 = .ok (.putfield 90, 3) := by decide +kernel
theorem d_SM_move_102 : decode c_SM_move 102 = .ok (.goto 20, 3) := by decide +kernel
theorem d_SM_move_105 : decode c_SM_move 105 = .ok (.aload_n 0, 1) := by decide +kernel
theorem d_SM_move_106 : decode c_SM_move 106 = .ok (.iload_n 3, 1) := by decide +kernel
theorem d_SM_move_107 : decode c_SM_move 107 = .ok (.aload_n 0, 1) := by decide +kernel
theorem d_SM_move_108 : decode c_SM_move 108 = .ok (.getfield 87, 3) := by decide +kernel
theorem d_SM_move_111 : decode c_SM_move 111 = .ok (.iadd, 1) := by decide +kernel
theorem d_SM_move_112 : decode c_SM_move 112 = .ok (.aload_n 0, 1) := by decide +kernel
theorem d_SM_move_113 : decode c_SM_move 113 = .ok (.getfield 90, 3) := by decide +kernel
theorem d_SM_move_116 : decode c_SM_move 116 = .ok (.invokevirtual 84, 3) := by decide +kernel
theorem d_SM_move_119 : decode c_SM_move 119 = .ok (.goto 3, 3) := by decide +kernel
theorem d_SM_move_122 : decode c_SM_move 122 = .ok (.return_, 1) := by decide +kernel
theorem d_SM_setRegister_0 : decode c_SM_setRegister 0 = .ok (.iload_n 1, 1) := by decide +kernel
theorem d_SM_setRegister_1 : decode c_SM_setRegister 1 = .ok (.ifCond .ne 11, 3) := by decide +kernel
theorem d_SM_setRegister_4 : decode c_SM_setRegister 4 = .ok (.aload_n 0, 1) := by decide +kernel
theorem d_SM_setRegister_5 : decode c_SM_setRegister 5 = .ok (.iload_n 2, 1) := by decide +kernel
theorem d_SM_setRegister_6 : decode c_SM_setRegister 6 = .ok (.putfield 90, 3) := by decide +kernel
theorem d_SM_setRegister_9 : decode c_SM_setRegister 9 = .ok (.goto 21, 3) := by decide +kernel
theorem d_SM_setRegister_12 : decode c_SM_setRegister 12 = .ok (.iload_n 1, 1) := by decide +kernel
theorem d_SM_setRegister_13 : decode c_SM_setRegister 13 = .ok (.iconst 1, 1) := by decide +kernel
theorem d_SM_setRegister_14 : decode c_SM_setRegister 14 = .ok (.if_icmp .ne 11, 3) := by decide +kernel
theorem d_SM_setRegister_17 : decode c_SM_setRegister 17 = .ok (.aload_n 0, 1) := by decide +kernel
theorem d_SM_setRegister_18 : decode c_SM_setRegister 18 = .ok (.iload_n 2, 1) := by decide +kernel
theorem d_SM_setRegister_19 : decode c_SM_setRegister 19 = .ok (.putfield 87, 3) := by decide +kernel
theorem d_SM_setRegister_22 : decode c_SM_setRegister 22 = .ok (.goto 8, 3) := by decide +kernel
theorem d_SM_setRegister_25 : decode c_SM_setRegister 25 = .ok (.aload_n 0, 1) := by decide +kernel
theorem d_SM_setRegister_26 : decode c_SM_setRegister 26 = .ok (.iload_n 2, 1) := by decide +kernel
theorem d_SM_setRegister_27 : decode c_SM_setRegister 27 = .ok (.putfield 22, 3) := by decide +kernel
theorem d_SM_setRegister_30 : decode c_SM_setRegister 30 = .ok (.return_, 1) := by decide +kernel
theorem d_SM_reckon_0 : decode c_SM_reckon 0 = .ok (.aload_n 0, 1) := by decide +kernel
theorem d_SM_reckon_1 : decode c_SM_reckon 1 = .ok (.iload_n 2, 1) := by decide +kernel
theorem d_SM_reckon_2 : decode c_SM_reckon 2 = .ok (.invokevirtual 57, 3) := by decide +kernel
theorem d_SM_reckon_5 : decode c_SM_reckon 5 = .ok (.istore 4, 2) := by decide +kernel
theorem d_SM_reckon_7 : decode c_SM_reckon 7 = .ok (.aload_n 0, 1) := by decide +kernel
theorem d_SM_reckon_8 : decode c_SM_reckon 8 = .ok (.iload_n 3, 1) := by decide +kernel
theorem d_SM_reckon_9 : decode c_SM_reckon 9 = .ok (.invokevirtual 57, 3) := by decide +kernel
theorem d_SM_reckon_12 : decode c_SM_reckon 12 = .ok (.istore 5, 2) := by decide +kernel
theorem d_SM_reckon_14 : decode c_SM_reckon 14 = .ok (.iload_n 1, 1) := by decide +kernel
theorem d_SM_reckon_15 : decode c_SM_reckon 15 = .ok (.tableswitch 186 8 16 #[49, 59, 76, 96, 112, 129, 146, 158, 172], 49) := by decide +kernel
theorem d_SM_reckon_64 : decode c_SM_reckon 64 = .ok (.aload_n 0, 1) := by decide +kernel
theorem d_SM_reckon_65 : decode c_SM_reckon 65 = .ok (.iload 4, 2) := by decide +kernel
theorem d_SM_reckon_67 : decode c_SM_reckon 67 = .ok (.invokevirtual 93, 3) := by decide +kernel
theorem d_SM_reckon_70 : decode c_SM_reckon 70 = .ok (.pop, 1) := by decide +kernel
theorem d_SM_reckon_71 : decode c_SM_reckon 71 = .ok (.goto 130, 3) := by decide +kernel
theorem d_SM_reckon_74 : decode c_SM_reckon 74 = .ok (.aload_n 0, 1) := by decide +kernel
theorem d_SM_reckon_75 : decode c_SM_reckon 75 = .ok (.iload_n 2, 1) := by decide +kernel
theorem d_SM_reckon_76 : decode c_SM_reckon 76 = .ok (.aload_n 0, 1) := by decide +kernel
theorem d_SM_reckon_77 : decode c_SM_reckon 77 = .ok (.iload 4, 2) := by decide +kernel
theorem d_SM_reckon_79 : decode c_SM_reckon 79 = .ok (.iload 5, 2) := by decide +kernel
theorem d_SM_reckon_81 : decode c_SM_reckon 81 = .ok (.iconst 0, 1) := by decide +kernel
theorem d_SM_reckon_82 : decode c_SM_reckon 82 = .ok (.invokevirtual 96, 3) := by decide +kernel
theorem d_SM_reckon_85 : decode c_SM_reckon 85 = .ok (.invokevirtual 77, 3) := by decide +kernel
theorem d_SM_reckon_88 : decode c_SM_reckon 88 = .ok (.goto 113, 3) := by decide +kernel
theorem d_SM_reckon_91 : decode c_SM_reckon 91 = .ok (.aload_n 0, 1) := by decide +kernel
theorem d_SM_reckon_92 : decode c_SM_reckon 92 = .ok (.iload_n 2, 1) := by decide +kernel
theorem d_SM_reckon_93 : decode c_SM_reckon 93 = .ok (.aload_n 0, 1) := by decide +kernel
theorem d_SM_reckon_94 : decode c_SM_reckon 94 = .ok (.iload 4, 2) := by decide +kernel
theorem d_SM_reckon_96 : decode c_SM_reckon 96 = .ok (.iload 5, 2) := by decide +kernel
theorem d_SM_reckon_98 : decode c_SM_reckon 98 = .ok (.aload_n 0, 1) := by decide +kernel
theorem d_SM_reckon_99 : decode c_SM_reckon 99 = .ok (.getfield 100, 3) := by decide +kernel
theorem d_SM_reckon_102 : decode c_SM_reckon 102 = .ok (.invokevirtual 96, 3) := by decide +kernel
theorem d_SM_reckon_105 : decode c_SM_reckon 105 = .ok (.invokevirtual 77, 3) := by decide +kernel
theorem d_SM_reckon_108 : decode c_SM_reckon 108 = .ok (.goto 93, 3) := by decide +kernel
theorem d_SM_reckon_111 : decode c_SM_reckon 111 = .ok (.aload_n 0, 1) := by decide +kernel
theorem d_SM_reckon_112 : decode c_SM_reckon 112 = .ok (.iload_n 2, 1) := by decide +kernel
theorem d_SM_reckon_113 : decode c_SM_reckon 113 = .ok (.aload_n 0, 1) := by decide +kernel
theorem d_SM_reckon_114 : decode c_SM_reckon 114 = .ok (.iload 4, 2) := by decide +kernel
theorem d_SM_reckon_116 : decode c_SM_reckon 116 = .ok (.iload 5, 2) := by decide +kernel
theorem d_SM_reckon_118 : decode c_SM_reckon 118 = .ok (.invokevirtual 103, 3) := by decide +kernel
theorem d_SM_reckon_121 : decode c_SM_reckon 121 = .ok (.invokevirtual 77, 3) := by decide +kernel
theorem d_SM_reckon_124 : decode c_SM_reckon 124 = .ok (.goto 77, 3) := by decide +kernel
theorem d_SM_reckon_127 : decode c_SM_reckon 127 = .ok (.aload_n 0, 1) := by decide +kernel
theorem d_SM_reckon_128 : decode c_SM_reckon 128 = .ok (.iload_n 2, 1) := by decide +kernel
theorem d_SM_reckon_129 : decode c_SM_reckon 129 = .ok (.aload_n 0, 1) := by decide +kernel
theorem d_SM_reckon_130 : decode c_SM_reckon 130 = .ok (.iload 4, 2) := by decide +kernel
theorem d_SM_reckon_132 : decode c_SM_reckon 132 = .ok (.iload 5, 2) := by decide +kernel
theorem d_SM_reckon_134 : decode c_SM_reckon 134 = .ok (.iand, 1) := by decide +kernel
theorem d_SM_reckon_135 : decode c_SM_reckon 135 = .ok (.invokevirtual 93, 3) := by decide +kernel
theorem d_SM_reckon_138 : decode c_SM_reckon 138 = .ok (.invokevirtual 77, 3) := by decide +kernel
theorem d_SM_reckon_141 : decode c_SM_reckon 141 = .ok (.goto 60, 3) := by decide +kernel
theorem d_SM_reckon_144 : decode c_SM_reckon 144 = .ok (.aload_n 0, 1) := by decide +kernel
theorem d_SM_reckon_145 : decode c_SM_reckon 145 = .ok (.iload_n 2, 1) := by decide +kernel
theorem d_SM_reckon_146 : decode c_SM_reckon 146 = .ok (.aload_n 0, 1) := by decide +kernel
theorem d_SM_reckon_147 : decode c_SM_reckon 147 = .ok (.iload 4, 2) := by decide +kernel
theorem d_SM_reckon_149 : decode c_SM_reckon 149 = .ok (.iload 5, 2) := by decide +kernel
theorem d_SM_reckon_151 : decode c_SM_reckon 151 = .ok (.ixor, 1) := by decide +kernel
theorem d_SM_reckon_152 : decode c_SM_reckon 152 = .ok (.invokevirtual 93, 3) := by decide +kernel
theorem d_SM_reckon_155 : decode c_SM_reckon 155 = .ok (.invokevirtual 77, 3) := by decide +kernel
theorem d_SM_reckon_158 : decode c_SM_reckon 158 = .ok (.goto 43, 3) := by decide +kernel
theorem d_SM_reckon_161 : decode c_SM_reckon 161 = .ok (.aload_n 0, 1) := by decide +kernel
theorem d_SM_reckon_162 : decode c_SM_reckon 162 = .ok (.iload 4, 2) := by decide +kernel
theorem d_SM_reckon_164 : decode c_SM_reckon 164 = .ok (.iload 5, 2) := by decide +kernel
theorem d_SM_reckon_166 : decode c_SM_reckon 166 = .ok (.invokevirtual 103, 3) := by decide +kernel
theorem d_SM_reckon_169 : decode c_SM_reckon 169 = .ok (.pop, 1) := by decide +kernel
theorem d_SM_reckon_170 : decode c_SM_reckon 170 = .ok (.goto 31, 3) := by decide +kernel
theorem d_SM_reckon_173 : decode c_SM_reckon 173 = .ok (.aload_n 0, 1) := by decide +kernel
theorem d_SM_reckon_174 : decode c_SM_reckon 174 = .ok (.iload_n 2, 1) := by decide +kernel
theorem d_SM_reckon_175 : decode c_SM_reckon 175 = .ok (.aload_n 0, 1) := by decide +kernel
theorem d_SM_reckon_176 : decode c_SM_reckon 176 = .ok (.iload 4, 2) := by decide +kernel
theorem d_SM_reckon_178 : decode c_SM_reckon 178 = .ok (.invokevirtual 106, 3) := by decide +kernel
theorem d_SM_reckon_181 : decode c_SM_reckon 181 = .ok (.invokevirtual 77, 3) := by decide +kernel
theorem d_SM_reckon_184 : decode c_SM_reckon 184 = .ok (.goto 17, 3) := by decide +kernel
theorem d_SM_reckon_187 : decode c_SM_reckon 187 = .ok (.aload_n 0, 1) := by decide +kernel
theorem d_SM_reckon_188 : decode c_SM_reckon 188 = .ok (.iload_n 2, 1) := by decide +kernel
theorem d_SM_reckon_189 : decode c_SM_reckon 189 = .ok (.aload_n 0, 1) := by decide +kernel
theorem d_SM_reckon_190 : decode c_SM_reckon 190 = .ok (.iload 4, 2) := by decide +kernel
theorem d_SM_reckon_192 : decode c_SM_reckon 192 = .ok (.invokevirtual 109, 3) := by decide +kernel
theorem d_SM_reckon_195 : decode c_SM_reckon 195 = .ok (.invokevirtual 77, 3) := by decide +kernel
theorem d_SM_reckon_198 : decode c_SM_reckon 198 = .ok (.goto 3, 3) := by decide +kernel
theorem d_SM_reckon_201 : decode c_SM_reckon 201 = .ok (.return_, 1) := by decide +kernel
theorem d_SM_control_0 : decode c_SM_control 0 = .ok (.iload_n 1, 1) := by decide +kernel
theorem d_SM_control_1 : decode c_SM_control 1 = .ok (.tableswitch 169 17 25 #[51, 62, 73, 81, 93, 113, 125, 145, 157], 51) := by decide +kernel
theorem d_SM_control_52 : decode c_SM_control 52 = .ok (.aload_n 0, 1) := by decide +kernel
theorem d_SM_control_53 : decode c_SM_control 53 = .ok (.aload_n 0, 1) := by decide +kernel
theorem d_SM_control_54 : decode c_SM_control 54 = .ok (.getfield 100, 3) := by decide +kernel
theorem d_SM_control_57 : decode c_SM_control 57 = .ok (.putfield 26, 3) := by decide +kernel
theorem d_SM_control_60 : decode c_SM_control 60 = .ok (.goto 110, 3) := by decide +kernel
theorem d_SM_control_63 : decode c_SM_control 63 = .ok (.aload_n 0, 1) := by decide +kernel
theorem d_SM_control_64 : decode c_SM_control 64 = .ok (.aload_n 0, 1) := by decide +kernel
theorem d_SM_control_65 : decode c_SM_control 65 = .ok (.getfield 26, 3) := by decide +kernel
theorem d_SM_control_68 : decode c_SM_control 68 = .ok (.putfield 100, 3) := by decide +kernel
theorem d_SM_control_71 : decode c_SM_control 71 = .ok (.goto 99, 3) := by decide +kernel
theorem d_SM_control_74 : decode c_SM_control 74 = .ok (.aload_n 0, 1) := by decide +kernel
theorem d_SM_control_75 : decode c_SM_control 75 = .ok (.iload_n 3, 1) := by decide +kernel
theorem d_SM_control_76 : decode c_SM_control 76 = .ok (.putfield 37, 3) := by decide +kernel
theorem d_SM_control_79 : decode c_SM_control 79 = .ok (.goto 91, 3) := by decide +kernel
theorem d_SM_control_82 : decode c_SM_control 82 = .ok (.aload_n 0, 1) := by decide +kernel
theorem d_SM_control_83 : decode c_SM_control 83 = .ok (.aload_n 0, 1) := by decide +kernel
theorem d_SM_control_84 : decode c_SM_control 84 = .ok (.getfield 112, 3) := by decide +kernel
theorem d_SM_control_87 : decode c_SM_control 87 = .ok (.iload_n 3, 1) := by decide +kernel
theorem d_SM_control_88 : decode c_SM_control 88 = .ok (.invokevirtual 115, 3) := by decide +kernel
theorem d_SM_control_91 : decode c_SM_control 91 = .ok (.goto 79, 3) := by decide +kernel
theorem d_SM_control_94 : decode c_SM_control 94 = .ok (.aload_n 0, 1) := by decide +kernel
theorem d_SM_control_95 : decode c_SM_control 95 = .ok (.aload_n 0, 1) := by decide +kernel
theorem d_SM_control_96 : decode c_SM_control 96 = .ok (.getfield 112, 3) := by decide +kernel
theorem d_SM_control_99 : decode c_SM_control 99 = .ok (.ifCond .ne 7, 3) := by decide +kernel
theorem d_SM_control_102 : decode c_SM_control 102 = .ok (.iconst 1, 1) := by decide +kernel
theorem d_SM_control_103 : decode c_SM_control 103 = .ok (.goto 4, 3) := by decide +kernel
theorem d_SM_control_106 : decode c_SM_control 106 = .ok (.iconst 0, 1) := by decide +kernel
theorem d_SM_control_107 : decode c_SM_control 107 = .ok (.iload_n 3, 1) := by decide +kernel
theorem d_SM_control_108 : decode c_SM_control 108 = .ok (.invokevirtual 115, 3) := by decide +kernel
theorem d_SM_control_111 : decode c_SM_control 111 = .ok (.goto 59, 3) := by decide +kernel
theorem d_SM_control_114 : decode c_SM_control 114 = .ok (.aload_n 0, 1) := by decide +kernel
theorem d_SM_control_115 : decode c_SM_control 115 = .ok (.aload_n 0, 1) := by decide +kernel
theorem d_SM_control_116 : decode c_SM_control 116 = .ok (.getfield 100, 3) := by decide +kernel
theorem d_SM_control_119 : decode c_SM_control 119 = .ok (.iload_n 3, 1) := by decide +kernel
theorem d_SM_control_120 : decode c_SM_control 120 = .ok (.invokevirtual 115, 3) := by decide +kernel
theorem d_SM_control_123 : decode c_SM_control 123 = .ok (.goto 47, 3) := by decide +kernel
theorem d_SM_control_126 : decode c_SM_control 126 = .ok (.aload_n 0, 1) := by decide +kernel
theorem d_SM_control_127 : decode c_SM_control 127 = .ok (.aload_n 0, 1) := by decide +kernel
theorem d_SM_control_128 : decode c_SM_control 128 = .ok (.getfield 100, 3) := by decide +kernel
theorem d_SM_control_131 : decode c_SM_control 131 = .ok (.ifCond .ne 7, 3) := by decide +kernel
theorem d_SM_control_134 : decode c_SM_control 134 = .ok (.iconst 1, 1) := by decide +kernel
theorem d_SM_control_135 : decode c_SM_control 135 = .ok (.goto 4, 3) := by decide +kernel
theorem d_SM_control_138 : decode c_SM_control 138 = .ok (.iconst 0, 1) := by decide +kernel
theorem d_SM_control_139 : decode c_SM_control 139 = .ok (.iload_n 3, 1) := by decide +kernel
theorem d_SM_control_140 : decode c_SM_control 140 = .ok (.invokevirtual 115, 3) := by decide +kernel
theorem d_SM_control_143 : decode c_SM_control 143 = .ok (.goto 27, 3) := by decide +kernel
theorem d_SM_control_146 : decode c_SM_control 146 = .ok (.aload_n 0, 1) := by decide +kernel
theorem d_SM_control_147 : decode c_SM_control 147 = .ok (.aload_n 0, 1) := by decide +kernel
theorem d_SM_control_148 : decode c_SM_control 148 = .ok (.iload_n 2, 1) := by decide +kernel
theorem d_SM_control_149 : decode c_SM_control 149 = .ok (.invokevirtual 57, 3) := by decide +kernel
theorem d_SM_control_152 : decode c_SM_control 152 = .ok (.invokevirtual 119, 3) := by decide +kernel
theorem d_SM_control_155 : decode c_SM_control 155 = .ok (.goto 15, 3) := by decide +kernel
theorem d_SM_control_158 : decode c_SM_control 158 = .ok (.aload_n 0, 1) := by decide +kernel
theorem d_SM_control_159 : decode c_SM_control 159 = .ok (.iload_n 2, 1) := by decide +kernel
theorem d_SM_control_160 : decode c_SM_control 160 = .ok (.aload_n 0, 1) := by decide +kernel
theorem d_SM_control_161 : decode c_SM_control 161 = .ok (.invokevirtual 122, 3) := by decide +kernel
theorem d_SM_control_164 : decode c_SM_control 164 = .ok (.invokevirtual 77, 3) := by decide +kernel
theorem d_SM_control_167 : decode c_SM_control 167 = .ok (.goto 3, 3) := by decide +kernel
theorem d_SM_control_170 : decode c_SM_control 170 = .ok (.return_, 1) := by decide +kernel
theorem d_SM_runToBeginning_0 : decode c_SM_runToBeginning 0 = .ok (.iconst 0, 1) := by decide +kernel
theorem d_SM_runToBeginning_1 : decode c_SM_runToBeginning 1 = .ok (.istore_n 1, 1) := by decide +kernel
theorem d_SM_runToBeginning_2 : decode c_SM_runToBeginning 2 = .ok (.iconst 0, 1) := by decide +kernel
theorem d_SM_runToBeginning_3 : decode c_SM_runToBeginning 3 = .ok (.istore_n 2, 1) := by decide +kernel
theorem d_SM_runToBeginning_4 : decode c_SM_runToBeginning 4 = .ok (.iload_n 2, 1) := by decide +kernel
theorem d_SM_runToBeginning_5 : decode c_SM_runToBeginning 5 = .ok (.ifCond .ne 41, 3) := by decide +kernel
theorem d_SM_runToBeginning_8 : decode c_SM_runToBeginning 8 = .ok (.aload_n 0, 1) := by decide +kernel
theorem d_SM_runToBeginning_9 : decode c_SM_runToBeginning 9 = .ok (.getfield 30, 3) := by decide +kernel
theorem d_SM_runToBeginning_12 : decode c_SM_runToBeginning 12 = .ok (.ifCond .ne 34, 3) := by decide +kernel
theorem d_SM_runToBeginning_15 : decode c_SM_runToBeginning 15 = .ok (.iload_n 1, 1) := by decide +kernel
theorem d_SM_runToBeginning_16 : decode c_SM_runToBeginning 16 = .ok (.sipush 1024, 3) := by decide +kernel
theorem d_SM_runToBeginning_19 : decode c_SM_runToBeginning 19 = .ok (.if_icmp .ge 27, 3) := by decide +kernel
theorem d_SM_runToBeginning_22 : decode c_SM_runToBeginning 22 = .ok (.aload_n 0, 1) := by decide +kernel
theorem d_SM_runToBeginning_23 : decode c_SM_runToBeginning 23 = .ok (.iconst 1, 1) := by decide +kernel
theorem d_SM_runToBeginning_24 : decode c_SM_runToBeginning 24 = .ok (.invokevirtual 33, 3) := by decide +kernel
theorem d_SM_runToBeginning_27 : decode c_SM_runToBeginning 27 = .ok (.pop, 1) := by decide +kernel
theorem d_SM_runToBeginning_28 : decode c_SM_runToBeginning 28 = .ok (.iinc 1 1, 3) := by decide +kernel
theorem d_SM_runToBeginning_31 : decode c_SM_runToBeginning 31 = .ok (.aload_n 0, 1) := by decide +kernel
theorem d_SM_runToBeginning_32 : decode c_SM_runToBeginning 32 = .ok (.getfield 12, 3) := by decide +kernel
theorem d_SM_runToBeginning_35 : decode c_SM_runToBeginning 35 = .ok (.aload_n 0, 1) := by decide +kernel
theorem d_SM_runToBeginning_36 : decode c_SM_runToBeginning 36 = .ok (.getfield 37, 3) := by decide +kernel
theorem d_SM_runToBeginning_39 : decode c_SM_runToBeginning 39 = .ok (.invokevirtual 40, 3) := by decide +kernel
theorem d_SM_runToBeginning_42 : decode c_SM_runToBeginning 42 = .ok (.istore_n 2, 1) := by decide +kernel
theorem d_SM_runToBeginning_43 : decode c_SM_runToBeginning 43 = .ok (.goto (-39), 3) := by decide +kernel
theorem d_SM_runToBeginning_46 : decode c_SM_runToBeginning 46 = .ok (.iload_n 1, 1) := by decide +kernel
theorem d_SM_runToBeginning_47 : decode c_SM_runToBeginning 47 = .ok (.ireturn, 1) := by decide +kernel
theorem d_PR_init_0 : decode c_PR_init 0 = .ok (.aload_n 0, 1) := by decide +kernel
theorem d_PR_init_1 : decode c_PR_init 1 = .ok (.invokespecial 3, 3) := by decide +kernel
theorem d_PR_init_4 : decode c_PR_init 4 = .ok (.aload_n 0, 1) := by decide +kernel
theorem d_PR_init_5 : decode c_PR_init 5 = .ok (.sipush 1024, 3) := by decide +kernel
theorem d_PR_init_8 : decode c_PR_init 8 = .ok (.newarray .int, 2) := by decide +kernel
theorem d_PR_init_10 : decode c_PR_init 10 = .ok (.putfield 11, 3) := by decide +kernel
theorem d_PR_init_13 : decode c_PR_init 13 = .ok (.aload_n 0, 1) := by decide +kernel
theorem d_PR_init_14 : decode c_PR_init 14 = .ok (.sipush 1024, 3) := by decide +kernel
theorem d_PR_init_17 : decode c_PR_init 17 = .ok (.newarray .int, 2) := by decide +kernel
theorem d_PR_init_19 : decode c_PR_init 19 = .ok (.putfield 15, 3) := by decide +kernel
theorem d_PR_init_22 : decode c_PR_init 22 = .ok (.aload_n 0, 1) := by decide +kernel
theorem d_PR_init_23 : decode c_PR_init 23 = .ok (.sipush 1024, 3) := by decide +kernel
theorem d_PR_init_26 : decode c_PR_init 26 = .ok (.newarray .int, 2) := by decide +kernel
theorem d_PR_init_28 : decode c_PR_init 28 = .ok (.putfield 18, 3) := by decide +kernel
theorem d_PR_init_31 : decode c_PR_init 31 = .ok (.aload_n 0, 1) := by decide +kernel
theorem d_PR_init_32 : decode c_PR_init 32 = .ok (.sipush 1024, 3) := by decide +kernel
theorem d_PR_init_35 : decode c_PR_init 35 = .ok (.newarray .boolean, 2) := by decide +kernel
theorem d_PR_init_37 : decode c_PR_init 37 = .ok (.putfield 21, 3) := by decide +kernel
theorem d_PR_init_40 : decode c_PR_init 40 = .ok (.aload_n 0, 1) := by decide +kernel
theorem d_PR_init_41 : decode c_PR_init 41 = .ok (.sipush 256, 3) := by decide +kernel
theorem d_PR_init_44 : decode c_PR_init 44 = .ok (.newarray .int, 2) := by decide +kernel
theorem d_PR_init_46 : decode c_PR_init 46 = .ok (.putfield 25, 3) := by decide +kernel
theorem d_PR_init_49 : decode c_PR_init 49 = .ok (.iconst 0, 1) := by decide +kernel
theorem d_PR_init_50 : decode c_PR_init 50 = .ok (.istore_n 1, 1) := by decide +kernel
theorem d_PR_init_51 : decode c_PR_init 51 = .ok (.iload_n 1, 1) := by decide +kernel
theorem d_PR_init_52 : decode c_PR_init 52 = .ok (.sipush 256, 3) := by decide +kernel
theorem d_PR_init_55 : decode c_PR_init 55 = .ok (.if_icmp .ge 16, 3) := by decide +kernel
theorem d_PR_init_58 : decode c_PR_init 58 = .ok (.aload_n 0, 1) := by decide +kernel
theorem d_PR_init_59 : decode c_PR_init 59 = .ok (.getfield 25, 3) := by decide +kernel
theorem d_PR_init_62 : decode c_PR_init 62 = .ok (.iload_n 1, 1) := by decide +kernel
theorem d_PR_init_63 : decode c_PR_init 63 = .ok (.iconst (-1), 1) := by decide +kernel
theorem d_PR_init_64 : decode c_PR_init 64 = .ok (.iastore, 1) := by decide +kernel
theorem d_PR_init_65 : decode c_PR_init 65 = .ok (.iinc 1 1, 3) := by decide +kernel
theorem d_PR_init_68 : decode c_PR_init 68 = .ok (.goto (-17), 3) := by decide +kernel
theorem d_PR_init_71 : decode c_PR_init 71 = .ok (.return_, 1) := by decide +kernel
theorem d_PR_beginOf_0 : decode c_PR_beginOf 0 = .ok (.iload_n 1, 1) := by decide +kernel
theorem d_PR_beginOf_1 : decode c_PR_beginOf 1 = .ok (.invokestatic 28, 3) := by decide +kernel
theorem d_PR_beginOf_4 : decode c_PR_beginOf 4 = .ok (.ifCond .eq 12, 3) := by decide +kernel
theorem d_PR_beginOf_7 : decode c_PR_beginOf 7 = .ok (.aload_n 0, 1) := by decide +kernel
theorem d_PR_beginOf_8 : decode c_PR_beginOf 8 = .ok (.getfield 25, 3) := by decide +kernel
theorem d_PR_beginOf_11 : decode c_PR_beginOf 11 = .ok (.iload_n 1, 1) := by decide +kernel
theorem d_PR_beginOf_12 : decode c_PR_beginOf 12 = .ok (.iaload, 1) := by decide +kernel
theorem d_PR_beginOf_13 : decode c_PR_beginOf 13 = .ok (.goto 4, 3) := by decide +kernel
theorem d_PR_beginOf_16 : decode c_PR_beginOf 16 = .ok (.iconst (-1), 1) := by decide +kernel
theorem d_PR_beginOf_17 : decode c_PR_beginOf 17 = .ok (.ireturn, 1) := by decide +kernel
theorem d_PR_part_0 : decode c_PR_part 0 = .ok (.iload_n 1, 1) := by decide +kernel
theorem d_PR_part_1 : decode c_PR_part 1 = .ok (.ifCond .lt 11, 3) := by decide +kernel
theorem d_PR_part_4 : decode c_PR_part 4 = .ok (.iload_n 1, 1) := by decide +kernel
theorem d_PR_part_5 : decode c_PR_part 5 = .ok (.aload_n 0, 1) := by decide +kernel
theorem d_PR_part_6 : decode c_PR_part 6 = .ok (.getfield 32, 3) := by decide +kernel
theorem d_PR_part_9 : decode c_PR_part 9 = .ok (.if_icmp .lt 5, 3) := by decide +kernel
theorem d_PR_part_12 : decode c_PR_part 12 = .ok (.iconst (-1), 1) := by decide +kernel
theorem d_PR_part_13 : decode c_PR_part 13 = .ok (.ireturn, 1) := by decide +kernel
theorem d_PR_part_14 : decode c_PR_part 14 = .ok (.iload_n 2, 1) := by decide +kernel
theorem d_PR_part_15 : decode c_PR_part 15 = .ok (.tableswitch 46 0 2 #[25, 32, 39], 25) := by decide +kernel
theorem d_PR_part_40 : decode c_PR_part 40 = .ok (.aload_n 0, 1) := by decide +kernel
theorem d_PR_part_41 : decode c_PR_part 41 = .ok (.getfield 11, 3) := by decide +kernel
theorem d_PR_part_44 : decode c_PR_part 44 = .ok (.iload_n 1, 1) := by decide +kernel
theorem d_PR_part_45 : decode c_PR_part 45 = .ok (.iaload, 1) := by decide +kernel
theorem d_PR_part_46 : decode c_PR_part 46 = .ok (.ireturn, 1) := by decide +kernel
theorem d_PR_part_47 : decode c_PR_part 47 = .ok (.aload_n 0, 1) := by decide +kernel
theorem d_PR_part_48 : decode c_PR_part 48 = .ok (.getfield 15, 3) := by decide +kernel
theorem d_PR_part_51 : decode c_PR_part 51 = .ok (.iload_n 1, 1) := by decide +kernel
theorem d_PR_part_52 : decode c_PR_part 52 = .ok (.iaload, 1) := by decide +kernel
theorem d_PR_part_53 : decode c_PR_part 53 = .ok (.ireturn, 1) := by decide +kernel
theorem d_PR_part_54 : decode c_PR_part 54 = .ok (.aload_n 0, 1) := by decide +kernel
theorem d_PR_part_55 : decode c_PR_part 55 = .ok (.getfield 18, 3) := by decide +kernel
theorem d_PR_part_58 : decode c_PR_part 58 = .ok (.iload_n 1, 1) := by decide +kernel
theorem d_PR_part_59 : decode c_PR_part 59 = .ok (.iaload, 1) := by decide +kernel
theorem d_PR_part_60 : decode c_PR_part 60 = .ok (.ireturn, 1) := by decide +kernel
theorem d_PR_part_61 : decode c_PR_part 61 = .ok (.iconst (-1), 1) := by decide +kernel
theorem d_PR_part_62 : decode c_PR_part 62 = .ok (.ireturn, 1) := by decide +kernel
theorem d_PR_build_0 : decode c_PR_build 0 = .ok (.aload_n 0, 1) := by decide +kernel
theorem d_PR_build_1 : decode c_PR_build 1 = .ok (.iconst 0, 1) := by decide +kernel
theorem d_PR_build_2 : decode c_PR_build 2 = .ok (.putfield 32, 3) := by decide +kernel
theorem d_PR_build_5 : decode c_PR_build 5 = .ok (.iconst 0, 1) := by decide +kernel
theorem d_PR_build_6 : decode c_PR_build 6 = .ok (.istore_n 3, 1) := by decide +kernel
theorem d_PR_build_7 : decode c_PR_build 7 = .ok (.iload_n 3, 1) := by decide +kernel
theorem d_PR_build_8 : decode c_PR_build 8 = .ok (.sipush 1024, 3) := by decide +kernel
theorem d_PR_build_11 : decode c_PR_build 11 = .ok (.if_icmp .ge 16, 3) := by decide +kernel
theorem d_PR_build_14 : decode c_PR_build 14 = .ok (.aload_n 0, 1) := by decide +kernel
theorem d_PR_build_15 : decode c_PR_build 15 = .ok (.getfield 21, 3) := by decide +kernel
theorem d_PR_build_18 : decode c_PR_build 18 = .ok (.iload_n 3, 1) := by decide +kernel
theorem d_PR_build_19 : decode c_PR_build 19 = .ok (.iconst 0, 1) := by decide +kernel
theorem d_PR_build_20 : decode c_PR_build 20 = .ok (.bastore, 1) := by decide +kernel
theorem d_PR_build_21 : decode c_PR_build 21 = .ok (.iinc 3 1, 3) := by decide +kernel
theorem d_PR_build_24 : decode c_PR_build 24 = .ok (.goto (-17), 3) := by decide +kernel
theorem d_PR_build_27 : decode c_PR_build 27 = .ok (.iconst 0, 1) := by decide +kernel
theorem d_PR_build_28 : decode c_PR_build 28 = .ok (.istore_n 3, 1) := by decide +kernel
theorem d_PR_build_29 : decode c_PR_build 29 = .ok (.iload_n 3, 1) := by decide +kernel
theorem d_PR_build_30 : decode c_PR_build 30 = .ok (.sipush 256, 3) := by decide +kernel
theorem d_PR_build_33 : decode c_PR_build 33 = .ok (.if_icmp .ge 77, 3) := by decide +kernel
theorem d_PR_build_36 : decode c_PR_build 36 = .ok (.aload_n 0, 1) := by decide +kernel
theorem d_PR_build_37 : decode c_PR_build 37 = .ok (.getfield 25, 3) := by decide +kernel
theorem d_PR_build_40 : decode c_PR_build 40 = .ok (.iload_n 3, 1) := by decide +kernel
theorem d_PR_build_41 : decode c_PR_build 41 = .ok (.iconst (-1), 1) := by decide +kernel
theorem d_PR_build_42 : decode c_PR_build 42 = .ok (.iastore, 1) := by decide +kernel
theorem d_PR_build_43 : decode c_PR_build 43 = .ok (.aload_n 1, 1) := by decide +kernel
theorem d_PR_build_44 : decode c_PR_build 44 = .ok (.iload_n 3, 1) := by decide +kernel
theorem d_PR_build_45 : decode c_PR_build 45 = .ok (.invokevirtual 36, 3) := by decide +kernel
theorem d_PR_build_48 : decode c_PR_build 48 = .ok (.ifCond .eq 56, 3) := by decide +kernel
theorem d_PR_build_51 : decode c_PR_build 51 = .ok (.aload_n 0, 1) := by decide +kernel
theorem d_PR_build_52 : decode c_PR_build 52 = .ok (.getfield 32, 3) := by decide +kernel
theorem d_PR_build_55 : decode c_PR_build 55 = .ok (.sipush 1024, 3) := by decide +kernel
theorem d_PR_build_58 : decode c_PR_build 58 = .ok (.if_icmp .ge 46, 3) := by decide +kernel
theorem d_PR_build_61 : decode c_PR_build 61 = .ok (.aload_n 0, 1) := by decide +kernel
theorem d_PR_build_62 : decode c_PR_build 62 = .ok (.getfield 25, 3) := by decide +kernel
theorem d_PR_build_65 : decode c_PR_build 65 = .ok (.iload_n 3, 1) := by decide +kernel
theorem d_PR_build_66 : decode c_PR_build 66 = .ok (.aload_n 0, 1) := by decide +kernel
theorem d_PR_build_67 : decode c_PR_build 67 = .ok (.getfield 32, 3) := by decide +kernel
theorem d_PR_build_70 : decode c_PR_build 70 = .ok (.iastore, 1) := by decide +kernel
theorem d_PR_build_71 : decode c_PR_build 71 = .ok (.aload_n 0, 1) := by decide +kernel
theorem d_PR_build_72 : decode c_PR_build 72 = .ok (.getfield 21, 3) := by decide +kernel
theorem d_PR_build_75 : decode c_PR_build 75 = .ok (.aload_n 0, 1) := by decide +kernel
theorem d_PR_build_76 : decode c_PR_build 76 = .ok (.getfield 32, 3) := by decide +kernel
theorem d_PR_build_79 : decode c_PR_build 79 = .ok (.iconst 1, 1) := by decide +kernel
theorem d_PR_build_80 : decode c_PR_build 80 = .ok (.bastore, 1) := by decide +kernel
theorem d_PR_build_81 : decode c_PR_build 81 = .ok (.aload_n 0, 1) := by decide +kernel
theorem d_PR_build_82 : decode c_PR_build 82 = .ok (.aload_n 2, 1) := by decide +kernel
theorem d_PR_build_83 : decode c_PR_build 83 = .ok (.iload_n 3, 1) := by decide +kernel
theorem d_PR_build_84 : decode c_PR_build 84 = .ok (.iaload, 1) := by decide +kernel
theorem d_PR_build_85 : decode c_PR_build 85 = .ok (.aload_n 2, 1) := by decide +kernel
theorem d_PR_build_86 : decode c_PR_build 86 = .ok (.iload_n 3, 1) := by decide +kernel
theorem d_PR_build_87 : decode c_PR_build 87 = .ok (.iconst 1, 1) := by decide +kernel
theorem d_PR_build_88 : decode c_PR_build 88 = .ok (.iadd, 1) := by decide +kernel
theorem d_PR_build_89 : decode c_PR_build 89 = .ok (.sipush 255, 3) := by decide +kernel
theorem d_PR_build_92 : decode c_PR_build 92 = .ok (.iand, 1) := by decide +kernel
theorem d_PR_build_93 : decode c_PR_build 93 = .ok (.iaload, 1) := by decide +kernel
theorem d_PR_build_94 : decode c_PR_build 94 = .ok (.iload_n 3, 1) := by decide +kernel
theorem d_PR_build_95 : decode c_PR_build 95 = .ok (.iconst 2, 1) := by decide +kernel
theorem d_PR_build_96 : decode c_PR_build 96 = .ok (.iadd, 1) := by decide +kernel
theorem d_PR_build_97 : decode c_PR_build 97 = .ok (.sipush 255, 3) := by decide +kernel
theorem d_PR_build_100 : decode c_PR_build 100 = .ok (.iand, 1) := by decide +kernel
theorem d_PR_build_101 : decode c_PR_build 101 = .ok (.invokevirtual 41, 3) := by decide +kernel
theorem d_PR_build_104 : decode c_PR_build 104 = .ok (.iinc 3 1, 3) := by decide +kernel
theorem d_PR_build_107 : decode c_PR_build 107 = .ok (.goto (-78), 3) := by decide +kernel
theorem d_PR_build_110 : decode c_PR_build 110 = .ok (.aload_n 0, 1) := by decide +kernel
theorem d_PR_build_111 : decode c_PR_build 111 = .ok (.invokevirtual 45, 3) := by decide +kernel
theorem d_PR_build_114 : decode c_PR_build 114 = .ok (.return_, 1) := by decide +kernel
theorem d_PR_addRow_0 : decode c_PR_addRow 0 = .ok (.iload_n 1, 1) := by decide +kernel
theorem d_PR_addRow_1 : decode c_PR_addRow 1 = .ok (.bipush 9, 2) := by decide +kernel
theorem d_PR_addRow_3 : decode c_PR_addRow 3 = .ok (.if_icmp .gt 12, 3) := by decide +kernel
theorem d_PR_addRow_6 : decode c_PR_addRow 6 = .ok (.aload_n 0, 1) := by decide +kernel
theorem d_PR_addRow_7 : decode c_PR_addRow 7 = .ok (.iload_n 1, 1) := by decide +kernel
theorem d_PR_addRow_8 : decode c_PR_addRow 8 = .ok (.iload_n 2, 1) := by decide +kernel
theorem d_PR_addRow_9 : decode c_PR_addRow 9 = .ok (.invokevirtual 55, 3) := by decide +kernel
theorem d_PR_addRow_12 : decode c_PR_addRow 12 = .ok (.goto 25, 3) := by decide +kernel
theorem d_PR_addRow_15 : decode c_PR_addRow 15 = .ok (.iload_n 1, 1) := by decide +kernel
theorem d_PR_addRow_16 : decode c_PR_addRow 16 = .ok (.bipush 21, 2) := by decide +kernel
theorem d_PR_addRow_18 : decode c_PR_addRow 18 = .ok (.if_icmp .gt 12, 3) := by decide +kernel
theorem d_PR_addRow_21 : decode c_PR_addRow 21 = .ok (.aload_n 0, 1) := by decide +kernel
theorem d_PR_addRow_22 : decode c_PR_addRow 22 = .ok (.iload_n 1, 1) := by decide +kernel
theorem d_PR_addRow_23 : decode c_PR_addRow 23 = .ok (.iload_n 2, 1) := by decide +kernel
theorem d_PR_addRow_24 : decode c_PR_addRow 24 = .ok (.invokevirtual 59, 3) := by decide +kernel
theorem d_PR_addRow_27 : decode c_PR_addRow 27 = .ok (.goto 10, 3) := by decide +kernel
theorem d_PR_addRow_30 : decode c_PR_addRow 30 = .ok (.aload_n 0, 1) := by decide +kernel
theorem d_PR_addRow_31 : decode c_PR_addRow 31 = .ok (.iload_n 1, 1) := by decide +kernel
theorem d_PR_addRow_32 : decode c_PR_addRow 32 = .ok (.iload_n 2, 1) := by decide +kernel
theorem d_PR_addRow_33 : decode c_PR_addRow 33 = .ok (.iload_n 3, 1) := by decide +kernel
theorem d_PR_addRow_34 : decode c_PR_addRow 34 = .ok (.invokevirtual 62, 3) := by decide +kernel
theorem d_PR_addRow_37 : decode c_PR_addRow 37 = .ok (.return_, 1) := by decide +kernel
theorem d_PR_addMove_0 : decode c_PR_addMove 0 = .ok (.iload_n 1, 1) := by decide +kernel
theorem d_PR_addMove_1 : decode c_PR_addMove 1 = .ok (.tableswitch 139 1 9 #[51, 61, 70, 79, 89, 99, 110, 120, 130], 51) := by decide +kernel
theorem d_PR_addMove_52 : decode c_PR_addMove 52 = .ok (.aload_n 0, 1) := by decide +kernel
theorem d_PR_addMove_53 : decode c_PR_addMove 53 = .ok (.iconst 1, 1) := by decide +kernel
theorem d_PR_addMove_54 : decode c_PR_addMove 54 = .ok (.iconst 0, 1) := by decide +kernel
theorem d_PR_addMove_55 : decode c_PR_addMove 55 = .ok (.iconst 0, 1) := by decide +kernel
theorem d_PR_addMove_56 : decode c_PR_addMove 56 = .ok (.invokevirtual 65, 3) := by decide +kernel
theorem d_PR_addMove_59 : decode c_PR_addMove 59 = .ok (.goto 88, 3) := by decide +kernel
theorem d_PR_addMove_62 : decode c_PR_addMove 62 = .ok (.aload_n 0, 1) := by decide +kernel
theorem d_PR_addMove_63 : decode c_PR_addMove 63 = .ok (.iconst 2, 1) := by decide +kernel
theorem d_PR_addMove_64 : decode c_PR_addMove 64 = .ok (.iload_n 2, 1) := by decide +kernel
theorem d_PR_addMove_65 : decode c_PR_addMove 65 = .ok (.invokevirtual 68, 3) := by decide +kernel
theorem d_PR_addMove_68 : decode c_PR_addMove 68 = .ok (.goto 79, 3) := by decide +kernel
theorem d_PR_addMove_71 : decode c_PR_addMove 71 = .ok (.aload_n 0, 1) := by decide +kernel
theorem d_PR_addMove_72 : decode c_PR_addMove 72 = .ok (.iconst 4, 1) := by decide +kernel
theorem d_PR_addMove_73 : decode c_PR_addMove 73 = .ok (.iload_n 2, 1) := by decide +kernel
theorem d_PR_addMove_74 : decode c_PR_addMove 74 = .ok (.invokevirtual 68, 3) := by decide +kernel
theorem d_PR_addMove_77 : decode c_PR_addMove 77 = .ok (.goto 70, 3) := by decide +kernel
theorem d_PR_addMove_80 : decode c_PR_addMove 80 = .ok (.aload_n 0, 1) := by decide +kernel
theorem d_PR_addMove_81 : decode c_PR_addMove 81 = .ok (.bipush 6, 2) := by decide +kernel
theorem d_PR_addMove_83 : decode c_PR_addMove 83 = .ok (.iload_n 2, 1) := by decide +kernel
theorem d_PR_addMove_84 : decode c_PR_addMove 84 = .ok (.invokevirtual 68, 3) := by decide +kernel
theorem d_PR_addMove_87 : decode c_PR_addMove 87 = .ok (.goto 60, 3) := by decide +kernel
theorem d_PR_addMove_90 : decode c_PR_addMove 90 = .ok (.aload_n 0, 1) := by decide +kernel
theorem d_PR_addMove_91 : decode c_PR_addMove 91 = .ok (.iconst 5, 1) := by decide +kernel
theorem d_PR_addMove_92 : decode c_PR_addMove 92 = .ok (.iconst 0, 1) := by decide +kernel
theorem d_PR_addMove_93 : decode c_PR_addMove 93 = .ok (.iload_n 2, 1) := by decide +kernel
theorem d_PR_addMove_94 : decode c_PR_addMove 94 = .ok (.invokevirtual 65, 3) := by decide +kernel
theorem d_PR_addMove_97 : decode c_PR_addMove 97 = .ok (.goto 50, 3) := by decide +kernel
theorem d_PR_addMove_100 : decode c_PR_addMove 100 = .ok (.aload_n 0, 1) := by decide +kernel
theorem d_PR_addMove_101 : decode c_PR_addMove 101 = .ok (.bipush 7, 2) := by decide +kernel
theorem d_PR_addMove_103 : decode c_PR_addMove 103 = .ok (.iconst 0, 1) := by decide +kernel
theorem d_PR_addMove_104 : decode c_PR_addMove 104 = .ok (.iload_n 2, 1) := by decide +kernel
theorem d_PR_addMove_105 : decode c_PR_addMove 105 = .ok (.invokevirtual 65, 3) := by decide +kernel
theorem d_PR_addMove_108 : decode c_PR_addMove 108 = .ok (.goto 39, 3) := by decide +kernel
theorem d_PR_addMove_111 : decode c_PR_addMove 111 = .ok (.aload_n 0, 1) := by decide +kernel
theorem d_PR_addMove_112 : decode c_PR_addMove 112 = .ok (.iconst 2, 1) := by decide +kernel
theorem d_PR_addMove_113 : decode c_PR_addMove 113 = .ok (.iconst 1, 1) := by decide +kernel
theorem d_PR_addMove_114 : decode c_PR_addMove 114 = .ok (.iload_n 2, 1) := by decide +kernel
theorem d_PR_addMove_115 : decode c_PR_addMove 115 = .ok (.invokevirtual 65, 3) := by decide +kernel
theorem d_PR_addMove_118 : decode c_PR_addMove 118 = .ok (.goto 29, 3) := by decide +kernel
theorem d_PR_addMove_121 : decode c_PR_addMove 121 = .ok (.aload_n 0, 1) := by decide +kernel
theorem d_PR_addMove_122 : decode c_PR_addMove 122 = .ok (.iconst 3, 1) := by decide +kernel
theorem d_PR_addMove_123 : decode c_PR_addMove 123 = .ok (.iconst 1, 1) := by decide +kernel
theorem d_PR_addMove_124 : decode c_PR_addMove 124 = .ok (.iconst 0, 1) := by decide +kernel
theorem d_PR_addMove_125 : decode c_PR_addMove 125 = .ok (.invokevirtual 65, 3) := by decide +kernel
theorem d_PR_addMove_128 : decode c_PR_addMove 128 = .ok (.goto 19, 3) := by decide +kernel
theorem d_PR_addMove_131 : decode c_PR_addMove 131 = .ok (.aload_n 0, 1) := by decide +kernel
theorem d_PR_addMove_132 : decode c_PR_addMove 132 = .ok (.iconst 3, 1) := by decide +kernel
theorem d_PR_addMove_133 : decode c_PR_addMove 133 = .ok (.iconst 1, 1) := by decide +kernel
theorem d_PR_addMove_134 : decode c_PR_addMove 134 = .ok (.invokevirtual 68, 3) := by decide +kernel
theorem d_PR_addMove_137 : decode c_PR_addMove 137 = .ok (.goto 10, 3) := by decide +kernel
theorem d_PR_addMove_140 : decode c_PR_addMove 140 = .ok (.aload_n 0, 1) := by decide +kernel
theorem d_PR_addMove_141 : decode c_PR_addMove 141 = .ok (.iconst 0, 1) := by decide +kernel
theorem d_PR_addMove_142 : decode c_PR_addMove 142 = .ok (.iconst 0, 1) := by decide +kernel
theorem d_PR_addMove_143 : decode c_PR_addMove 143 = .ok (.iconst 0, 1) := by decide +kernel
theorem d_PR_addMove_144 : decode c_PR_addMove 144 = .ok (.invokevirtual 65, 3) := by decide +kernel
theorem d_PR_addMove_147 : decode c_PR_addMove 147 = .ok (.return_, 1) := by decide +kernel
theorem d_PR_add_0 : decode c_PR_add 0 = .ok (.aload_n 0, 1) := by decide +kernel
theorem d_PR_add_1 : decode c_PR_add 1 = .ok (.getfield 32, 3) := by decide +kernel
theorem d_PR_add_4 : decode c_PR_add 4 = .ok (.sipush 1024, 3) := by decide +kernel
theorem d_PR_add_7 : decode c_PR_add 7 = .ok (.if_icmp .ge 43, 3) := by decide +kernel
theorem d_PR_add_10 : decode c_PR_add 10 = .ok (.aload_n 0, 1) := by decide +kernel
theorem d_PR_add_11 : decode c_PR_add 11 = .ok (.getfield 11, 3) := by decide +kernel
theorem d_PR_add_14 : decode c_PR_add 14 = .ok (.aload_n 0, 1) := by decide +kernel
theorem d_PR_add_15 : decode c_PR_add 15 = .ok (.getfield 32, 3) := by decide +kernel
theorem d_PR_add_18 : decode c_PR_add 18 = .ok (.iload_n 1, 1) := by decide +kernel
theorem d_PR_add_19 : decode c_PR_add 19 = .ok (.iastore, 1) := by decide +kernel
theorem d_PR_add_20 : decode c_PR_add 20 = .ok (.aload_n 0, 1) := by decide +kernel
theorem d_PR_add_21 : decode c_PR_add 21 = .ok (.getfield 15, 3) := by decide +kernel
theorem d_PR_add_24 : decode c_PR_add 24 = .ok (.aload_n 0, 1) := by decide +kernel
theorem d_PR_add_25 : decode c_PR_add 25 = .ok (.getfield 32, 3) := by decide +kernel
theorem d_PR_add_28 : decode c_PR_add 28 = .ok (.iload_n 2, 1) := by decide +kernel
theorem d_PR_add_29 : decode c_PR_add 29 = .ok (.iastore, 1) := by decide +kernel
theorem d_PR_add_30 : decode c_PR_add 30 = .ok (.aload_n 0, 1) := by decide +kernel
theorem d_PR_add_31 : decode c_PR_add 31 = .ok (.getfield 18, 3) := by decide +kernel
theorem d_PR_add_34 : decode c_PR_add 34 = .ok (.aload_n 0, 1) := by decide +kernel
theorem d_PR_add_35 : decode c_PR_add 35 = .ok (.getfield 32, 3) := by decide +kernel
theorem d_PR_add_38 : decode c_PR_add 38 = .ok (.iload_n 3, 1) := by decide +kernel
theorem d_PR_add_39 : decode c_PR_add 39 = .ok (.iastore, 1) := by decide +kernel
theorem d_PR_add_40 : decode c_PR_add 40 = .ok (.aload_n 0, 1) := by decide +kernel
theorem d_PR_add_41 : decode c_PR_add 41 = .ok (.dup, 1) := by decide +kernel
theorem d_PR_add_42 : decode c_PR_add 42 = .ok (.getfield 32, 3) := by decide +kernel
theorem d_PR_add_45 : decode c_PR_add 45 = .ok (.iconst 1, 1) := by decide +kernel
theorem d_PR_add_46 : decode c_PR_add 46 = .ok (.iadd, 1) := by decide +kernel
theorem d_PR_add_47 : decode c_PR_add 47 = .ok (.putfield 32, 3) := by decide +kernel
theorem d_PR_add_50 : decode c_PR_add 50 = .ok (.return_, 1) := by decide +kernel
theorem d_PR_addTestedA_0 : decode c_PR_addTestedA 0 = .ok (.aload_n 0, 1) := by decide +kernel
theorem d_PR_addTestedA_1 : decode c_PR_addTestedA 1 = .ok (.bipush 17, 2) := by decide +kernel
theorem d_PR_addTestedA_3 : decode c_PR_addTestedA 3 = .ok (.iconst 0, 1) := by decide +kernel
theorem d_PR_addTestedA_4 : decode c_PR_addTestedA 4 = .ok (.iconst 0, 1) := by decide +kernel
theorem d_PR_addTestedA_5 : decode c_PR_addTestedA 5 = .ok (.invokevirtual 65, 3) := by decide +kernel
theorem d_PR_addTestedA_8 : decode c_PR_addTestedA 8 = .ok (.aload_n 0, 1) := by decide +kernel
theorem d_PR_addTestedA_9 : decode c_PR_addTestedA 9 = .ok (.iload_n 1, 1) := by decide +kernel
theorem d_PR_addTestedA_10 : decode c_PR_addTestedA 10 = .ok (.iconst 0, 1) := by decide +kernel
theorem d_PR_addTestedA_11 : decode c_PR_addTestedA 11 = .ok (.iload_n 2, 1) := by decide +kernel
theorem d_PR_addTestedA_12 : decode c_PR_addTestedA 12 = .ok (.invokevirtual 65, 3) := by decide +kernel
theorem d_PR_addTestedA_15 : decode c_PR_addTestedA 15 = .ok (.aload_n 0, 1) := by decide +kernel
theorem d_PR_addTestedA_16 : decode c_PR_addTestedA 16 = .ok (.bipush 8, 2) := by decide +kernel
theorem d_PR_addTestedA_18 : decode c_PR_addTestedA 18 = .ok (.iconst 0, 1) := by decide +kernel
theorem d_PR_addTestedA_19 : decode c_PR_addTestedA 19 = .ok (.iconst 0, 1) := by decide +kernel
theorem d_PR_addTestedA_20 : decode c_PR_addTestedA 20 = .ok (.invokevirtual 65, 3) := by decide +kernel
theorem d_PR_addTestedA_23 : decode c_PR_addTestedA 23 = .ok (.aload_n 0, 1) := by decide +kernel
theorem d_PR_addTestedA_24 : decode c_PR_addTestedA 24 = .ok (.bipush 18, 2) := by decide +kernel
theorem d_PR_addTestedA_26 : decode c_PR_addTestedA 26 = .ok (.iconst 0, 1) := by decide +kernel
theorem d_PR_addTestedA_27 : decode c_PR_addTestedA 27 = .ok (.iconst 0, 1) := by decide +kernel
theorem d_PR_addTestedA_28 : decode c_PR_addTestedA 28 = .ok (.invokevirtual 65, 3) := by decide +kernel
theorem d_PR_addTestedA_31 : decode c_PR_addTestedA 31 = .ok (.return_, 1) := by decide +kernel
theorem d_PR_addSum_0 : decode c_PR_addSum 0 = .ok (.iload_n 1, 1) := by decide +kernel
theorem d_PR_addSum_1 : decode c_PR_addSum 1 = .ok (.tableswitch 176 10 20 #[59, 68, 77, 88, 99, 110, 121, 132, 143, 154, 165], 59) := by decide +kernel
theorem d_PR_addSum_60 : decode c_PR_addSum 60 = .ok (.aload_n 0, 1) := by decide +kernel
theorem d_PR_addSum_61 : decode c_PR_addSum 61 = .ok (.bipush 9, 2) := by decide +kernel
theorem d_PR_addSum_63 : decode c_PR_addSum 63 = .ok (.invokevirtual 71, 3) := by decide +kernel
theorem d_PR_addSum_66 : decode c_PR_addSum 66 = .ok (.goto 119, 3) := by decide +kernel
theorem d_PR_addSum_69 : decode c_PR_addSum 69 = .ok (.aload_n 0, 1) := by decide +kernel
theorem d_PR_addSum_70 : decode c_PR_addSum 70 = .ok (.bipush 11, 2) := by decide +kernel
theorem d_PR_addSum_72 : decode c_PR_addSum 72 = .ok (.invokevirtual 71, 3) := by decide +kernel
theorem d_PR_addSum_75 : decode c_PR_addSum 75 = .ok (.goto 110, 3) := by decide +kernel
theorem d_PR_addSum_78 : decode c_PR_addSum 78 = .ok (.aload_n 0, 1) := by decide +kernel
theorem d_PR_addSum_79 : decode c_PR_addSum 79 = .ok (.iconst 2, 1) := by decide +kernel
theorem d_PR_addSum_80 : decode c_PR_addSum 80 = .ok (.iload_n 2, 1) := by decide +kernel
theorem d_PR_addSum_81 : decode c_PR_addSum 81 = .ok (.bipush 9, 2) := by decide +kernel
theorem d_PR_addSum_83 : decode c_PR_addSum 83 = .ok (.invokevirtual 75, 3) := by decide +kernel
theorem d_PR_addSum_86 : decode c_PR_addSum 86 = .ok (.goto 99, 3) := by decide +kernel
theorem d_PR_addSum_89 : decode c_PR_addSum 89 = .ok (.aload_n 0, 1) := by decide +kernel
theorem d_PR_addSum_90 : decode c_PR_addSum 90 = .ok (.iconst 4, 1) := by decide +kernel
theorem d_PR_addSum_91 : decode c_PR_addSum 91 = .ok (.iload_n 2, 1) := by decide +kernel
theorem d_PR_addSum_92 : decode c_PR_addSum 92 = .ok (.bipush 9, 2) := by decide +kernel
theorem d_PR_addSum_94 : decode c_PR_addSum 94 = .ok (.invokevirtual 75, 3) := by decide +kernel
theorem d_PR_addSum_97 : decode c_PR_addSum 97 = .ok (.goto 88, 3) := by decide +kernel
theorem d_PR_addSum_100 : decode c_PR_addSum 100 = .ok (.aload_n 0, 1) := by decide +kernel
theorem d_PR_addSum_101 : decode c_PR_addSum 101 = .ok (.iconst 4, 1) := by decide +kernel
theorem d_PR_addSum_102 : decode c_PR_addSum 102 = .ok (.iload_n 2, 1) := by decide +kernel
theorem d_PR_addSum_103 : decode c_PR_addSum 103 = .ok (.bipush 10, 2) := by decide +kernel
theorem d_PR_addSum_105 : decode c_PR_addSum 105 = .ok (.invokevirtual 75, 3) := by decide +kernel
theorem d_PR_addSum_108 : decode c_PR_addSum 108 = .ok (.goto 77, 3) := by decide +kernel
theorem d_PR_addSum_111 : decode c_PR_addSum 111 = .ok (.aload_n 0, 1) := by decide +kernel
theorem d_PR_addSum_112 : decode c_PR_addSum 112 = .ok (.iconst 2, 1) := by decide +kernel
theorem d_PR_addSum_113 : decode c_PR_addSum 113 = .ok (.iload_n 2, 1) := by decide +kernel
theorem d_PR_addSum_114 : decode c_PR_addSum 114 = .ok (.bipush 11, 2) := by decide +kernel
theorem d_PR_addSum_116 : decode c_PR_addSum 116 = .ok (.invokevirtual 75, 3) := by decide +kernel
theorem d_PR_addSum_119 : decode c_PR_addSum 119 = .ok (.goto 66, 3) := by decide +kernel
theorem d_PR_addSum_122 : decode c_PR_addSum 122 = .ok (.aload_n 0, 1) := by decide +kernel
theorem d_PR_addSum_123 : decode c_PR_addSum 123 = .ok (.iconst 4, 1) := by decide +kernel
theorem d_PR_addSum_124 : decode c_PR_addSum 124 = .ok (.iload_n 2, 1) := by decide +kernel
theorem d_PR_addSum_125 : decode c_PR_addSum 125 = .ok (.bipush 11, 2) := by decide +kernel
theorem d_PR_addSum_127 : decode c_PR_addSum 127 = .ok (.invokevirtual 75, 3) := by decide +kernel
theorem d_PR_addSum_130 : decode c_PR_addSum 130 = .ok (.goto 55, 3) := by decide +kernel
theorem d_PR_addSum_133 : decode c_PR_addSum 133 = .ok (.aload_n 0, 1) := by decide +kernel
theorem d_PR_addSum_134 : decode c_PR_addSum 134 = .ok (.iconst 2, 1) := by decide +kernel
theorem d_PR_addSum_135 : decode c_PR_addSum 135 = .ok (.iload_n 2, 1) := by decide +kernel
theorem d_PR_addSum_136 : decode c_PR_addSum 136 = .ok (.bipush 12, 2) := by decide +kernel
theorem d_PR_addSum_138 : decode c_PR_addSum 138 = .ok (.invokevirtual 75, 3) := by decide +kernel
theorem d_PR_addSum_141 : decode c_PR_addSum 141 = .ok (.goto 44, 3) := by decide +kernel
theorem d_PR_addSum_144 : decode c_PR_addSum 144 = .ok (.aload_n 0, 1) := by decide +kernel
theorem d_PR_addSum_145 : decode c_PR_addSum 145 = .ok (.iconst 2, 1) := by decide +kernel
theorem d_PR_addSum_146 : decode c_PR_addSum 146 = .ok (.iload_n 2, 1) := by decide +kernel
theorem d_PR_addSum_147 : decode c_PR_addSum 147 = .ok (.bipush 13, 2) := by decide +kernel
theorem d_PR_addSum_149 : decode c_PR_addSum 149 = .ok (.invokevirtual 75, 3) := by decide +kernel
theorem d_PR_addSum_152 : decode c_PR_addSum 152 = .ok (.goto 33, 3) := by decide +kernel
theorem d_PR_addSum_155 : decode c_PR_addSum 155 = .ok (.aload_n 0, 1) := by decide +kernel
theorem d_PR_addSum_156 : decode c_PR_addSum 156 = .ok (.iconst 2, 1) := by decide +kernel
theorem d_PR_addSum_157 : decode c_PR_addSum 157 = .ok (.iload_n 2, 1) := by decide +kernel
theorem d_PR_addSum_158 : decode c_PR_addSum 158 = .ok (.bipush 14, 2) := by decide +kernel
theorem d_PR_addSum_160 : decode c_PR_addSum 160 = .ok (.invokevirtual 75, 3) := by decide +kernel
theorem d_PR_addSum_163 : decode c_PR_addSum 163 = .ok (.goto 22, 3) := by decide +kernel
theorem d_PR_addSum_166 : decode c_PR_addSum 166 = .ok (.aload_n 0, 1) := by decide +kernel
theorem d_PR_addSum_167 : decode c_PR_addSum 167 = .ok (.bipush 15, 2) := by decide +kernel
theorem d_PR_addSum_169 : decode c_PR_addSum 169 = .ok (.iconst 0, 1) := by decide +kernel
theorem d_PR_addSum_170 : decode c_PR_addSum 170 = .ok (.iconst 0, 1) := by decide +kernel
theorem d_PR_addSum_171 : decode c_PR_addSum 171 = .ok (.invokevirtual 65, 3) := by decide +kernel
theorem d_PR_addSum_174 : decode c_PR_addSum 174 = .ok (.goto 11, 3) := by decide +kernel
theorem d_PR_addSum_177 : decode c_PR_addSum 177 = .ok (.aload_n 0, 1) := by decide +kernel
theorem d_PR_addSum_178 : decode c_PR_addSum 178 = .ok (.bipush 16, 2) := by decide +kernel
theorem d_PR_addSum_180 : decode c_PR_addSum 180 = .ok (.iconst 0, 1) := by decide +kernel
theorem d_PR_addSum_181 : decode c_PR_addSum 181 = .ok (.iconst 0, 1) := by decide +kernel
theorem d_PR_addSum_182 : decode c_PR_addSum 182 = .ok (.invokevirtual 65, 3) := by decide +kernel
theorem d_PR_addSum_185 : decode c_PR_addSum 185 = .ok (.return_, 1) := by decide +kernel
theorem d_PR_addCountedX_0 : decode c_PR_addCountedX 0 = .ok (.aload_n 0, 1) := by decide +kernel
theorem d_PR_addCountedX_1 : decode c_PR_addCountedX 1 = .ok (.bipush 17, 2) := by decide +kernel
theorem d_PR_addCountedX_3 : decode c_PR_addCountedX 3 = .ok (.iconst 0, 1) := by decide +kernel
theorem d_PR_addCountedX_4 : decode c_PR_addCountedX 4 = .ok (.iconst 0, 1) := by decide +kernel
theorem d_PR_addCountedX_5 : decode c_PR_addCountedX 5 = .ok (.invokevirtual 65, 3) := by decide +kernel
theorem d_PR_addCountedX_8 : decode c_PR_addCountedX 8 = .ok (.aload_n 0, 1) := by decide +kernel
theorem d_PR_addCountedX_9 : decode c_PR_addCountedX 9 = .ok (.iconst 2, 1) := by decide +kernel
theorem d_PR_addCountedX_10 : decode c_PR_addCountedX 10 = .ok (.iconst 2, 1) := by decide +kernel
theorem d_PR_addCountedX_11 : decode c_PR_addCountedX 11 = .ok (.iconst 1, 1) := by decide +kernel
theorem d_PR_addCountedX_12 : decode c_PR_addCountedX 12 = .ok (.invokevirtual 65, 3) := by decide +kernel
theorem d_PR_addCountedX_15 : decode c_PR_addCountedX 15 = .ok (.aload_n 0, 1) := by decide +kernel
theorem d_PR_addCountedX_16 : decode c_PR_addCountedX 16 = .ok (.iload_n 1, 1) := by decide +kernel
theorem d_PR_addCountedX_17 : decode c_PR_addCountedX 17 = .ok (.iconst 1, 1) := by decide +kernel
theorem d_PR_addCountedX_18 : decode c_PR_addCountedX 18 = .ok (.iconst 2, 1) := by decide +kernel
theorem d_PR_addCountedX_19 : decode c_PR_addCountedX 19 = .ok (.invokevirtual 65, 3) := by decide +kernel
theorem d_PR_addCountedX_22 : decode c_PR_addCountedX 22 = .ok (.aload_n 0, 1) := by decide +kernel
theorem d_PR_addCountedX_23 : decode c_PR_addCountedX 23 = .ok (.bipush 18, 2) := by decide +kernel
theorem d_PR_addCountedX_25 : decode c_PR_addCountedX 25 = .ok (.iconst 0, 1) := by decide +kernel
theorem d_PR_addCountedX_26 : decode c_PR_addCountedX 26 = .ok (.iconst 0, 1) := by decide +kernel
theorem d_PR_addCountedX_27 : decode c_PR_addCountedX 27 = .ok (.invokevirtual 65, 3) := by decide +kernel
theorem d_PR_addCountedX_30 : decode c_PR_addCountedX 30 = .ok (.return_, 1) := by decide +kernel
theorem d_PR_addWithR2_0 : decode c_PR_addWithR2 0 = .ok (.aload_n 0, 1) := by decide +kernel
theorem d_PR_addWithR2_1 : decode c_PR_addWithR2 1 = .ok (.iload_n 1, 1) := by decide +kernel
theorem d_PR_addWithR2_2 : decode c_PR_addWithR2 2 = .ok (.iconst 2, 1) := by decide +kernel
theorem d_PR_addWithR2_3 : decode c_PR_addWithR2 3 = .ok (.iload_n 2, 1) := by decide +kernel
theorem d_PR_addWithR2_4 : decode c_PR_addWithR2 4 = .ok (.invokevirtual 65, 3) := by decide +kernel
theorem d_PR_addWithR2_7 : decode c_PR_addWithR2 7 = .ok (.aload_n 0, 1) := by decide +kernel
theorem d_PR_addWithR2_8 : decode c_PR_addWithR2 8 = .ok (.iload_n 3, 1) := by decide +kernel
theorem d_PR_addWithR2_9 : decode c_PR_addWithR2 9 = .ok (.iconst 0, 1) := by decide +kernel
theorem d_PR_addWithR2_10 : decode c_PR_addWithR2 10 = .ok (.iconst 2, 1) := by decide +kernel
theorem d_PR_addWithR2_11 : decode c_PR_addWithR2 11 = .ok (.invokevirtual 65, 3) := by decide +kernel
theorem d_PR_addWithR2_14 : decode c_PR_addWithR2 14 = .ok (.return_, 1) := by decide +kernel
theorem d_PR_addTransfer_0 : decode c_PR_addTransfer 0 = .ok (.iload_n 1, 1) := by decide +kernel
theorem d_PR_addTransfer_1 : decode c_PR_addTransfer 1 = .ok (.tableswitch 172 22 30 #[51, 62, 73, 84, 95, 106, 132, 151, 162], 51) := by decide +kernel
theorem d_PR_addTransfer_52 : decode c_PR_addTransfer 52 = .ok (.aload_n 0, 1) := by decide +kernel
theorem d_PR_addTransfer_53 : decode c_PR_addTransfer 53 = .ok (.bipush 19, 2) := by decide +kernel
theorem d_PR_addTransfer_55 : decode c_PR_addTransfer 55 = .ok (.iconst 0, 1) := by decide +kernel
theorem d_PR_addTransfer_56 : decode c_PR_addTransfer 56 = .ok (.iload_n 2, 1) := by decide +kernel
theorem d_PR_addTransfer_57 : decode c_PR_addTransfer 57 = .ok (.invokevirtual 65, 3) := by decide +kernel
theorem d_PR_addTransfer_60 : decode c_PR_addTransfer 60 = .ok (.goto 121, 3) := by decide +kernel
theorem d_PR_addTransfer_63 : decode c_PR_addTransfer 63 = .ok (.aload_n 0, 1) := by decide +kernel
theorem d_PR_addTransfer_64 : decode c_PR_addTransfer 64 = .ok (.bipush 20, 2) := by decide +kernel
theorem d_PR_addTransfer_66 : decode c_PR_addTransfer 66 = .ok (.iconst 0, 1) := by decide +kernel
theorem d_PR_addTransfer_67 : decode c_PR_addTransfer 67 = .ok (.iload_n 2, 1) := by decide +kernel
theorem d_PR_addTransfer_68 : decode c_PR_addTransfer 68 = .ok (.invokevirtual 65, 3) := by decide +kernel
theorem d_PR_addTransfer_71 : decode c_PR_addTransfer 71 = .ok (.goto 110, 3) := by decide +kernel
theorem d_PR_addTransfer_74 : decode c_PR_addTransfer 74 = .ok (.aload_n 0, 1) := by decide +kernel
theorem d_PR_addTransfer_75 : decode c_PR_addTransfer 75 = .ok (.bipush 21, 2) := by decide +kernel
theorem d_PR_addTransfer_77 : decode c_PR_addTransfer 77 = .ok (.iconst 0, 1) := by decide +kernel
theorem d_PR_addTransfer_78 : decode c_PR_addTransfer 78 = .ok (.iload_n 2, 1) := by decide +kernel
theorem d_PR_addTransfer_79 : decode c_PR_addTransfer 79 = .ok (.invokevirtual 65, 3) := by decide +kernel
theorem d_PR_addTransfer_82 : decode c_PR_addTransfer 82 = .ok (.goto 99, 3) := by decide +kernel
theorem d_PR_addTransfer_85 : decode c_PR_addTransfer 85 = .ok (.aload_n 0, 1) := by decide +kernel
theorem d_PR_addTransfer_86 : decode c_PR_addTransfer 86 = .ok (.bipush 22, 2) := by decide +kernel
theorem d_PR_addTransfer_88 : decode c_PR_addTransfer 88 = .ok (.iconst 0, 1) := by decide +kernel
theorem d_PR_addTransfer_89 : decode c_PR_addTransfer 89 = .ok (.iload_n 2, 1) := by decide +kernel
theorem d_PR_addTransfer_90 : decode c_PR_addTransfer 90 = .ok (.invokevirtual 65, 3) := by decide +kernel
theorem d_PR_addTransfer_93 : decode c_PR_addTransfer 93 = .ok (.goto 88, 3) := by decide +kernel
theorem d_PR_addTransfer_96 : decode c_PR_addTransfer 96 = .ok (.aload_n 0, 1) := by decide +kernel
theorem d_PR_addTransfer_97 : decode c_PR_addTransfer 97 = .ok (.bipush 23, 2) := by decide +kernel
theorem d_PR_addTransfer_99 : decode c_PR_addTransfer 99 = .ok (.iconst 0, 1) := by decide +kernel
theorem d_PR_addTransfer_100 : decode c_PR_addTransfer 100 = .ok (.iload_n 2, 1) := by decide +kernel
theorem d_PR_addTransfer_101 : decode c_PR_addTransfer 101 = .ok (.invokevirtual 65, 3) := by decide +kernel
theorem d_PR_addTransfer_104 : decode c_PR_addTransfer 104 = .ok (.goto 77, 3) := by decide +kernel
theorem d_PR_addTransfer_107 : decode c_PR_addTransfer 107 = .ok (.aload_n 0, 1) := by decide +kernel
theorem d_PR_addTransfer_108 : decode c_PR_addTransfer 108 = .ok (.iconst 2, 1) := by decide +kernel
theorem d_PR_addTransfer_109 : decode c_PR_addTransfer 109 = .ok (.iconst 2, 1) := by decide +kernel
theorem d_PR_addTransfer_110 : decode c_PR_addTransfer 110 = .ok (.iload_n 3, 1) := by decide +kernel
theorem d_PR_addTransfer_111 : decode c_PR_addTransfer 111 = .ok (.invokevirtual 65, 3) := by decide +kernel
theorem d_PR_addTransfer_114 : decode c_PR_addTransfer 114 = .ok (.aload_n 0, 1) := by decide +kernel
theorem d_PR_addTransfer_115 : decode c_PR_addTransfer 115 = .ok (.bipush 24, 2) := by decide +kernel
theorem d_PR_addTransfer_117 : decode c_PR_addTransfer 117 = .ok (.iconst 2, 1) := by decide +kernel
theorem d_PR_addTransfer_118 : decode c_PR_addTransfer 118 = .ok (.iconst 0, 1) := by decide +kernel
theorem d_PR_addTransfer_119 : decode c_PR_addTransfer 119 = .ok (.invokevirtual 65, 3) := by decide +kernel
theorem d_PR_addTransfer_122 : decode c_PR_addTransfer 122 = .ok (.aload_n 0, 1) := by decide +kernel
theorem d_PR_addTransfer_123 : decode c_PR_addTransfer 123 = .ok (.bipush 19, 2) := by decide +kernel
theorem d_PR_addTransfer_125 : decode c_PR_addTransfer 125 = .ok (.iconst 0, 1) := by decide +kernel
theorem d_PR_addTransfer_126 : decode c_PR_addTransfer 126 = .ok (.iload_n 2, 1) := by decide +kernel
theorem d_PR_addTransfer_127 : decode c_PR_addTransfer 127 = .ok (.invokevirtual 65, 3) := by decide +kernel
theorem d_PR_addTransfer_130 : decode c_PR_addTransfer 130 = .ok (.goto 51, 3) := by decide +kernel
theorem d_PR_addTransfer_133 : decode c_PR_addTransfer 133 = .ok (.aload_n 0, 1) := by decide +kernel
theorem d_PR_addTransfer_134 : decode c_PR_addTransfer 134 = .ok (.bipush 25, 2) := by decide +kernel
theorem d_PR_addTransfer_136 : decode c_PR_addTransfer 136 = .ok (.iconst 2, 1) := by decide +kernel
theorem d_PR_addTransfer_137 : decode c_PR_addTransfer 137 = .ok (.iconst 0, 1) := by decide +kernel
theorem d_PR_addTransfer_138 : decode c_PR_addTransfer 138 = .ok (.invokevirtual 65, 3) := by decide +kernel
theorem d_PR_addTransfer_141 : decode c_PR_addTransfer 141 = .ok (.aload_n 0, 1) := by decide +kernel
theorem d_PR_addTransfer_142 : decode c_PR_addTransfer 142 = .ok (.bipush 26, 2) := by decide +kernel
theorem d_PR_addTransfer_144 : decode c_PR_addTransfer 144 = .ok (.iconst 2, 1) := by decide +kernel
theorem d_PR_addTransfer_145 : decode c_PR_addTransfer 145 = .ok (.iconst 0, 1) := by decide +kernel
theorem d_PR_addTransfer_146 : decode c_PR_addTransfer 146 = .ok (.invokevirtual 65, 3) := by decide +kernel
theorem d_PR_addTransfer_149 : decode c_PR_addTransfer 149 = .ok (.goto 32, 3) := by decide +kernel
theorem d_PR_addTransfer_152 : decode c_PR_addTransfer 152 = .ok (.aload_n 0, 1) := by decide +kernel
theorem d_PR_addTransfer_153 : decode c_PR_addTransfer 153 = .ok (.bipush 24, 2) := by decide +kernel
theorem d_PR_addTransfer_155 : decode c_PR_addTransfer 155 = .ok (.iconst 0, 1) := by decide +kernel
theorem d_PR_addTransfer_156 : decode c_PR_addTransfer 156 = .ok (.iconst 0, 1) := by decide +kernel
theorem d_PR_addTransfer_157 : decode c_PR_addTransfer 157 = .ok (.invokevirtual 65, 3) := by decide +kernel
theorem d_PR_addTransfer_160 : decode c_PR_addTransfer 160 = .ok (.goto 21, 3) := by decide +kernel
theorem d_PR_addTransfer_163 : decode c_PR_addTransfer 163 = .ok (.aload_n 0, 1) := by decide +kernel
theorem d_PR_addTransfer_164 : decode c_PR_addTransfer 164 = .ok (.bipush 25, 2) := by decide +kernel
theorem d_PR_addTransfer_166 : decode c_PR_addTransfer 166 = .ok (.iconst 0, 1) := by decide +kernel
theorem d_PR_addTransfer_167 : decode c_PR_addTransfer 167 = .ok (.invokevirtual 68, 3) := by decide +kernel
theorem d_PR_addTransfer_170 : decode c_PR_addTransfer 170 = .ok (.goto 11, 3) := by decide +kernel
theorem d_PR_addTransfer_173 : decode c_PR_addTransfer 173 = .ok (.aload_n 0, 1) := by decide +kernel
theorem d_PR_addTransfer_174 : decode c_PR_addTransfer 174 = .ok (.bipush 26, 2) := by decide +kernel
theorem d_PR_addTransfer_176 : decode c_PR_addTransfer 176 = .ok (.iconst 1, 1) := by decide +kernel
theorem d_PR_addTransfer_177 : decode c_PR_addTransfer 177 = .ok (.iconst 0, 1) := by decide +kernel
theorem d_PR_addTransfer_178 : decode c_PR_addTransfer 178 = .ok (.invokevirtual 65, 3) := by decide +kernel
theorem d_PR_addTransfer_181 : decode c_PR_addTransfer 181 = .ok (.return_, 1) := by decide +kernel
theorem d_PR_fillTargets_0 : decode c_PR_fillTargets 0 = .ok (.iconst 0, 1) := by decide +kernel
theorem d_PR_fillTargets_1 : decode c_PR_fillTargets 1 = .ok (.istore_n 1, 1) := by decide +kernel
theorem d_PR_fillTargets_2 : decode c_PR_fillTargets 2 = .ok (.iload_n 1, 1) := by decide +kernel
theorem d_PR_fillTargets_3 : decode c_PR_fillTargets 3 = .ok (.aload_n 0, 1) := by decide +kernel
theorem d_PR_fillTargets_4 : decode c_PR_fillTargets 4 = .ok (.getfield 32, 3) := by decide +kernel
theorem d_PR_fillTargets_7 : decode c_PR_fillTargets 7 = .ok (.if_icmp .ge 42, 3) := by decide +kernel
theorem d_PR_fillTargets_10 : decode c_PR_fillTargets 10 = .ok (.aload_n 0, 1) := by decide +kernel
theorem d_PR_fillTargets_11 : decode c_PR_fillTargets 11 = .ok (.getfield 11, 3) := by decide +kernel
theorem d_PR_fillTargets_14 : decode c_PR_fillTargets 14 = .ok (.iload_n 1, 1) := by decide +kernel
theorem d_PR_fillTargets_15 : decode c_PR_fillTargets 15 = .ok (.iaload, 1) := by decide +kernel
theorem d_PR_fillTargets_16 : decode c_PR_fillTargets 16 = .ok (.invokestatic 48, 3) := by decide +kernel
theorem d_PR_fillTargets_19 : decode c_PR_fillTargets 19 = .ok (.ifCond .eq 24, 3) := by decide +kernel
theorem d_PR_fillTargets_22 : decode c_PR_fillTargets 22 = .ok (.aload_n 0, 1) := by decide +kernel
theorem d_PR_fillTargets_23 : decode c_PR_fillTargets 23 = .ok (.getfield 18, 3) := by decide +kernel
theorem d_PR_fillTargets_26 : decode c_PR_fillTargets 26 = .ok (.iload_n 1, 1) := by decide +kernel
theorem d_PR_fillTargets_27 : decode c_PR_fillTargets 27 = .ok (.aload_n 0, 1) := by decide +kernel
theorem d_PR_fillTargets_28 : decode c_PR_fillTargets 28 = .ok (.getfield 25, 3) := by decide +kernel
theorem d_PR_fillTargets_31 : decode c_PR_fillTargets 31 = .ok (.aload_n 0, 1) := by decide +kernel
theorem d_PR_fillTargets_32 : decode c_PR_fillTargets 32 = .ok (.getfield 18, 3) := by decide +kernel
theorem d_PR_fillTargets_35 : decode c_PR_fillTargets 35 = .ok (.iload_n 1, 1) := by decide +kernel
theorem d_PR_fillTargets_36 : decode c_PR_fillTargets 36 = .ok (.iaload, 1) := by decide +kernel
theorem d_PR_fillTargets_37 : decode c_PR_fillTargets 37 = .ok (.sipush 255, 3) := by decide +kernel
theorem d_PR_fillTargets_40 : decode c_PR_fillTargets 40 = .ok (.iand, 1) := by decide +kernel
theorem d_PR_fillTargets_41 : decode c_PR_fillTargets 41 = .ok (.iaload, 1) := by decide +kernel
theorem d_PR_fillTargets_42 : decode c_PR_fillTargets 42 = .ok (.iastore, 1) := by decide +kernel
theorem d_PR_fillTargets_43 : decode c_PR_fillTargets 43 = .ok (.iinc 1 1, 3) := by decide +kernel
theorem d_PR_fillTargets_46 : decode c_PR_fillTargets 46 = .ok (.goto (-44), 3) := by decide +kernel
theorem d_PR_fillTargets_49 : decode c_PR_fillTargets 49 = .ok (.return_, 1) := by decide +kernel
theorem d_PR_beginsAt_0 : decode c_PR_beginsAt 0 = .ok (.iload_n 1, 1) := by decide +kernel
theorem d_PR_beginsAt_1 : decode c_PR_beginsAt 1 = .ok (.ifCond .lt 24, 3) := by decide +kernel
theorem d_PR_beginsAt_4 : decode c_PR_beginsAt 4 = .ok (.iload_n 1, 1) := by decide +kernel
theorem d_PR_beginsAt_5 : decode c_PR_beginsAt 5 = .ok (.aload_n 0, 1) := by decide +kernel
theorem d_PR_beginsAt_6 : decode c_PR_beginsAt 6 = .ok (.getfield 32, 3) := by decide +kernel
theorem d_PR_beginsAt_9 : decode c_PR_beginsAt 9 = .ok (.if_icmp .ge 16, 3) := by decide +kernel
theorem d_PR_beginsAt_12 : decode c_PR_beginsAt 12 = .ok (.aload_n 0, 1) := by decide +kernel
theorem d_PR_beginsAt_13 : decode c_PR_beginsAt 13 = .ok (.getfield 21, 3) := by decide +kernel
theorem d_PR_beginsAt_16 : decode c_PR_beginsAt 16 = .ok (.iload_n 1, 1) := by decide +kernel
theorem d_PR_beginsAt_17 : decode c_PR_beginsAt 17 = .ok (.baload, 1) := by decide +kernel
theorem d_PR_beginsAt_18 : decode c_PR_beginsAt 18 = .ok (.ifCond .eq 7, 3) := by decide +kernel
theorem d_PR_beginsAt_21 : decode c_PR_beginsAt 21 = .ok (.iconst 1, 1) := by decide +kernel
theorem d_PR_beginsAt_22 : decode c_PR_beginsAt 22 = .ok (.goto 4, 3) := by decide +kernel
theorem d_PR_beginsAt_25 : decode c_PR_beginsAt 25 = .ok (.iconst 0, 1) := by decide +kernel
theorem d_PR_beginsAt_26 : decode c_PR_beginsAt 26 = .ok (.ireturn, 1) := by decide +kernel
