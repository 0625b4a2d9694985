theorem d_MO_init_0 : decode c_MO_init 0 = .ok (.aload_n 0, 1) := by decide +kernel
theorem d_MO_init_1 : decode c_MO_init 1 = .ok (.invokespecial 1, 3) := by decide +kernel
theorem d_MO_init_4 : decode c_MO_init 4 = .ok (.aload_n 0, 1) := by decide +kernel
theorem d_MO_init_5 : decode c_MO_init 5 = .ok (.sipush 256, 3) := by decide +kernel
theorem d_MO_init_8 : decode c_MO_init 8 = .ok (.newarray .int, 2) := by decide +kernel
theorem d_MO_init_10 : decode c_MO_init 10 = .ok (.putfield 7, 3) := by decide +kernel
theorem d_MO_init_13 : decode c_MO_init 13 = .ok (.aload_n 0, 1) := by decide +kernel
theorem d_MO_init_14 : decode c_MO_init 14 = .ok (.sipush 256, 3) := by decide +kernel
theorem d_MO_init_17 : decode c_MO_init 17 = .ok (.newarray .boolean, 2) := by decide +kernel
theorem d_MO_init_19 : decode c_MO_init 19 = .ok (.putfield 13, 3) := by decide +kernel
theorem d_MO_init_22 : decode c_MO_init 22 = .ok (.aload_n 0, 1) := by decide +kernel
theorem d_MO_init_23 : decode c_MO_init 23 = .ok (.sipush 256, 3) := by decide +kernel
theorem d_MO_init_26 : decode c_MO_init 26 = .ok (.newarray .int, 2) := by decide +kernel
theorem d_MO_init_28 : decode c_MO_init 28 = .ok (.putfield 17, 3) := by decide +kernel
theorem d_MO_init_31 : decode c_MO_init 31 = .ok (.aload_n 0, 1) := by decide +kernel
theorem d_MO_init_32 : decode c_MO_init 32 = .ok (.sipush 1024, 3) := by decide +kernel
theorem d_MO_init_35 : decode c_MO_init 35 = .ok (.newarray .int, 2) := by decide +kernel
theorem d_MO_init_37 : decode c_MO_init 37 = .ok (.putfield 20, 3) := by decide +kernel
theorem d_MO_init_40 : decode c_MO_init 40 = .ok (.aload_n 0, 1) := by decide +kernel
theorem d_MO_init_41 : decode c_MO_init 41 = .ok (.sipush 1024, 3) := by decide +kernel
theorem d_MO_init_44 : decode c_MO_init 44 = .ok (.newarray .int, 2) := by decide +kernel
theorem d_MO_init_46 : decode c_MO_init 46 = .ok (.putfield 23, 3) := by decide +kernel
theorem d_MO_init_49 : decode c_MO_init 49 = .ok (.aload_n 0, 1) := by decide +kernel
theorem d_MO_init_50 : decode c_MO_init 50 = .ok (.sipush 1024, 3) := by decide +kernel
theorem d_MO_init_53 : decode c_MO_init 53 = .ok (.newarray .int, 2) := by decide +kernel
theorem d_MO_init_55 : decode c_MO_init 55 = .ok (.putfield 26, 3) := by decide +kernel
theorem d_MO_init_58 : decode c_MO_init 58 = .ok (.aload_n 0, 1) := by decide +kernel
theorem d_MO_init_59 : decode c_MO_init 59 = .ok (.bipush 6, 2) := by decide +kernel
theorem d_MO_init_61 : decode c_MO_init 61 = .ok (.newarray .int, 2) := by decide +kernel
theorem d_MO_init_63 : decode c_MO_init 63 = .ok (.putfield 29, 3) := by decide +kernel
theorem d_MO_init_66 : decode c_MO_init 66 = .ok (.aload_n 0, 1) := by decide +kernel
theorem d_MO_init_67 : decode c_MO_init 67 = .ok (.sipush 512, 3) := by decide +kernel
theorem d_MO_init_70 : decode c_MO_init 70 = .ok (.newarray .int, 2) := by decide +kernel
theorem d_MO_init_72 : decode c_MO_init 72 = .ok (.putfield 32, 3) := by decide +kernel
theorem d_MO_init_75 : decode c_MO_init 75 = .ok (.aload_n 0, 1) := by decide +kernel
theorem d_MO_init_76 : decode c_MO_init 76 = .ok (.iconst 2, 1) := by decide +kernel
theorem d_MO_init_77 : decode c_MO_init 77 = .ok (.newarray .int, 2) := by decide +kernel
theorem d_MO_init_79 : decode c_MO_init 79 = .ok (.dup, 1) := by decide +kernel
theorem d_MO_init_80 : decode c_MO_init 80 = .ok (.iconst 0, 1) := by decide +kernel
theorem d_MO_init_81 : decode c_MO_init 81 = .ok (.sipush 255, 3) := by decide +kernel
theorem d_MO_init_84 : decode c_MO_init 84 = .ok (.iastore, 1) := by decide +kernel
theorem d_MO_init_85 : decode c_MO_init 85 = .ok (.dup, 1) := by decide +kernel
theorem d_MO_init_86 : decode c_MO_init 86 = .ok (.iconst 1, 1) := by decide +kernel
theorem d_MO_init_87 : decode c_MO_init 87 = .ok (.sipush 255, 3) := by decide +kernel
theorem d_MO_init_90 : decode c_MO_init 90 = .ok (.iastore, 1) := by decide +kernel
theorem d_MO_init_91 : decode c_MO_init 91 = .ok (.putfield 35, 3) := by decide +kernel
theorem d_MO_init_94 : decode c_MO_init 94 = .ok (.aload_n 0, 1) := by decide +kernel
theorem d_MO_init_95 : decode c_MO_init 95 = .ok (.iconst 2, 1) := by decide +kernel
theorem d_MO_init_96 : decode c_MO_init 96 = .ok (.newarray .int, 2) := by decide +kernel
theorem d_MO_init_98 : decode c_MO_init 98 = .ok (.putfield 38, 3) := by decide +kernel
theorem d_MO_init_101 : decode c_MO_init 101 = .ok (.aload_n 0, 1) := by decide +kernel
theorem d_MO_init_102 : decode c_MO_init 102 = .ok (.iconst 2, 1) := by decide +kernel
theorem d_MO_init_103 : decode c_MO_init 103 = .ok (.newarray .boolean, 2) := by decide +kernel
theorem d_MO_init_105 : decode c_MO_init 105 = .ok (.putfield 41, 3) := by decide +kernel
theorem d_MO_init_108 : decode c_MO_init 108 = .ok (.aload_n 0, 1) := by decide +kernel
theorem d_MO_init_109 : decode c_MO_init 109 = .ok (.iconst 2, 1) := by decide +kernel
theorem d_MO_init_110 : decode c_MO_init 110 = .ok (.newarray .boolean, 2) := by decide +kernel
theorem d_MO_init_112 : decode c_MO_init 112 = .ok (.putfield 44, 3) := by decide +kernel
theorem d_MO_init_115 : decode c_MO_init 115 = .ok (.aload_n 0, 1) := by decide +kernel
theorem d_MO_init_116 : decode c_MO_init 116 = .ok (.iconst 2, 1) := by decide +kernel
theorem d_MO_init_117 : decode c_MO_init 117 = .ok (.newarray .int, 2) := by decide +kernel
theorem d_MO_init_119 : decode c_MO_init 119 = .ok (.putfield 47, 3) := by decide +kernel
theorem d_MO_init_122 : decode c_MO_init 122 = .ok (.aload_n 0, 1) := by decide +kernel
theorem d_MO_init_123 : decode c_MO_init 123 = .ok (.iconst 2, 1) := by decide +kernel
theorem d_MO_init_124 : decode c_MO_init 124 = .ok (.newarray .int, 2) := by decide +kernel
theorem d_MO_init_126 : decode c_MO_init 126 = .ok (.putfield 50, 3) := by decide +kernel
theorem d_MO_init_129 : decode c_MO_init 129 = .ok (.iconst 0, 1) := by decide +kernel
theorem d_MO_init_130 : decode c_MO_init 130 = .ok (.istore_n 1, 1) := by decide +kernel
theorem d_MO_init_131 : decode c_MO_init 131 = .ok (.iload_n 1, 1) := by decide +kernel
theorem d_MO_init_132 : decode c_MO_init 132 = .ok (.sipush 256, 3) := by decide +kernel
theorem d_MO_init_135 : decode c_MO_init 135 = .ok (.if_icmp .ge 16, 3) := by decide +kernel
theorem d_MO_init_138 : decode c_MO_init 138 = .ok (.aload_n 0, 1) := by decide +kernel
theorem d_MO_init_139 : decode c_MO_init 139 = .ok (.getfield 17, 3) := by decide +kernel
theorem d_MO_init_142 : decode c_MO_init 142 = .ok (.iload_n 1, 1) := by decide +kernel
theorem d_MO_init_143 : decode c_MO_init 143 = .ok (.iconst (-1), 1) := by decide +kernel
theorem d_MO_init_144 : decode c_MO_init 144 = .ok (.iastore, 1) := by decide +kernel
theorem d_MO_init_145 : decode c_MO_init 145 = .ok (.iinc 1 1, 3) := by decide +kernel
theorem d_MO_init_148 : decode c_MO_init 148 = .ok (.goto (-17), 3) := by decide +kernel
theorem d_MO_init_151 : decode c_MO_init 151 = .ok (.return_, 1) := by decide +kernel
theorem d_MO_thrown_0 : decode c_MO_thrown 0 = .ok (.aload_n 0, 1) := by decide +kernel
theorem d_MO_thrown_1 : decode c_MO_thrown 1 = .ok (.getfield 53, 3) := by decide +kernel
theorem d_MO_thrown_4 : decode c_MO_thrown 4 = .ok (.ireturn, 1) := by decide +kernel
theorem d_MO_image_0 : decode c_MO_image 0 = .ok (.aload_n 0, 1) := by decide +kernel
theorem d_MO_image_1 : decode c_MO_image 1 = .ok (.iload_n 1, 1) := by decide +kernel
theorem d_MO_image_2 : decode c_MO_image 2 = .ok (.invokestatic 57, 3) := by decide +kernel
theorem d_MO_image_5 : decode c_MO_image 5 = .ok (.ifCond .eq 14, 3) := by decide +kernel
theorem d_MO_image_8 : decode c_MO_image 8 = .ok (.iload_n 2, 1) := by decide +kernel
theorem d_MO_image_9 : decode c_MO_image 9 = .ok (.invokestatic 57, 3) := by decide +kernel
theorem d_MO_image_12 : decode c_MO_image 12 = .ok (.ifCond .eq 7, 3) := by decide +kernel
theorem d_MO_image_15 : decode c_MO_image 15 = .ok (.iconst 0, 1) := by decide +kernel
theorem d_MO_image_16 : decode c_MO_image 16 = .ok (.goto 4, 3) := by decide +kernel
theorem d_MO_image_19 : decode c_MO_image 19 = .ok (.iconst 1, 1) := by decide +kernel
theorem d_MO_image_20 : decode c_MO_image 20 = .ok (.putfield 53, 3) := by decide +kernel
theorem d_MO_image_23 : decode c_MO_image 23 = .ok (.aload_n 0, 1) := by decide +kernel
theorem d_MO_image_24 : decode c_MO_image 24 = .ok (.getfield 53, 3) := by decide +kernel
theorem d_MO_image_27 : decode c_MO_image 27 = .ok (.ifCond .le 5, 3) := by decide +kernel
theorem d_MO_image_30 : decode c_MO_image 30 = .ok (.iconst 0, 1) := by decide +kernel
theorem d_MO_image_31 : decode c_MO_image 31 = .ok (.ireturn, 1) := by decide +kernel
theorem d_MO_image_32 : decode c_MO_image 32 = .ok (.aload_n 0, 1) := by decide +kernel
theorem d_MO_image_33 : decode c_MO_image 33 = .ok (.getfield 7, 3) := by decide +kernel
theorem d_MO_image_36 : decode c_MO_image 36 = .ok (.iload_n 1, 1) := by decide +kernel
theorem d_MO_image_37 : decode c_MO_image 37 = .ok (.iload_n 2, 1) := by decide +kernel
theorem d_MO_image_38 : decode c_MO_image 38 = .ok (.iastore, 1) := by decide +kernel
theorem d_MO_image_39 : decode c_MO_image 39 = .ok (.iconst 1, 1) := by decide +kernel
theorem d_MO_image_40 : decode c_MO_image 40 = .ok (.ireturn, 1) := by decide +kernel
theorem d_MO_isByte_0 : decode c_MO_isByte 0 = .ok (.iload_n 0, 1) := by decide +kernel
theorem d_MO_isByte_1 : decode c_MO_isByte 1 = .ok (.ifCond .lt 14, 3) := by decide +kernel
theorem d_MO_isByte_4 : decode c_MO_isByte 4 = .ok (.iload_n 0, 1) := by decide +kernel
theorem d_MO_isByte_5 : decode c_MO_isByte 5 = .ok (.sipush 255, 3) := by decide +kernel
theorem d_MO_isByte_8 : decode c_MO_isByte 8 = .ok (.if_icmp .gt 7, 3) := by decide +kernel
theorem d_MO_isByte_11 : decode c_MO_isByte 11 = .ok (.iconst 1, 1) := by decide +kernel
theorem d_MO_isByte_12 : decode c_MO_isByte 12 = .ok (.goto 4, 3) := by decide +kernel
theorem d_MO_isByte_15 : decode c_MO_isByte 15 = .ok (.iconst 0, 1) := by decide +kernel
theorem d_MO_isByte_16 : decode c_MO_isByte 16 = .ok (.ireturn, 1) := by decide +kernel
theorem d_MO_translate_0 : decode c_MO_translate 0 = .ok (.aload_n 0, 1) := by decide +kernel
theorem d_MO_translate_1 : decode c_MO_translate 1 = .ok (.iload_n 1, 1) := by decide +kernel
theorem d_MO_translate_2 : decode c_MO_translate 2 = .ok (.invokestatic 57, 3) := by decide +kernel
theorem d_MO_translate_5 : decode c_MO_translate 5 = .ok (.ifCond .eq 7, 3) := by decide +kernel
theorem d_MO_translate_8 : decode c_MO_translate 8 = .ok (.iconst 0, 1) := by decide +kernel
theorem d_MO_translate_9 : decode c_MO_translate 9 = .ok (.goto 4, 3) := by decide +kernel
theorem d_MO_translate_12 : decode c_MO_translate 12 = .ok (.iconst 1, 1) := by decide +kernel
theorem d_MO_translate_13 : decode c_MO_translate 13 = .ok (.putfield 53, 3) := by decide +kernel
theorem d_MO_translate_16 : decode c_MO_translate 16 = .ok (.aload_n 0, 1) := by decide +kernel
theorem d_MO_translate_17 : decode c_MO_translate 17 = .ok (.getfield 53, 3) := by decide +kernel
theorem d_MO_translate_20 : decode c_MO_translate 20 = .ok (.ifCond .le 5, 3) := by decide +kernel
theorem d_MO_translate_23 : decode c_MO_translate 23 = .ok (.iconst 0, 1) := by decide +kernel
theorem d_MO_translate_24 : decode c_MO_translate 24 = .ok (.ireturn, 1) := by decide +kernel
theorem d_MO_translate_25 : decode c_MO_translate 25 = .ok (.aload_n 0, 1) := by decide +kernel
theorem d_MO_translate_26 : decode c_MO_translate 26 = .ok (.iload_n 1, 1) := by decide +kernel
theorem d_MO_translate_27 : decode c_MO_translate 27 = .ok (.invokevirtual 94, 3) := by decide +kernel
theorem d_MO_translate_30 : decode c_MO_translate 30 = .ok (.aload_n 0, 1) := by decide +kernel
theorem d_MO_translate_31 : decode c_MO_translate 31 = .ok (.invokevirtual 97, 3) := by decide +kernel
theorem d_MO_translate_34 : decode c_MO_translate 34 = .ok (.istore_n 2, 1) := by decide +kernel
theorem d_MO_translate_35 : decode c_MO_translate 35 = .ok (.iload_n 2, 1) := by decide +kernel
theorem d_MO_translate_36 : decode c_MO_translate 36 = .ok (.ifCond .ge 5, 3) := by decide +kernel
theorem d_MO_translate_39 : decode c_MO_translate 39 = .ok (.iload_n 2, 1) := by decide +kernel
theorem d_MO_translate_40 : decode c_MO_translate 40 = .ok (.ireturn, 1) := by decide +kernel
theorem d_MO_translate_41 : decode c_MO_translate 41 = .ok (.aload_n 0, 1) := by decide +kernel
theorem d_MO_translate_42 : decode c_MO_translate 42 = .ok (.iconst 0, 1) := by decide +kernel
theorem d_MO_translate_43 : decode c_MO_translate 43 = .ok (.putfield 77, 3) := by decide +kernel
theorem d_MO_translate_46 : decode c_MO_translate 46 = .ok (.iconst 0, 1) := by decide +kernel
theorem d_MO_translate_47 : decode c_MO_translate 47 = .ok (.istore_n 3, 1) := by decide +kernel
theorem d_MO_translate_48 : decode c_MO_translate 48 = .ok (.iload_n 3, 1) := by decide +kernel
theorem d_MO_translate_49 : decode c_MO_translate 49 = .ok (.sipush 256, 3) := by decide +kernel
theorem d_MO_translate_52 : decode c_MO_translate 52 = .ok (.if_icmp .ge 46, 3) := by decide +kernel
theorem d_MO_translate_55 : decode c_MO_translate 55 = .ok (.aload_n 0, 1) := by decide +kernel
theorem d_MO_translate_56 : decode c_MO_translate 56 = .ok (.getfield 17, 3) := by decide +kernel
theorem d_MO_translate_59 : decode c_MO_translate 59 = .ok (.iload_n 3, 1) := by decide +kernel
theorem d_MO_translate_60 : decode c_MO_translate 60 = .ok (.aload_n 0, 1) := by decide +kernel
theorem d_MO_translate_61 : decode c_MO_translate 61 = .ok (.getfield 13, 3) := by decide +kernel
theorem d_MO_translate_64 : decode c_MO_translate 64 = .ok (.iload_n 3, 1) := by decide +kernel
theorem d_MO_translate_65 : decode c_MO_translate 65 = .ok (.baload, 1) := by decide +kernel
theorem d_MO_translate_66 : decode c_MO_translate 66 = .ok (.ifCond .eq 10, 3) := by decide +kernel
theorem d_MO_translate_69 : decode c_MO_translate 69 = .ok (.aload_n 0, 1) := by decide +kernel
theorem d_MO_translate_70 : decode c_MO_translate 70 = .ok (.getfield 77, 3) := by decide +kernel
theorem d_MO_translate_73 : decode c_MO_translate 73 = .ok (.goto 4, 3) := by decide +kernel
theorem d_MO_translate_76 : decode c_MO_translate 76 = .ok (.iconst (-1), 1) := by decide +kernel
theorem d_MO_translate_77 : decode c_MO_translate 77 = .ok (.iastore, 1) := by decide +kernel
theorem d_MO_translate_78 : decode c_MO_translate 78 = .ok (.aload_n 0, 1) := by decide +kernel
theorem d_MO_translate_79 : decode c_MO_translate 79 = .ok (.getfield 13, 3) := by decide +kernel
theorem d_MO_translate_82 : decode c_MO_translate 82 = .ok (.iload_n 3, 1) := by decide +kernel
theorem d_MO_translate_83 : decode c_MO_translate 83 = .ok (.baload, 1) := by decide +kernel
theorem d_MO_translate_84 : decode c_MO_translate 84 = .ok (.ifCond .eq 8, 3) := by decide +kernel
theorem d_MO_translate_87 : decode c_MO_translate 87 = .ok (.aload_n 0, 1) := by decide +kernel
theorem d_MO_translate_88 : decode c_MO_translate 88 = .ok (.iload_n 3, 1) := by decide +kernel
theorem d_MO_translate_89 : decode c_MO_translate 89 = .ok (.invokevirtual 101, 3) := by decide +kernel
theorem d_MO_translate_92 : decode c_MO_translate 92 = .ok (.iinc 3 1, 3) := by decide +kernel
theorem d_MO_translate_95 : decode c_MO_translate 95 = .ok (.goto (-47), 3) := by decide +kernel
theorem d_MO_translate_98 : decode c_MO_translate 98 = .ok (.iconst 0, 1) := by decide +kernel
theorem d_MO_translate_99 : decode c_MO_translate 99 = .ok (.istore_n 3, 1) := by decide +kernel
theorem d_MO_translate_100 : decode c_MO_translate 100 = .ok (.iload_n 3, 1) := by decide +kernel
theorem d_MO_translate_101 : decode c_MO_translate 101 = .ok (.aload_n 0, 1) := by decide +kernel
theorem d_MO_translate_102 : decode c_MO_translate 102 = .ok (.getfield 77, 3) := by decide +kernel
theorem d_MO_translate_105 : decode c_MO_translate 105 = .ok (.if_icmp .ge 57, 3) := by decide +kernel
theorem d_MO_translate_108 : decode c_MO_translate 108 = .ok (.aload_n 0, 1) := by decide +kernel
theorem d_MO_translate_109 : decode c_MO_translate 109 = .ok (.getfield 26, 3) := by decide +kernel
theorem d_MO_translate_112 : decode c_MO_translate 112 = .ok (.iload_n 3, 1) := by decide +kernel
theorem d_MO_translate_113 : decode c_MO_translate 113 = .ok (.aload_n 0, 1) := by decide +kernel
theorem d_MO_translate_114 : decode c_MO_translate 114 = .ok (.getfield 20, 3) := by decide +kernel
theorem d_MO_translate_117 : decode c_MO_translate 117 = .ok (.iload_n 3, 1) := by decide +kernel
theorem d_MO_translate_118 : decode c_MO_translate 118 = .ok (.iaload, 1) := by decide +kernel
theorem d_MO_translate_119 : decode c_MO_translate 119 = .ok (.bipush 19, 2) := by decide +kernel
theorem d_MO_translate_121 : decode c_MO_translate 121 = .ok (.if_icmp .lt 28, 3) := by decide +kernel
theorem d_MO_translate_124 : decode c_MO_translate 124 = .ok (.aload_n 0, 1) := by decide +kernel
theorem d_MO_translate_125 : decode c_MO_translate 125 = .ok (.getfield 20, 3) := by decide +kernel
theorem d_MO_translate_128 : decode c_MO_translate 128 = .ok (.iload_n 3, 1) := by decide +kernel
theorem d_MO_translate_129 : decode c_MO_translate 129 = .ok (.iaload, 1) := by decide +kernel
theorem d_MO_translate_130 : decode c_MO_translate 130 = .ok (.bipush 23, 2) := by decide +kernel
theorem d_MO_translate_132 : decode c_MO_translate 132 = .ok (.if_icmp .gt 17, 3) := by decide +kernel
theorem d_MO_translate_135 : decode c_MO_translate 135 = .ok (.aload_n 0, 1) := by decide +kernel
theorem d_MO_translate_136 : decode c_MO_translate 136 = .ok (.getfield 17, 3) := by decide +kernel
theorem d_MO_translate_139 : decode c_MO_translate 139 = .ok (.aload_n 0, 1) := by decide +kernel
theorem d_MO_translate_140 : decode c_MO_translate 140 = .ok (.getfield 26, 3) := by decide +kernel
theorem d_MO_translate_143 : decode c_MO_translate 143 = .ok (.iload_n 3, 1) := by decide +kernel
theorem d_MO_translate_144 : decode c_MO_translate 144 = .ok (.iaload, 1) := by decide +kernel
theorem d_MO_translate_145 : decode c_MO_translate 145 = .ok (.iaload, 1) := by decide +kernel
theorem d_MO_translate_146 : decode c_MO_translate 146 = .ok (.goto 9, 3) := by decide +kernel
theorem d_MO_translate_149 : decode c_MO_translate 149 = .ok (.aload_n 0, 1) := by decide +kernel
theorem d_MO_translate_150 : decode c_MO_translate 150 = .ok (.getfield 26, 3) := by decide +kernel
theorem d_MO_translate_153 : decode c_MO_translate 153 = .ok (.iload_n 3, 1) := by decide +kernel
theorem d_MO_translate_154 : decode c_MO_translate 154 = .ok (.iaload, 1) := by decide +kernel
theorem d_MO_translate_155 : decode c_MO_translate 155 = .ok (.iastore, 1) := by decide +kernel
theorem d_MO_translate_156 : decode c_MO_translate 156 = .ok (.iinc 3 1, 3) := by decide +kernel
theorem d_MO_translate_159 : decode c_MO_translate 159 = .ok (.goto (-59), 3) := by decide +kernel
theorem d_MO_translate_162 : decode c_MO_translate 162 = .ok (.aload_n 0, 1) := by decide +kernel
theorem d_MO_translate_163 : decode c_MO_translate 163 = .ok (.iconst 1, 1) := by decide +kernel
theorem d_MO_translate_164 : decode c_MO_translate 164 = .ok (.putfield 104, 3) := by decide +kernel
theorem d_MO_translate_167 : decode c_MO_translate 167 = .ok (.aload_n 0, 1) := by decide +kernel
theorem d_MO_translate_168 : decode c_MO_translate 168 = .ok (.iconst 0, 1) := by decide +kernel
theorem d_MO_translate_169 : decode c_MO_translate 169 = .ok (.putfield 108, 3) := by decide +kernel
theorem d_MO_translate_172 : decode c_MO_translate 172 = .ok (.iconst 0, 1) := by decide +kernel
theorem d_MO_translate_173 : decode c_MO_translate 173 = .ok (.istore_n 3, 1) := by decide +kernel
theorem d_MO_translate_174 : decode c_MO_translate 174 = .ok (.iload_n 3, 1) := by decide +kernel
theorem d_MO_translate_175 : decode c_MO_translate 175 = .ok (.iconst 2, 1) := by decide +kernel
theorem d_MO_translate_176 : decode c_MO_translate 176 = .ok (.if_icmp .ge 110, 3) := by decide +kernel
theorem d_MO_translate_179 : decode c_MO_translate 179 = .ok (.iconst 0, 1) := by decide +kernel
theorem d_MO_translate_180 : decode c_MO_translate 180 = .ok (.istore 4, 2) := by decide +kernel
theorem d_MO_translate_182 : decode c_MO_translate 182 = .ok (.iload 4, 2) := by decide +kernel
theorem d_MO_translate_184 : decode c_MO_translate 184 = .ok (.sipush 256, 3) := by decide +kernel
theorem d_MO_translate_187 : decode c_MO_translate 187 = .ok (.if_icmp .ge 29, 3) := by decide +kernel
theorem d_MO_translate_190 : decode c_MO_translate 190 = .ok (.aload_n 0, 1) := by decide +kernel
theorem d_MO_translate_191 : decode c_MO_translate 191 = .ok (.getfield 32, 3) := by decide +kernel
theorem d_MO_translate_194 : decode c_MO_translate 194 = .ok (.sipush 256, 3) := by decide +kernel
theorem d_MO_translate_197 : decode c_MO_translate 197 = .ok (.iload_n 3, 1) := by decide +kernel
theorem d_MO_translate_198 : decode c_MO_translate 198 = .ok (.imul, 1) := by decide +kernel
theorem d_MO_translate_199 : decode c_MO_translate 199 = .ok (.iload 4, 2) := by decide +kernel
theorem d_MO_translate_201 : decode c_MO_translate 201 = .ok (.iadd, 1) := by decide +kernel
theorem d_MO_translate_202 : decode c_MO_translate 202 = .ok (.aload_n 0, 1) := by decide +kernel
theorem d_MO_translate_203 : decode c_MO_translate 203 = .ok (.getfield 7, 3) := by decide +kernel
theorem d_MO_translate_206 : decode c_MO_translate 206 = .ok (.iload 4, 2) := by decide +kernel
theorem d_MO_translate_208 : decode c_MO_translate 208 = .ok (.iaload, 1) := by decide +kernel
theorem d_MO_translate_209 : decode c_MO_translate 209 = .ok (.iastore, 1) := by decide +kernel
theorem d_MO_translate_210 : decode c_MO_translate 210 = .ok (.iinc 4 1, 3) := by decide +kernel
theorem d_MO_translate_213 : decode c_MO_translate 213 = .ok (.goto (-31), 3) := by decide +kernel
theorem d_MO_translate_216 : decode c_MO_translate 216 = .ok (.iconst 0, 1) := by decide +kernel
theorem d_MO_translate_217 : decode c_MO_translate 217 = .ok (.istore 4, 2) := by decide +kernel
theorem d_MO_translate_219 : decode c_MO_translate 219 = .ok (.iload 4, 2) := by decide +kernel
theorem d_MO_translate_221 : decode c_MO_translate 221 = .ok (.iconst 3, 1) := by decide +kernel
theorem d_MO_translate_222 : decode c_MO_translate 222 = .ok (.if_icmp .ge 21, 3) := by decide +kernel
theorem d_MO_translate_225 : decode c_MO_translate 225 = .ok (.aload_n 0, 1) := by decide +kernel
theorem d_MO_translate_226 : decode c_MO_translate 226 = .ok (.getfield 29, 3) := by decide +kernel
theorem d_MO_translate_229 : decode c_MO_translate 229 = .ok (.iconst 3, 1) := by decide +kernel
theorem d_MO_translate_230 : decode c_MO_translate 230 = .ok (.iload_n 3, 1) := by decide +kernel
theorem d_MO_translate_231 : decode c_MO_translate 231 = .ok (.imul, 1) := by decide +kernel
theorem d_MO_translate_232 : decode c_MO_translate 232 = .ok (.iload 4, 2) := by decide +kernel
theorem d_MO_translate_234 : decode c_MO_translate 234 = .ok (.iadd, 1) := by decide +kernel
theorem d_MO_translate_235 : decode c_MO_translate 235 = .ok (.iconst 0, 1) := by decide +kernel
theorem d_MO_translate_236 : decode c_MO_translate 236 = .ok (.iastore, 1) := by decide +kernel
theorem d_MO_translate_237 : decode c_MO_translate 237 = .ok (.iinc 4 1, 3) := by decide +kernel
theorem d_MO_translate_240 : decode c_MO_translate 240 = .ok (.goto (-21), 3) := by decide +kernel
theorem d_MO_translate_243 : decode c_MO_translate 243 = .ok (.aload_n 0, 1) := by decide +kernel
theorem d_MO_translate_244 : decode c_MO_translate 244 = .ok (.getfield 35, 3) := by decide +kernel
theorem d_MO_translate_247 : decode c_MO_translate 247 = .ok (.iload_n 3, 1) := by decide +kernel
theorem d_MO_translate_248 : decode c_MO_translate 248 = .ok (.sipush 255, 3) := by decide +kernel
theorem d_MO_translate_251 : decode c_MO_translate 251 = .ok (.iastore, 1) := by decide +kernel
theorem d_MO_translate_252 : decode c_MO_translate 252 = .ok (.aload_n 0, 1) := by decide +kernel
theorem d_MO_translate_253 : decode c_MO_translate 253 = .ok (.getfield 41, 3) := by decide +kernel
theorem d_MO_translate_256 : decode c_MO_translate 256 = .ok (.iload_n 3, 1) := by decide +kernel
theorem d_MO_translate_257 : decode c_MO_translate 257 = .ok (.iconst 0, 1) := by decide +kernel
theorem d_MO_translate_258 : decode c_MO_translate 258 = .ok (.bastore, 1) := by decide +kernel
theorem d_MO_translate_259 : decode c_MO_translate 259 = .ok (.aload_n 0, 1) := by decide +kernel
theorem d_MO_translate_260 : decode c_MO_translate 260 = .ok (.getfield 44, 3) := by decide +kernel
theorem d_MO_translate_263 : decode c_MO_translate 263 = .ok (.iload_n 3, 1) := by decide +kernel
theorem d_MO_translate_264 : decode c_MO_translate 264 = .ok (.iconst 0, 1) := by decide +kernel
theorem d_MO_translate_265 : decode c_MO_translate 265 = .ok (.bastore, 1) := by decide +kernel
theorem d_MO_translate_266 : decode c_MO_translate 266 = .ok (.aload_n 0, 1) := by decide +kernel
theorem d_MO_translate_267 : decode c_MO_translate 267 = .ok (.getfield 47, 3) := by decide +kernel
theorem d_MO_translate_270 : decode c_MO_translate 270 = .ok (.iload_n 3, 1) := by decide +kernel
theorem d_MO_translate_271 : decode c_MO_translate 271 = .ok (.iconst 0, 1) := by decide +kernel
theorem d_MO_translate_272 : decode c_MO_translate 272 = .ok (.iastore, 1) := by decide +kernel
theorem d_MO_translate_273 : decode c_MO_translate 273 = .ok (.aload_n 0, 1) := by decide +kernel
theorem d_MO_translate_274 : decode c_MO_translate 274 = .ok (.getfield 50, 3) := by decide +kernel
theorem d_MO_translate_277 : decode c_MO_translate 277 = .ok (.iload_n 3, 1) := by decide +kernel
theorem d_MO_translate_278 : decode c_MO_translate 278 = .ok (.iconst 0, 1) := by decide +kernel
theorem d_MO_translate_279 : decode c_MO_translate 279 = .ok (.iastore, 1) := by decide +kernel
theorem d_MO_translate_280 : decode c_MO_translate 280 = .ok (.iinc 3 1, 3) := by decide +kernel
theorem d_MO_translate_283 : decode c_MO_translate 283 = .ok (.goto (-109), 3) := by decide +kernel
theorem d_MO_translate_286 : decode c_MO_translate 286 = .ok (.aload_n 0, 1) := by decide +kernel
theorem d_MO_translate_287 : decode c_MO_translate 287 = .ok (.getfield 38, 3) := by decide +kernel
theorem d_MO_translate_290 : decode c_MO_translate 290 = .ok (.iconst 0, 1) := by decide +kernel
theorem d_MO_translate_291 : decode c_MO_translate 291 = .ok (.iload_n 1, 1) := by decide +kernel
theorem d_MO_translate_292 : decode c_MO_translate 292 = .ok (.iastore, 1) := by decide +kernel
theorem d_MO_translate_293 : decode c_MO_translate 293 = .ok (.aload_n 0, 1) := by decide +kernel
theorem d_MO_translate_294 : decode c_MO_translate 294 = .ok (.getfield 38, 3) := by decide +kernel
theorem d_MO_translate_297 : decode c_MO_translate 297 = .ok (.iconst 1, 1) := by decide +kernel
theorem d_MO_translate_298 : decode c_MO_translate 298 = .ok (.aload_n 0, 1) := by decide +kernel
theorem d_MO_translate_299 : decode c_MO_translate 299 = .ok (.getfield 17, 3) := by decide +kernel
theorem d_MO_translate_302 : decode c_MO_translate 302 = .ok (.iload_n 1, 1) := by decide +kernel
theorem d_MO_translate_303 : decode c_MO_translate 303 = .ok (.iaload, 1) := by decide +kernel
theorem d_MO_translate_304 : decode c_MO_translate 304 = .ok (.iastore, 1) := by decide +kernel
theorem d_MO_translate_305 : decode c_MO_translate 305 = .ok (.aload_n 0, 1) := by decide +kernel
theorem d_MO_translate_306 : decode c_MO_translate 306 = .ok (.getfield 77, 3) := by decide +kernel
theorem d_MO_translate_309 : decode c_MO_translate 309 = .ok (.ireturn, 1) := by decide +kernel
theorem d_MO_reach_0 : decode c_MO_reach 0 = .ok (.iconst 0, 1) := by decide +kernel
theorem d_MO_reach_1 : decode c_MO_reach 1 = .ok (.istore_n 2, 1) := by decide +kernel
theorem d_MO_reach_2 : decode c_MO_reach 2 = .ok (.iload_n 2, 1) := by decide +kernel
theorem d_MO_reach_3 : decode c_MO_reach 3 = .ok (.sipush 256, 3) := by decide +kernel
theorem d_MO_reach_6 : decode c_MO_reach 6 = .ok (.if_icmp .ge 25, 3) := by decide +kernel
theorem d_MO_reach_9 : decode c_MO_reach 9 = .ok (.aload_n 0, 1) := by decide +kernel
theorem d_MO_reach_10 : decode c_MO_reach 10 = .ok (.getfield 13, 3) := by decide +kernel
theorem d_MO_reach_13 : decode c_MO_reach 13 = .ok (.iload_n 2, 1) := by decide +kernel
theorem d_MO_reach_14 : decode c_MO_reach 14 = .ok (.iload_n 2, 1) := by decide +kernel
theorem d_MO_reach_15 : decode c_MO_reach 15 = .ok (.iload_n 1, 1) := by decide +kernel
theorem d_MO_reach_16 : decode c_MO_reach 16 = .ok (.if_icmp .ne 7, 3) := by decide +kernel
theorem d_MO_reach_19 : decode c_MO_reach 19 = .ok (.iconst 1, 1) := by decide +kernel
theorem d_MO_reach_20 : decode c_MO_reach 20 = .ok (.goto 4, 3) := by decide +kernel
theorem d_MO_reach_23 : decode c_MO_reach 23 = .ok (.iconst 0, 1) := by decide +kernel
theorem d_MO_reach_24 : decode c_MO_reach 24 = .ok (.bastore, 1) := by decide +kernel
theorem d_MO_reach_25 : decode c_MO_reach 25 = .ok (.iinc 2 1, 3) := by decide +kernel
theorem d_MO_reach_28 : decode c_MO_reach 28 = .ok (.goto (-26), 3) := by decide +kernel
theorem d_MO_reach_31 : decode c_MO_reach 31 = .ok (.iconst 1, 1) := by decide +kernel
theorem d_MO_reach_32 : decode c_MO_reach 32 = .ok (.istore_n 2, 1) := by decide +kernel
theorem d_MO_reach_33 : decode c_MO_reach 33 = .ok (.iconst 0, 1) := by decide +kernel
theorem d_MO_reach_34 : decode c_MO_reach 34 = .ok (.istore_n 3, 1) := by decide +kernel
theorem d_MO_reach_35 : decode c_MO_reach 35 = .ok (.iload_n 3, 1) := by decide +kernel
theorem d_MO_reach_36 : decode c_MO_reach 36 = .ok (.sipush 256, 3) := by decide +kernel
theorem d_MO_reach_39 : decode c_MO_reach 39 = .ok (.if_icmp .ge 160, 3) := by decide +kernel
theorem d_MO_reach_42 : decode c_MO_reach 42 = .ok (.iload_n 2, 1) := by decide +kernel
theorem d_MO_reach_43 : decode c_MO_reach 43 = .ok (.ifCond .eq 156, 3) := by decide +kernel
theorem d_MO_reach_46 : decode c_MO_reach 46 = .ok (.iconst 0, 1) := by decide +kernel
theorem d_MO_reach_47 : decode c_MO_reach 47 = .ok (.istore_n 2, 1) := by decide +kernel
theorem d_MO_reach_48 : decode c_MO_reach 48 = .ok (.iconst 0, 1) := by decide +kernel
theorem d_MO_reach_49 : decode c_MO_reach 49 = .ok (.istore 4, 2) := by decide +kernel
theorem d_MO_reach_51 : decode c_MO_reach 51 = .ok (.iload 4, 2) := by decide +kernel
theorem d_MO_reach_53 : decode c_MO_reach 53 = .ok (.sipush 256, 3) := by decide +kernel
theorem d_MO_reach_56 : decode c_MO_reach 56 = .ok (.if_icmp .ge 137, 3) := by decide +kernel
theorem d_MO_reach_59 : decode c_MO_reach 59 = .ok (.aload_n 0, 1) := by decide +kernel
theorem d_MO_reach_60 : decode c_MO_reach 60 = .ok (.getfield 7, 3) := by decide +kernel
theorem d_MO_reach_63 : decode c_MO_reach 63 = .ok (.iload 4, 2) := by decide +kernel
theorem d_MO_reach_65 : decode c_MO_reach 65 = .ok (.iaload, 1) := by decide +kernel
theorem d_MO_reach_66 : decode c_MO_reach 66 = .ok (.istore 5, 2) := by decide +kernel
theorem d_MO_reach_68 : decode c_MO_reach 68 = .ok (.aload_n 0, 1) := by decide +kernel
theorem d_MO_reach_69 : decode c_MO_reach 69 = .ok (.getfield 13, 3) := by decide +kernel
theorem d_MO_reach_72 : decode c_MO_reach 72 = .ok (.iload 4, 2) := by decide +kernel
theorem d_MO_reach_74 : decode c_MO_reach 74 = .ok (.baload, 1) := by decide +kernel
theorem d_MO_reach_75 : decode c_MO_reach 75 = .ok (.ifCond .eq 14, 3) := by decide +kernel
theorem d_MO_reach_78 : decode c_MO_reach 78 = .ok (.iload 5, 2) := by decide +kernel
theorem d_MO_reach_80 : decode c_MO_reach 80 = .ok (.bipush 32, 2) := by decide +kernel
theorem d_MO_reach_82 : decode c_MO_reach 82 = .ok (.if_icmp .ge 7, 3) := by decide +kernel
theorem d_MO_reach_85 : decode c_MO_reach 85 = .ok (.iconst 1, 1) := by decide +kernel
theorem d_MO_reach_86 : decode c_MO_reach 86 = .ok (.goto 4, 3) := by decide +kernel
theorem d_MO_reach_89 : decode c_MO_reach 89 = .ok (.iconst 0, 1) := by decide +kernel
theorem d_MO_reach_90 : decode c_MO_reach 90 = .ok (.istore 6, 2) := by decide +kernel
theorem d_MO_reach_92 : decode c_MO_reach 92 = .ok (.iload 4, 2) := by decide +kernel
theorem d_MO_reach_94 : decode c_MO_reach 94 = .ok (.iload 5, 2) := by decide +kernel
theorem d_MO_reach_96 : decode c_MO_reach 96 = .ok (.invokestatic 61, 3) := by decide +kernel
theorem d_MO_reach_99 : decode c_MO_reach 99 = .ok (.iadd, 1) := by decide +kernel
theorem d_MO_reach_100 : decode c_MO_reach 100 = .ok (.sipush 255, 3) := by decide +kernel
theorem d_MO_reach_103 : decode c_MO_reach 103 = .ok (.iand, 1) := by decide +kernel
theorem d_MO_reach_104 : decode c_MO_reach 104 = .ok (.istore 7, 2) := by decide +kernel
theorem d_MO_reach_106 : decode c_MO_reach 106 = .ok (.aload_n 0, 1) := by decide +kernel
theorem d_MO_reach_107 : decode c_MO_reach 107 = .ok (.getfield 7, 3) := by decide +kernel
theorem d_MO_reach_110 : decode c_MO_reach 110 = .ok (.iload 4, 2) := by decide +kernel
theorem d_MO_reach_112 : decode c_MO_reach 112 = .ok (.iconst 1, 1) := by decide +kernel
theorem d_MO_reach_113 : decode c_MO_reach 113 = .ok (.iadd, 1) := by decide +kernel
theorem d_MO_reach_114 : decode c_MO_reach 114 = .ok (.sipush 255, 3) := by decide +kernel
theorem d_MO_reach_117 : decode c_MO_reach 117 = .ok (.iand, 1) := by decide +kernel
theorem d_MO_reach_118 : decode c_MO_reach 118 = .ok (.iaload, 1) := by decide +kernel
theorem d_MO_reach_119 : decode c_MO_reach 119 = .ok (.istore 8, 2) := by decide +kernel
theorem d_MO_reach_121 : decode c_MO_reach 121 = .ok (.iload 6, 2) := by decide +kernel
theorem d_MO_reach_123 : decode c_MO_reach 123 = .ok (.ifCond .eq 31, 3) := by decide +kernel
theorem d_MO_reach_126 : decode c_MO_reach 126 = .ok (.iload 5, 2) := by decide +kernel
theorem d_MO_reach_128 : decode c_MO_reach 128 = .ok (.invokestatic 65, 3) := by decide +kernel
theorem d_MO_reach_131 : decode c_MO_reach 131 = .ok (.ifCond .eq 23, 3) := by decide +kernel
theorem d_MO_reach_134 : decode c_MO_reach 134 = .ok (.aload_n 0, 1) := by decide +kernel
theorem d_MO_reach_135 : decode c_MO_reach 135 = .ok (.getfield 13, 3) := by decide +kernel
theorem d_MO_reach_138 : decode c_MO_reach 138 = .ok (.iload 7, 2) := by decide +kernel
theorem d_MO_reach_140 : decode c_MO_reach 140 = .ok (.baload, 1) := by decide +kernel
theorem d_MO_reach_141 : decode c_MO_reach 141 = .ok (.ifCond .ne 13, 3) := by decide +kernel
theorem d_MO_reach_144 : decode c_MO_reach 144 = .ok (.aload_n 0, 1) := by decide +kernel
theorem d_MO_reach_145 : decode c_MO_reach 145 = .ok (.getfield 13, 3) := by decide +kernel
theorem d_MO_reach_148 : decode c_MO_reach 148 = .ok (.iload 7, 2) := by decide +kernel
theorem d_MO_reach_150 : decode c_MO_reach 150 = .ok (.iconst 1, 1) := by decide +kernel
theorem d_MO_reach_151 : decode c_MO_reach 151 = .ok (.bastore, 1) := by decide +kernel
theorem d_MO_reach_152 : decode c_MO_reach 152 = .ok (.iconst 1, 1) := by decide +kernel
theorem d_MO_reach_153 : decode c_MO_reach 153 = .ok (.istore_n 2, 1) := by decide +kernel
theorem d_MO_reach_154 : decode c_MO_reach 154 = .ok (.iload 6, 2) := by decide +kernel
theorem d_MO_reach_156 : decode c_MO_reach 156 = .ok (.ifCond .eq 31, 3) := by decide +kernel
theorem d_MO_reach_159 : decode c_MO_reach 159 = .ok (.iload 5, 2) := by decide +kernel
theorem d_MO_reach_161 : decode c_MO_reach 161 = .ok (.invokestatic 68, 3) := by decide +kernel
theorem d_MO_reach_164 : decode c_MO_reach 164 = .ok (.ifCond .eq 23, 3) := by decide +kernel
theorem d_MO_reach_167 : decode c_MO_reach 167 = .ok (.aload_n 0, 1) := by decide +kernel
theorem d_MO_reach_168 : decode c_MO_reach 168 = .ok (.getfield 13, 3) := by decide +kernel
theorem d_MO_reach_171 : decode c_MO_reach 171 = .ok (.iload 8, 2) := by decide +kernel
theorem d_MO_reach_173 : decode c_MO_reach 173 = .ok (.baload, 1) := by decide +kernel
theorem d_MO_reach_174 : decode c_MO_reach 174 = .ok (.ifCond .ne 13, 3) := by decide +kernel
theorem d_MO_reach_177 : decode c_MO_reach 177 = .ok (.aload_n 0, 1) := by decide +kernel
theorem d_MO_reach_178 : decode c_MO_reach 178 = .ok (.getfield 13, 3) := by decide +kernel
theorem d_MO_reach_181 : decode c_MO_reach 181 = .ok (.iload 8, 2) := by decide +kernel
theorem d_MO_reach_183 : decode c_MO_reach 183 = .ok (.iconst 1, 1) := by decide +kernel
theorem d_MO_reach_184 : decode c_MO_reach 184 = .ok (.bastore, 1) := by decide +kernel
theorem d_MO_reach_185 : decode c_MO_reach 185 = .ok (.iconst 1, 1) := by decide +kernel
theorem d_MO_reach_186 : decode c_MO_reach 186 = .ok (.istore_n 2, 1) := by decide +kernel
theorem d_MO_reach_187 : decode c_MO_reach 187 = .ok (.iinc 4 1, 3) := by decide +kernel
theorem d_MO_reach_190 : decode c_MO_reach 190 = .ok (.goto (-139), 3) := by decide +kernel
theorem d_MO_reach_193 : decode c_MO_reach 193 = .ok (.iinc 3 1, 3) := by decide +kernel
theorem d_MO_reach_196 : decode c_MO_reach 196 = .ok (.goto (-161), 3) := by decide +kernel
theorem d_MO_reach_199 : decode c_MO_reach 199 = .ok (.return_, 1) := by decide +kernel
theorem d_MO_length_0 : decode c_MO_length 0 = .ok (.iload_n 0, 1) := by decide +kernel
theorem d_MO_length_1 : decode c_MO_length 1 = .ok (.iconst 2, 1) := by decide +kernel
theorem d_MO_length_2 : decode c_MO_length 2 = .ok (.if_icmp .lt 9, 3) := by decide +kernel
theorem d_MO_length_5 : decode c_MO_length 5 = .ok (.iload_n 0, 1) := by decide +kernel
theorem d_MO_length_6 : decode c_MO_length 6 = .ok (.bipush 7, 2) := by decide +kernel
theorem d_MO_length_8 : decode c_MO_length 8 = .ok (.if_icmp .le 27, 3) := by decide +kernel
theorem d_MO_length_11 : decode c_MO_length 11 = .ok (.iload_n 0, 1) := by decide +kernel
theorem d_MO_length_12 : decode c_MO_length 12 = .ok (.bipush 12, 2) := by decide +kernel
theorem d_MO_length_14 : decode c_MO_length 14 = .ok (.if_icmp .lt 9, 3) := by decide +kernel
theorem d_MO_length_17 : decode c_MO_length 17 = .ok (.iload_n 0, 1) := by decide +kernel
theorem d_MO_length_18 : decode c_MO_length 18 = .ok (.bipush 19, 2) := by decide +kernel
theorem d_MO_length_20 : decode c_MO_length 20 = .ok (.if_icmp .le 15, 3) := by decide +kernel
theorem d_MO_length_23 : decode c_MO_length 23 = .ok (.iload_n 0, 1) := by decide +kernel
theorem d_MO_length_24 : decode c_MO_length 24 = .ok (.bipush 22, 2) := by decide +kernel
theorem d_MO_length_26 : decode c_MO_length 26 = .ok (.if_icmp .lt 13, 3) := by decide +kernel
theorem d_MO_length_29 : decode c_MO_length 29 = .ok (.iload_n 0, 1) := by decide +kernel
theorem d_MO_length_30 : decode c_MO_length 30 = .ok (.bipush 27, 2) := by decide +kernel
theorem d_MO_length_32 : decode c_MO_length 32 = .ok (.if_icmp .gt 7, 3) := by decide +kernel
theorem d_MO_length_35 : decode c_MO_length 35 = .ok (.iconst 2, 1) := by decide +kernel
theorem d_MO_length_36 : decode c_MO_length 36 = .ok (.goto 4, 3) := by decide +kernel
theorem d_MO_length_39 : decode c_MO_length 39 = .ok (.iconst 1, 1) := by decide +kernel
theorem d_MO_length_40 : decode c_MO_length 40 = .ok (.ireturn, 1) := by decide +kernel
theorem d_MO_goesOn_0 : decode c_MO_goesOn 0 = .ok (.iload_n 0, 1) := by decide +kernel
theorem d_MO_goesOn_1 : decode c_MO_goesOn 1 = .ok (.iconst 1, 1) := by decide +kernel
theorem d_MO_goesOn_2 : decode c_MO_goesOn 2 = .ok (.if_icmp .eq 25, 3) := by decide +kernel
theorem d_MO_goesOn_5 : decode c_MO_goesOn 5 = .ok (.iload_n 0, 1) := by decide +kernel
theorem d_MO_goesOn_6 : decode c_MO_goesOn 6 = .ok (.bipush 22, 2) := by decide +kernel
theorem d_MO_goesOn_8 : decode c_MO_goesOn 8 = .ok (.if_icmp .eq 19, 3) := by decide +kernel
theorem d_MO_goesOn_11 : decode c_MO_goesOn 11 = .ok (.iload_n 0, 1) := by decide +kernel
theorem d_MO_goesOn_12 : decode c_MO_goesOn 12 = .ok (.bipush 28, 2) := by decide +kernel
theorem d_MO_goesOn_14 : decode c_MO_goesOn 14 = .ok (.if_icmp .eq 13, 3) := by decide +kernel
theorem d_MO_goesOn_17 : decode c_MO_goesOn 17 = .ok (.iload_n 0, 1) := by decide +kernel
theorem d_MO_goesOn_18 : decode c_MO_goesOn 18 = .ok (.bipush 31, 2) := by decide +kernel
theorem d_MO_goesOn_20 : decode c_MO_goesOn 20 = .ok (.if_icmp .eq 7, 3) := by decide +kernel
theorem d_MO_goesOn_23 : decode c_MO_goesOn 23 = .ok (.iconst 1, 1) := by decide +kernel
theorem d_MO_goesOn_24 : decode c_MO_goesOn 24 = .ok (.goto 4, 3) := by decide +kernel
theorem d_MO_goesOn_27 : decode c_MO_goesOn 27 = .ok (.iconst 0, 1) := by decide +kernel
theorem d_MO_goesOn_28 : decode c_MO_goesOn 28 = .ok (.ireturn, 1) := by decide +kernel
theorem d_MO_leads_0 : decode c_MO_leads 0 = .ok (.iload_n 0, 1) := by decide +kernel
theorem d_MO_leads_1 : decode c_MO_leads 1 = .ok (.bipush 22, 2) := by decide +kernel
theorem d_MO_leads_3 : decode c_MO_leads 3 = .ok (.if_icmp .lt 13, 3) := by decide +kernel
theorem d_MO_leads_6 : decode c_MO_leads 6 = .ok (.iload_n 0, 1) := by decide +kernel
theorem d_MO_leads_7 : decode c_MO_leads 7 = .ok (.bipush 27, 2) := by decide +kernel
theorem d_MO_leads_9 : decode c_MO_leads 9 = .ok (.if_icmp .gt 7, 3) := by decide +kernel
theorem d_MO_leads_12 : decode c_MO_leads 12 = .ok (.iconst 1, 1) := by decide +kernel
theorem d_MO_leads_13 : decode c_MO_leads 13 = .ok (.goto 4, 3) := by decide +kernel
theorem d_MO_leads_16 : decode c_MO_leads 16 = .ok (.iconst 0, 1) := by decide +kernel
theorem d_MO_leads_17 : decode c_MO_leads 17 = .ok (.ireturn, 1) := by decide +kernel
theorem d_MO_refusal_0 : decode c_MO_refusal 0 = .ok (.iconst 0, 1) := by decide +kernel
theorem d_MO_refusal_1 : decode c_MO_refusal 1 = .ok (.istore_n 1, 1) := by decide +kernel
theorem d_MO_refusal_2 : decode c_MO_refusal 2 = .ok (.iconst 3, 1) := by decide +kernel
theorem d_MO_refusal_3 : decode c_MO_refusal 3 = .ok (.istore_n 2, 1) := by decide +kernel
theorem d_MO_refusal_4 : decode c_MO_refusal 4 = .ok (.iload_n 2, 1) := by decide +kernel
theorem d_MO_refusal_5 : decode c_MO_refusal 5 = .ok (.ifCond .le 93, 3) := by decide +kernel
theorem d_MO_refusal_8 : decode c_MO_refusal 8 = .ok (.sipush 255, 3) := by decide +kernel
theorem d_MO_refusal_11 : decode c_MO_refusal 11 = .ok (.istore_n 3, 1) := by decide +kernel
theorem d_MO_refusal_12 : decode c_MO_refusal 12 = .ok (.iload_n 3, 1) := by decide +kernel
theorem d_MO_refusal_13 : decode c_MO_refusal 13 = .ok (.ifCond .lt 79, 3) := by decide +kernel
theorem d_MO_refusal_16 : decode c_MO_refusal 16 = .ok (.iload_n 2, 1) := by decide +kernel
theorem d_MO_refusal_17 : decode c_MO_refusal 17 = .ok (.iconst 1, 1) := by decide +kernel
theorem d_MO_refusal_18 : decode c_MO_refusal 18 = .ok (.if_icmp .ne 31, 3) := by decide +kernel
theorem d_MO_refusal_21 : decode c_MO_refusal 21 = .ok (.aload_n 0, 1) := by decide +kernel
theorem d_MO_refusal_22 : decode c_MO_refusal 22 = .ok (.getfield 13, 3) := by decide +kernel
theorem d_MO_refusal_25 : decode c_MO_refusal 25 = .ok (.iload_n 3, 1) := by decide +kernel
theorem d_MO_refusal_26 : decode c_MO_refusal 26 = .ok (.baload, 1) := by decide +kernel
theorem d_MO_refusal_27 : decode c_MO_refusal 27 = .ok (.ifCond .eq 18, 3) := by decide +kernel
theorem d_MO_refusal_30 : decode c_MO_refusal 30 = .ok (.aload_n 0, 1) := by decide +kernel
theorem d_MO_refusal_31 : decode c_MO_refusal 31 = .ok (.getfield 7, 3) := by decide +kernel
theorem d_MO_refusal_34 : decode c_MO_refusal 34 = .ok (.iload_n 3, 1) := by decide +kernel
theorem d_MO_refusal_35 : decode c_MO_refusal 35 = .ok (.iaload, 1) := by decide +kernel
theorem d_MO_refusal_36 : decode c_MO_refusal 36 = .ok (.bipush 31, 2) := by decide +kernel
theorem d_MO_refusal_38 : decode c_MO_refusal 38 = .ok (.if_icmp .le 7, 3) := by decide +kernel
theorem d_MO_refusal_41 : decode c_MO_refusal 41 = .ok (.iconst 1, 1) := by decide +kernel
theorem d_MO_refusal_42 : decode c_MO_refusal 42 = .ok (.goto 25, 3) := by decide +kernel
theorem d_MO_refusal_45 : decode c_MO_refusal 45 = .ok (.iconst 0, 1) := by decide +kernel
theorem d_MO_refusal_46 : decode c_MO_refusal 46 = .ok (.goto 21, 3) := by decide +kernel
theorem d_MO_refusal_49 : decode c_MO_refusal 49 = .ok (.iload_n 2, 1) := by decide +kernel
theorem d_MO_refusal_50 : decode c_MO_refusal 50 = .ok (.iconst 2, 1) := by decide +kernel
theorem d_MO_refusal_51 : decode c_MO_refusal 51 = .ok (.if_icmp .ne 11, 3) := by decide +kernel
theorem d_MO_refusal_54 : decode c_MO_refusal 54 = .ok (.aload_n 0, 1) := by decide +kernel
theorem d_MO_refusal_55 : decode c_MO_refusal 55 = .ok (.iload_n 3, 1) := by decide +kernel
theorem d_MO_refusal_56 : decode c_MO_refusal 56 = .ok (.invokevirtual 71, 3) := by decide +kernel
theorem d_MO_refusal_59 : decode c_MO_refusal 59 = .ok (.goto 8, 3) := by decide +kernel
theorem d_MO_refusal_62 : decode c_MO_refusal 62 = .ok (.aload_n 0, 1) := by decide +kernel
theorem d_MO_refusal_63 : decode c_MO_refusal 63 = .ok (.iload_n 3, 1) := by decide +kernel
theorem d_MO_refusal_64 : decode c_MO_refusal 64 = .ok (.invokevirtual 74, 3) := by decide +kernel
theorem d_MO_refusal_67 : decode c_MO_refusal 67 = .ok (.istore 4, 2) := by decide +kernel
theorem d_MO_refusal_69 : decode c_MO_refusal 69 = .ok (.iload 4, 2) := by decide +kernel
theorem d_MO_refusal_71 : decode c_MO_refusal 71 = .ok (.ifCond .eq 13, 3) := by decide +kernel
theorem d_MO_refusal_74 : decode c_MO_refusal 74 = .ok (.sipush (-1000), 3) := by decide +kernel
theorem d_MO_refusal_77 : decode c_MO_refusal 77 = .ok (.iload_n 2, 1) := by decide +kernel
theorem d_MO_refusal_78 : decode c_MO_refusal 78 = .ok (.imul, 1) := by decide +kernel
theorem d_MO_refusal_79 : decode c_MO_refusal 79 = .ok (.iload_n 3, 1) := by decide +kernel
theorem d_MO_refusal_80 : decode c_MO_refusal 80 = .ok (.isub, 1) := by decide +kernel
theorem d_MO_refusal_81 : decode c_MO_refusal 81 = .ok (.goto 4, 3) := by decide +kernel
theorem d_MO_refusal_84 : decode c_MO_refusal 84 = .ok (.iload_n 1, 1) := by decide +kernel
theorem d_MO_refusal_85 : decode c_MO_refusal 85 = .ok (.istore_n 1, 1) := by decide +kernel
theorem d_MO_refusal_86 : decode c_MO_refusal 86 = .ok (.iinc 3 (-1), 3) := by decide +kernel
theorem d_MO_refusal_89 : decode c_MO_refusal 89 = .ok (.goto (-77), 3) := by decide +kernel
theorem d_MO_refusal_92 : decode c_MO_refusal 92 = .ok (.iinc 2 (-1), 3) := by decide +kernel
theorem d_MO_refusal_95 : decode c_MO_refusal 95 = .ok (.goto (-91), 3) := by decide +kernel
theorem d_MO_refusal_98 : decode c_MO_refusal 98 = .ok (.iload_n 1, 1) := by decide +kernel
theorem d_MO_refusal_99 : decode c_MO_refusal 99 = .ok (.ireturn, 1) := by decide +kernel
theorem d_MO_isSecond_0 : decode c_MO_isSecond 0 = .ok (.iload_n 1, 1) := by decide +kernel
theorem d_MO_isSecond_1 : decode c_MO_isSecond 1 = .ok (.sipush 255, 3) := by decide +kernel
theorem d_MO_isSecond_4 : decode c_MO_isSecond 4 = .ok (.iadd, 1) := by decide +kernel
theorem d_MO_isSecond_5 : decode c_MO_isSecond 5 = .ok (.sipush 255, 3) := by decide +kernel
theorem d_MO_isSecond_8 : decode c_MO_isSecond 8 = .ok (.iand, 1) := by decide +kernel
theorem d_MO_isSecond_9 : decode c_MO_isSecond 9 = .ok (.istore_n 2, 1) := by decide +kernel
theorem d_MO_isSecond_10 : decode c_MO_isSecond 10 = .ok (.aload_n 0, 1) := by decide +kernel
theorem d_MO_isSecond_11 : decode c_MO_isSecond 11 = .ok (.getfield 13, 3) := by decide +kernel
theorem d_MO_isSecond_14 : decode c_MO_isSecond 14 = .ok (.iload_n 1, 1) := by decide +kernel
theorem d_MO_isSecond_15 : decode c_MO_isSecond 15 = .ok (.baload, 1) := by decide +kernel
theorem d_MO_isSecond_16 : decode c_MO_isSecond 16 = .ok (.ifCond .eq 40, 3) := by decide +kernel
theorem d_MO_isSecond_19 : decode c_MO_isSecond 19 = .ok (.aload_n 0, 1) := by decide +kernel
theorem d_MO_isSecond_20 : decode c_MO_isSecond 20 = .ok (.getfield 13, 3) := by decide +kernel
theorem d_MO_isSecond_23 : decode c_MO_isSecond 23 = .ok (.iload_n 2, 1) := by decide +kernel
theorem d_MO_isSecond_24 : decode c_MO_isSecond 24 = .ok (.baload, 1) := by decide +kernel
theorem d_MO_isSecond_25 : decode c_MO_isSecond 25 = .ok (.ifCond .eq 31, 3) := by decide +kernel
theorem d_MO_isSecond_28 : decode c_MO_isSecond 28 = .ok (.aload_n 0, 1) := by decide +kernel
theorem d_MO_isSecond_29 : decode c_MO_isSecond 29 = .ok (.getfield 7, 3) := by decide +kernel
theorem d_MO_isSecond_32 : decode c_MO_isSecond 32 = .ok (.iload_n 2, 1) := by decide +kernel
theorem d_MO_isSecond_33 : decode c_MO_isSecond 33 = .ok (.iaload, 1) := by decide +kernel
theorem d_MO_isSecond_34 : decode c_MO_isSecond 34 = .ok (.bipush 32, 2) := by decide +kernel
theorem d_MO_isSecond_36 : decode c_MO_isSecond 36 = .ok (.if_icmp .ge 20, 3) := by decide +kernel
theorem d_MO_isSecond_39 : decode c_MO_isSecond 39 = .ok (.aload_n 0, 1) := by decide +kernel
theorem d_MO_isSecond_40 : decode c_MO_isSecond 40 = .ok (.getfield 7, 3) := by decide +kernel
theorem d_MO_isSecond_43 : decode c_MO_isSecond 43 = .ok (.iload_n 2, 1) := by decide +kernel
theorem d_MO_isSecond_44 : decode c_MO_isSecond 44 = .ok (.iaload, 1) := by decide +kernel
theorem d_MO_isSecond_45 : decode c_MO_isSecond 45 = .ok (.invokestatic 61, 3) := by decide +kernel
theorem d_MO_isSecond_48 : decode c_MO_isSecond 48 = .ok (.iconst 2, 1) := by decide +kernel
theorem d_MO_isSecond_49 : decode c_MO_isSecond 49 = .ok (.if_icmp .ne 7, 3) := by decide +kernel
theorem d_MO_isSecond_52 : decode c_MO_isSecond 52 = .ok (.iconst 1, 1) := by decide +kernel
theorem d_MO_isSecond_53 : decode c_MO_isSecond 53 = .ok (.goto 4, 3) := by decide +kernel
theorem d_MO_isSecond_56 : decode c_MO_isSecond 56 = .ok (.iconst 0, 1) := by decide +kernel
theorem d_MO_isSecond_57 : decode c_MO_isSecond 57 = .ok (.ireturn, 1) := by decide +kernel
theorem d_MO_isLast_0 : decode c_MO_isLast 0 = .ok (.aload_n 0, 1) := by decide +kernel
theorem d_MO_isLast_1 : decode c_MO_isLast 1 = .ok (.getfield 7, 3) := by decide +kernel
theorem d_MO_isLast_4 : decode c_MO_isLast 4 = .ok (.iload_n 1, 1) := by decide +kernel
theorem d_MO_isLast_5 : decode c_MO_isLast 5 = .ok (.iaload, 1) := by decide +kernel
theorem d_MO_isLast_6 : decode c_MO_isLast 6 = .ok (.istore_n 2, 1) := by decide +kernel
theorem d_MO_isLast_7 : decode c_MO_isLast 7 = .ok (.iload_n 1, 1) := by decide +kernel
theorem d_MO_isLast_8 : decode c_MO_isLast 8 = .ok (.sipush 254, 3) := by decide +kernel
theorem d_MO_isLast_11 : decode c_MO_isLast 11 = .ok (.if_icmp .ne 31, 3) := by decide +kernel
theorem d_MO_isLast_14 : decode c_MO_isLast 14 = .ok (.iload_n 2, 1) := by decide +kernel
theorem d_MO_isLast_15 : decode c_MO_isLast 15 = .ok (.invokestatic 61, 3) := by decide +kernel
theorem d_MO_isLast_18 : decode c_MO_isLast 18 = .ok (.iconst 2, 1) := by decide +kernel
theorem d_MO_isLast_19 : decode c_MO_isLast 19 = .ok (.if_icmp .ne 19, 3) := by decide +kernel
theorem d_MO_isLast_22 : decode c_MO_isLast 22 = .ok (.iload_n 2, 1) := by decide +kernel
theorem d_MO_isLast_23 : decode c_MO_isLast 23 = .ok (.bipush 22, 2) := by decide +kernel
theorem d_MO_isLast_25 : decode c_MO_isLast 25 = .ok (.if_icmp .eq 13, 3) := by decide +kernel
theorem d_MO_isLast_28 : decode c_MO_isLast 28 = .ok (.iload_n 2, 1) := by decide +kernel
theorem d_MO_isLast_29 : decode c_MO_isLast 29 = .ok (.bipush 27, 2) := by decide +kernel
theorem d_MO_isLast_31 : decode c_MO_isLast 31 = .ok (.if_icmp .eq 7, 3) := by decide +kernel
theorem d_MO_isLast_34 : decode c_MO_isLast 34 = .ok (.iconst 1, 1) := by decide +kernel
theorem d_MO_isLast_35 : decode c_MO_isLast 35 = .ok (.goto 36, 3) := by decide +kernel
theorem d_MO_isLast_38 : decode c_MO_isLast 38 = .ok (.iconst 0, 1) := by decide +kernel
theorem d_MO_isLast_39 : decode c_MO_isLast 39 = .ok (.goto 32, 3) := by decide +kernel
theorem d_MO_isLast_42 : decode c_MO_isLast 42 = .ok (.iload_n 1, 1) := by decide +kernel
theorem d_MO_isLast_43 : decode c_MO_isLast 43 = .ok (.sipush 255, 3) := by decide +kernel
theorem d_MO_isLast_46 : decode c_MO_isLast 46 = .ok (.if_icmp .ne 24, 3) := by decide +kernel
theorem d_MO_isLast_49 : decode c_MO_isLast 49 = .ok (.iload_n 2, 1) := by decide +kernel
theorem d_MO_isLast_50 : decode c_MO_isLast 50 = .ok (.iconst 1, 1) := by decide +kernel
theorem d_MO_isLast_51 : decode c_MO_isLast 51 = .ok (.if_icmp .eq 19, 3) := by decide +kernel
theorem d_MO_isLast_54 : decode c_MO_isLast 54 = .ok (.iload_n 2, 1) := by decide +kernel
theorem d_MO_isLast_55 : decode c_MO_isLast 55 = .ok (.bipush 28, 2) := by decide +kernel
theorem d_MO_isLast_57 : decode c_MO_isLast 57 = .ok (.if_icmp .eq 13, 3) := by decide +kernel
theorem d_MO_isLast_60 : decode c_MO_isLast 60 = .ok (.iload_n 2, 1) := by decide +kernel
theorem d_MO_isLast_61 : decode c_MO_isLast 61 = .ok (.bipush 31, 2) := by decide +kernel
theorem d_MO_isLast_63 : decode c_MO_isLast 63 = .ok (.if_icmp .eq 7, 3) := by decide +kernel
theorem d_MO_isLast_66 : decode c_MO_isLast 66 = .ok (.iconst 1, 1) := by decide +kernel
theorem d_MO_isLast_67 : decode c_MO_isLast 67 = .ok (.goto 4, 3) := by decide +kernel
theorem d_MO_isLast_70 : decode c_MO_isLast 70 = .ok (.iconst 0, 1) := by decide +kernel
theorem d_MO_isLast_71 : decode c_MO_isLast 71 = .ok (.istore_n 3, 1) := by decide +kernel
theorem d_MO_isLast_72 : decode c_MO_isLast 72 = .ok (.aload_n 0, 1) := by decide +kernel
theorem d_MO_isLast_73 : decode c_MO_isLast 73 = .ok (.getfield 13, 3) := by decide +kernel
theorem d_MO_isLast_76 : decode c_MO_isLast 76 = .ok (.iload_n 1, 1) := by decide +kernel
theorem d_MO_isLast_77 : decode c_MO_isLast 77 = .ok (.baload, 1) := by decide +kernel
theorem d_MO_isLast_78 : decode c_MO_isLast 78 = .ok (.ifCond .eq 11, 3) := by decide +kernel
theorem d_MO_isLast_81 : decode c_MO_isLast 81 = .ok (.iload_n 3, 1) := by decide +kernel
theorem d_MO_isLast_82 : decode c_MO_isLast 82 = .ok (.ifCond .eq 7, 3) := by decide +kernel
theorem d_MO_isLast_85 : decode c_MO_isLast 85 = .ok (.iconst 1, 1) := by decide +kernel
theorem d_MO_isLast_86 : decode c_MO_isLast 86 = .ok (.goto 4, 3) := by decide +kernel
theorem d_MO_isLast_89 : decode c_MO_isLast 89 = .ok (.iconst 0, 1) := by decide +kernel
theorem d_MO_isLast_90 : decode c_MO_isLast 90 = .ok (.ireturn, 1) := by decide +kernel
theorem d_MO_instruction_0 : decode c_MO_instruction 0 = .ok (.aload_n 0, 1) := by decide +kernel
theorem d_MO_instruction_1 : decode c_MO_instruction 1 = .ok (.getfield 7, 3) := by decide +kernel
theorem d_MO_instruction_4 : decode c_MO_instruction 4 = .ok (.iload_n 1, 1) := by decide +kernel
theorem d_MO_instruction_5 : decode c_MO_instruction 5 = .ok (.iaload, 1) := by decide +kernel
theorem d_MO_instruction_6 : decode c_MO_instruction 6 = .ok (.istore_n 2, 1) := by decide +kernel
theorem d_MO_instruction_7 : decode c_MO_instruction 7 = .ok (.aload_n 0, 1) := by decide +kernel
theorem d_MO_instruction_8 : decode c_MO_instruction 8 = .ok (.getfield 7, 3) := by decide +kernel
theorem d_MO_instruction_11 : decode c_MO_instruction 11 = .ok (.iload_n 1, 1) := by decide +kernel
theorem d_MO_instruction_12 : decode c_MO_instruction 12 = .ok (.iconst 1, 1) := by decide +kernel
theorem d_MO_instruction_13 : decode c_MO_instruction 13 = .ok (.iadd, 1) := by decide +kernel
theorem d_MO_instruction_14 : decode c_MO_instruction 14 = .ok (.sipush 255, 3) := by decide +kernel
theorem d_MO_instruction_17 : decode c_MO_instruction 17 = .ok (.iand, 1) := by decide +kernel
theorem d_MO_instruction_18 : decode c_MO_instruction 18 = .ok (.iaload, 1) := by decide +kernel
theorem d_MO_instruction_19 : decode c_MO_instruction 19 = .ok (.istore_n 3, 1) := by decide +kernel
theorem d_MO_instruction_20 : decode c_MO_instruction 20 = .ok (.iload_n 2, 1) := by decide +kernel
theorem d_MO_instruction_21 : decode c_MO_instruction 21 = .ok (.tableswitch 429 2 31 #[135, 145, 155, 166, 176, 187, 197, 207, 217, 226, 235, 246, 257, 268, 279, 290, 301, 312, 323, 334, 429, 429, 429, 429, 429, 345, 377, 396, 407, 418], 135) := by decide +kernel
theorem d_MO_instruction_156 : decode c_MO_instruction 156 = .ok (.aload_n 0, 1) := by decide +kernel
theorem d_MO_instruction_157 : decode c_MO_instruction 157 = .ok (.iconst 2, 1) := by decide +kernel
theorem d_MO_instruction_158 : decode c_MO_instruction 158 = .ok (.iconst 0, 1) := by decide +kernel
theorem d_MO_instruction_159 : decode c_MO_instruction 159 = .ok (.iload_n 3, 1) := by decide +kernel
theorem d_MO_instruction_160 : decode c_MO_instruction 160 = .ok (.invokevirtual 84, 3) := by decide +kernel
theorem d_MO_instruction_163 : decode c_MO_instruction 163 = .ok (.goto 314, 3) := by decide +kernel
theorem d_MO_instruction_166 : decode c_MO_instruction 166 = .ok (.aload_n 0, 1) := by decide +kernel
theorem d_MO_instruction_167 : decode c_MO_instruction 167 = .ok (.iconst 4, 1) := by decide +kernel
theorem d_MO_instruction_168 : decode c_MO_instruction 168 = .ok (.iconst 0, 1) := by decide +kernel
theorem d_MO_instruction_169 : decode c_MO_instruction 169 = .ok (.iload_n 3, 1) := by decide +kernel
theorem d_MO_instruction_170 : decode c_MO_instruction 170 = .ok (.invokevirtual 84, 3) := by decide +kernel
theorem d_MO_instruction_173 : decode c_MO_instruction 173 = .ok (.goto 304, 3) := by decide +kernel
theorem d_MO_instruction_176 : decode c_MO_instruction 176 = .ok (.aload_n 0, 1) := by decide +kernel
theorem d_MO_instruction_177 : decode c_MO_instruction 177 = .ok (.bipush 6, 2) := by decide +kernel
theorem d_MO_instruction_179 : decode c_MO_instruction 179 = .ok (.iconst 0, 1) := by decide +kernel
theorem d_MO_instruction_180 : decode c_MO_instruction 180 = .ok (.iload_n 3, 1) := by decide +kernel
theorem d_MO_instruction_181 : decode c_MO_instruction 181 = .ok (.invokevirtual 84, 3) := by decide +kernel
theorem d_MO_instruction_184 : decode c_MO_instruction 184 = .ok (.goto 293, 3) := by decide +kernel
theorem d_MO_instruction_187 : decode c_MO_instruction 187 = .ok (.aload_n 0, 1) := by decide +kernel
theorem d_MO_instruction_188 : decode c_MO_instruction 188 = .ok (.iconst 5, 1) := by decide +kernel
theorem d_MO_instruction_189 : decode c_MO_instruction 189 = .ok (.iconst 0, 1) := by decide +kernel
theorem d_MO_instruction_190 : decode c_MO_instruction 190 = .ok (.iload_n 3, 1) := by decide +kernel
theorem d_MO_instruction_191 : decode c_MO_instruction 191 = .ok (.invokevirtual 80, 3) := by decide +kernel
theorem d_MO_instruction_194 : decode c_MO_instruction 194 = .ok (.goto 283, 3) := by decide +kernel
theorem d_MO_instruction_197 : decode c_MO_instruction 197 = .ok (.aload_n 0, 1) := by decide +kernel
theorem d_MO_instruction_198 : decode c_MO_instruction 198 = .ok (.bipush 7, 2) := by decide +kernel
theorem d_MO_instruction_200 : decode c_MO_instruction 200 = .ok (.iconst 0, 1) := by decide +kernel
theorem d_MO_instruction_201 : decode c_MO_instruction 201 = .ok (.iload_n 3, 1) := by decide +kernel
theorem d_MO_instruction_202 : decode c_MO_instruction 202 = .ok (.invokevirtual 80, 3) := by decide +kernel
theorem d_MO_instruction_205 : decode c_MO_instruction 205 = .ok (.goto 272, 3) := by decide +kernel
theorem d_MO_instruction_208 : decode c_MO_instruction 208 = .ok (.aload_n 0, 1) := by decide +kernel
theorem d_MO_instruction_209 : decode c_MO_instruction 209 = .ok (.iconst 2, 1) := by decide +kernel
theorem d_MO_instruction_210 : decode c_MO_instruction 210 = .ok (.iconst 1, 1) := by decide +kernel
theorem d_MO_instruction_211 : decode c_MO_instruction 211 = .ok (.iload_n 3, 1) := by decide +kernel
theorem d_MO_instruction_212 : decode c_MO_instruction 212 = .ok (.invokevirtual 80, 3) := by decide +kernel
theorem d_MO_instruction_215 : decode c_MO_instruction 215 = .ok (.goto 262, 3) := by decide +kernel
theorem d_MO_instruction_218 : decode c_MO_instruction 218 = .ok (.aload_n 0, 1) := by decide +kernel
theorem d_MO_instruction_219 : decode c_MO_instruction 219 = .ok (.iconst 3, 1) := by decide +kernel
theorem d_MO_instruction_220 : decode c_MO_instruction 220 = .ok (.iconst 1, 1) := by decide +kernel
theorem d_MO_instruction_221 : decode c_MO_instruction 221 = .ok (.iconst 0, 1) := by decide +kernel
theorem d_MO_instruction_222 : decode c_MO_instruction 222 = .ok (.invokevirtual 80, 3) := by decide +kernel
theorem d_MO_instruction_225 : decode c_MO_instruction 225 = .ok (.goto 252, 3) := by decide +kernel
theorem d_MO_instruction_228 : decode c_MO_instruction 228 = .ok (.aload_n 0, 1) := by decide +kernel
theorem d_MO_instruction_229 : decode c_MO_instruction 229 = .ok (.iconst 3, 1) := by decide +kernel
theorem d_MO_instruction_230 : decode c_MO_instruction 230 = .ok (.iconst 0, 1) := by decide +kernel
theorem d_MO_instruction_231 : decode c_MO_instruction 231 = .ok (.iconst 1, 1) := by decide +kernel
theorem d_MO_instruction_232 : decode c_MO_instruction 232 = .ok (.invokevirtual 84, 3) := by decide +kernel
theorem d_MO_instruction_235 : decode c_MO_instruction 235 = .ok (.goto 242, 3) := by decide +kernel
theorem d_MO_instruction_238 : decode c_MO_instruction 238 = .ok (.aload_n 0, 1) := by decide +kernel
theorem d_MO_instruction_239 : decode c_MO_instruction 239 = .ok (.bipush 9, 2) := by decide +kernel
theorem d_MO_instruction_241 : decode c_MO_instruction 241 = .ok (.invokevirtual 87, 3) := by decide +kernel
theorem d_MO_instruction_244 : decode c_MO_instruction 244 = .ok (.goto 233, 3) := by decide +kernel
theorem d_MO_instruction_247 : decode c_MO_instruction 247 = .ok (.aload_n 0, 1) := by decide +kernel
theorem d_MO_instruction_248 : decode c_MO_instruction 248 = .ok (.bipush 11, 2) := by decide +kernel
theorem d_MO_instruction_250 : decode c_MO_instruction 250 = .ok (.invokevirtual 87, 3) := by decide +kernel
theorem d_MO_instruction_253 : decode c_MO_instruction 253 = .ok (.goto 224, 3) := by decide +kernel
theorem d_MO_instruction_256 : decode c_MO_instruction 256 = .ok (.aload_n 0, 1) := by decide +kernel
theorem d_MO_instruction_257 : decode c_MO_instruction 257 = .ok (.iconst 2, 1) := by decide +kernel
theorem d_MO_instruction_258 : decode c_MO_instruction 258 = .ok (.iload_n 3, 1) := by decide +kernel
theorem d_MO_instruction_259 : decode c_MO_instruction 259 = .ok (.bipush 9, 2) := by decide +kernel
theorem d_MO_instruction_261 : decode c_MO_instruction 261 = .ok (.invokevirtual 91, 3) := by decide +kernel
theorem d_MO_instruction_264 : decode c_MO_instruction 264 = .ok (.goto 213, 3) := by decide +kernel
theorem d_MO_instruction_267 : decode c_MO_instruction 267 = .ok (.aload_n 0, 1) := by decide +kernel
theorem d_MO_instruction_268 : decode c_MO_instruction 268 = .ok (.iconst 4, 1) := by decide +kernel
theorem d_MO_instruction_269 : decode c_MO_instruction 269 = .ok (.iload_n 3, 1) := by decide +kernel
theorem d_MO_instruction_270 : decode c_MO_instruction 270 = .ok (.bipush 9, 2) := by decide +kernel
theorem d_MO_instruction_272 : decode c_MO_instruction 272 = .ok (.invokevirtual 91, 3) := by decide +kernel
theorem d_MO_instruction_275 : decode c_MO_instruction 275 = .ok (.goto 202, 3) := by decide +kernel
theorem d_MO_instruction_278 : decode c_MO_instruction 278 = .ok (.aload_n 0, 1) := by decide +kernel
theorem d_MO_instruction_279 : decode c_MO_instruction 279 = .ok (.iconst 4, 1) := by decide +kernel
theorem d_MO_instruction_280 : decode c_MO_instruction 280 = .ok (.iload_n 3, 1) := by decide +kernel
theorem d_MO_instruction_281 : decode c_MO_instruction 281 = .ok (.bipush 10, 2) := by decide +kernel
theorem d_MO_instruction_283 : decode c_MO_instruction 283 = .ok (.invokevirtual 91, 3) := by decide +kernel
theorem d_MO_instruction_286 : decode c_MO_instruction 286 = .ok (.goto 191, 3) := by decide +kernel
theorem d_MO_instruction_289 : decode c_MO_instruction 289 = .ok (.aload_n 0, 1) := by decide +kernel
theorem d_MO_instruction_290 : decode c_MO_instruction 290 = .ok (.iconst 2, 1) := by decide +kernel
theorem d_MO_instruction_291 : decode c_MO_instruction 291 = .ok (.iload_n 3, 1) := by decide +kernel
theorem d_MO_instruction_292 : decode c_MO_instruction 292 = .ok (.bipush 11, 2) := by decide +kernel
theorem d_MO_instruction_294 : decode c_MO_instruction 294 = .ok (.invokevirtual 91, 3) := by decide +kernel
theorem d_MO_instruction_297 : decode c_MO_instruction 297 = .ok (.goto 180, 3) := by decide +kernel
theorem d_MO_instruction_300 : decode c_MO_instruction 300 = .ok (.aload_n 0, 1) := by decide +kernel
theorem d_MO_instruction_301 : decode c_MO_instruction 301 = .ok (.iconst 4, 1) := by decide +kernel
theorem d_MO_instruction_302 : decode c_MO_instruction 302 = .ok (.iload_n 3, 1) := by decide +kernel
theorem d_MO_instruction_303 : decode c_MO_instruction 303 = .ok (.bipush 11, 2) := by decide +kernel
theorem d_MO_instruction_305 : decode c_MO_instruction 305 = .ok (.invokevirtual 91, 3) := by decide +kernel
theorem d_MO_instruction_308 : decode c_MO_instruction 308 = .ok (.goto 169, 3) := by decide +kernel
theorem d_MO_instruction_311 : decode c_MO_instruction 311 = .ok (.aload_n 0, 1) := by decide +kernel
theorem d_MO_instruction_312 : decode c_MO_instruction 312 = .ok (.iconst 2, 1) := by decide +kernel
theorem d_MO_instruction_313 : decode c_MO_instruction 313 = .ok (.iload_n 3, 1) := by decide +kernel
theorem d_MO_instruction_314 : decode c_MO_instruction 314 = .ok (.bipush 12, 2) := by decide +kernel
theorem d_MO_instruction_316 : decode c_MO_instruction 316 = .ok (.invokevirtual 91, 3) := by decide +kernel
theorem d_MO_instruction_319 : decode c_MO_instruction 319 = .ok (.goto 158, 3) := by decide +kernel
theorem d_MO_instruction_322 : decode c_MO_instruction 322 = .ok (.aload_n 0, 1) := by decide +kernel
theorem d_MO_instruction_323 : decode c_MO_instruction 323 = .ok (.iconst 2, 1) := by decide +kernel
theorem d_MO_instruction_324 : decode c_MO_instruction 324 = .ok (.iload_n 3, 1) := by decide +kernel
theorem d_MO_instruction_325 : decode c_MO_instruction 325 = .ok (.bipush 13, 2) := by decide +kernel
theorem d_MO_instruction_327 : decode c_MO_instruction 327 = .ok (.invokevirtual 91, 3) := by decide +kernel
theorem d_MO_instruction_330 : decode c_MO_instruction 330 = .ok (.goto 147, 3) := by decide +kernel
theorem d_MO_instruction_333 : decode c_MO_instruction 333 = .ok (.aload_n 0, 1) := by decide +kernel
theorem d_MO_instruction_334 : decode c_MO_instruction 334 = .ok (.iconst 2, 1) := by decide +kernel
theorem d_MO_instruction_335 : decode c_MO_instruction 335 = .ok (.iload_n 3, 1) := by decide +kernel
theorem d_MO_instruction_336 : decode c_MO_instruction 336 = .ok (.bipush 14, 2) := by decide +kernel
theorem d_MO_instruction_338 : decode c_MO_instruction 338 = .ok (.invokevirtual 91, 3) := by decide +kernel
theorem d_MO_instruction_341 : decode c_MO_instruction 341 = .ok (.goto 136, 3) := by decide +kernel
theorem d_MO_instruction_344 : decode c_MO_instruction 344 = .ok (.aload_n 0, 1) := by decide +kernel
theorem d_MO_instruction_345 : decode c_MO_instruction 345 = .ok (.bipush 15, 2) := by decide +kernel
theorem d_MO_instruction_347 : decode c_MO_instruction 347 = .ok (.iconst 0, 1) := by decide +kernel
theorem d_MO_instruction_348 : decode c_MO_instruction 348 = .ok (.iconst 0, 1) := by decide +kernel
theorem d_MO_instruction_349 : decode c_MO_instruction 349 = .ok (.invokevirtual 80, 3) := by decide +kernel
theorem d_MO_instruction_352 : decode c_MO_instruction 352 = .ok (.goto 125, 3) := by decide +kernel
theorem d_MO_instruction_355 : decode c_MO_instruction 355 = .ok (.aload_n 0, 1) := by decide +kernel
theorem d_MO_instruction_356 : decode c_MO_instruction 356 = .ok (.bipush 16, 2) := by decide +kernel
theorem d_MO_instruction_358 : decode c_MO_instruction 358 = .ok (.iconst 0, 1) := by decide +kernel
theorem d_MO_instruction_359 : decode c_MO_instruction 359 = .ok (.iconst 0, 1) := by decide +kernel
theorem d_MO_instruction_360 : decode c_MO_instruction 360 = .ok (.invokevirtual 80, 3) := by decide +kernel
theorem d_MO_instruction_363 : decode c_MO_instruction 363 = .ok (.goto 114, 3) := by decide +kernel
theorem d_MO_instruction_366 : decode c_MO_instruction 366 = .ok (.aload_n 0, 1) := by decide +kernel
theorem d_MO_instruction_367 : decode c_MO_instruction 367 = .ok (.iconst 2, 1) := by decide +kernel
theorem d_MO_instruction_368 : decode c_MO_instruction 368 = .ok (.iconst 2, 1) := by decide +kernel
theorem d_MO_instruction_369 : decode c_MO_instruction 369 = .ok (.iload_n 1, 1) := by decide +kernel
theorem d_MO_instruction_370 : decode c_MO_instruction 370 = .ok (.iconst 2, 1) := by decide +kernel
theorem d_MO_instruction_371 : decode c_MO_instruction 371 = .ok (.iadd, 1) := by decide +kernel
theorem d_MO_instruction_372 : decode c_MO_instruction 372 = .ok (.sipush 255, 3) := by decide +kernel
theorem d_MO_instruction_375 : decode c_MO_instruction 375 = .ok (.iand, 1) := by decide +kernel
theorem d_MO_instruction_376 : decode c_MO_instruction 376 = .ok (.invokevirtual 80, 3) := by decide +kernel
theorem d_MO_instruction_379 : decode c_MO_instruction 379 = .ok (.aload_n 0, 1) := by decide +kernel
theorem d_MO_instruction_380 : decode c_MO_instruction 380 = .ok (.bipush 24, 2) := by decide +kernel
theorem d_MO_instruction_382 : decode c_MO_instruction 382 = .ok (.iconst 2, 1) := by decide +kernel
theorem d_MO_instruction_383 : decode c_MO_instruction 383 = .ok (.iconst 0, 1) := by decide +kernel
theorem d_MO_instruction_384 : decode c_MO_instruction 384 = .ok (.invokevirtual 80, 3) := by decide +kernel
theorem d_MO_instruction_387 : decode c_MO_instruction 387 = .ok (.aload_n 0, 1) := by decide +kernel
theorem d_MO_instruction_388 : decode c_MO_instruction 388 = .ok (.bipush 19, 2) := by decide +kernel
theorem d_MO_instruction_390 : decode c_MO_instruction 390 = .ok (.iconst 0, 1) := by decide +kernel
theorem d_MO_instruction_391 : decode c_MO_instruction 391 = .ok (.iload_n 3, 1) := by decide +kernel
theorem d_MO_instruction_392 : decode c_MO_instruction 392 = .ok (.invokevirtual 80, 3) := by decide +kernel
theorem d_MO_instruction_395 : decode c_MO_instruction 395 = .ok (.goto 82, 3) := by decide +kernel
theorem d_MO_instruction_398 : decode c_MO_instruction 398 = .ok (.aload_n 0, 1) := by decide +kernel
