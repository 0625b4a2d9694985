theorem d_TM_init_0 : decode c_TM_init 0 = .ok (.aload_n 0, 1) := by decide +kernel
theorem d_TM_init_1 : decode c_TM_init 1 = .ok (.invokespecial 1, 3) := by decide +kernel
theorem d_TM_init_4 : decode c_TM_init 4 = .ok (.aload_n 0, 1) := by decide +kernel
theorem d_TM_init_5 : decode c_TM_init 5 = .ok (.new 7, 3) := by decide +kernel
theorem d_TM_init_8 : decode c_TM_init 8 = .ok (.dup, 1) := by decide +kernel
theorem d_TM_init_9 : decode c_TM_init 9 = .ok (.invokespecial 9, 3) := by decide +kernel
theorem d_TM_init_12 : decode c_TM_init 12 = .ok (.putfield 10, 3) := by decide +kernel
theorem d_TM_init_15 : decode c_TM_init 15 = .ok (.aload_n 0, 1) := by decide +kernel
theorem d_TM_init_16 : decode c_TM_init 16 = .ok (.aload_n 0, 1) := by decide +kernel
theorem d_TM_init_17 : decode c_TM_init 17 = .ok (.getfield 10, 3) := by decide +kernel
theorem d_TM_init_20 : decode c_TM_init 20 = .ok (.getfield 16, 3) := by decide +kernel
theorem d_TM_init_23 : decode c_TM_init 23 = .ok (.putfield 20, 3) := by decide +kernel
theorem d_TM_init_26 : decode c_TM_init 26 = .ok (.aload_n 0, 1) := by decide +kernel
theorem d_TM_init_27 : decode c_TM_init 27 = .ok (.new 21, 3) := by decide +kernel
theorem d_TM_init_30 : decode c_TM_init 30 = .ok (.dup, 1) := by decide +kernel
theorem d_TM_init_31 : decode c_TM_init 31 = .ok (.invokespecial 23, 3) := by decide +kernel
theorem d_TM_init_34 : decode c_TM_init 34 = .ok (.putfield 24, 3) := by decide +kernel
theorem d_TM_init_37 : decode c_TM_init 37 = .ok (.aload_n 0, 1) := by decide +kernel
theorem d_TM_init_38 : decode c_TM_init 38 = .ok (.new 28, 3) := by decide +kernel
theorem d_TM_init_41 : decode c_TM_init 41 = .ok (.dup, 1) := by decide +kernel
theorem d_TM_init_42 : decode c_TM_init 42 = .ok (.invokespecial 30, 3) := by decide +kernel
theorem d_TM_init_45 : decode c_TM_init 45 = .ok (.putfield 31, 3) := by decide +kernel
theorem d_TM_init_48 : decode c_TM_init 48 = .ok (.aload_n 0, 1) := by decide +kernel
theorem d_TM_init_49 : decode c_TM_init 49 = .ok (.aload_n 0, 1) := by decide +kernel
theorem d_TM_init_50 : decode c_TM_init 50 = .ok (.getfield 31, 3) := by decide +kernel
theorem d_TM_init_53 : decode c_TM_init 53 = .ok (.getfield 35, 3) := by decide +kernel
theorem d_TM_init_56 : decode c_TM_init 56 = .ok (.putfield 39, 3) := by decide +kernel
theorem d_TM_init_59 : decode c_TM_init 59 = .ok (.return_, 1) := by decide +kernel
theorem d_TM_alike_0 : decode c_TM_alike 0 = .ok (.aload_n 0, 1) := by decide +kernel
theorem d_TM_alike_1 : decode c_TM_alike 1 = .ok (.getfield 39, 3) := by decide +kernel
theorem d_TM_alike_4 : decode c_TM_alike 4 = .ok (.aload_n 0, 1) := by decide +kernel
theorem d_TM_alike_5 : decode c_TM_alike 5 = .ok (.getfield 24, 3) := by decide +kernel
theorem d_TM_alike_8 : decode c_TM_alike 8 = .ok (.getfield 83, 3) := by decide +kernel
theorem d_TM_alike_11 : decode c_TM_alike 11 = .ok (.invokevirtual 61, 3) := by decide +kernel
theorem d_TM_alike_14 : decode c_TM_alike 14 = .ok (.istore_n 1, 1) := by decide +kernel
theorem d_TM_alike_15 : decode c_TM_alike 15 = .ok (.iload_n 1, 1) := by decide +kernel
theorem d_TM_alike_16 : decode c_TM_alike 16 = .ok (.iconst (-1), 1) := by decide +kernel
theorem d_TM_alike_17 : decode c_TM_alike 17 = .ok (.if_icmp .eq 49, 3) := by decide +kernel
theorem d_TM_alike_20 : decode c_TM_alike 20 = .ok (.iload_n 1, 1) := by decide +kernel
theorem d_TM_alike_21 : decode c_TM_alike 21 = .ok (.aload_n 0, 1) := by decide +kernel
theorem d_TM_alike_22 : decode c_TM_alike 22 = .ok (.getfield 31, 3) := by decide +kernel
theorem d_TM_alike_25 : decode c_TM_alike 25 = .ok (.getfield 86, 3) := by decide +kernel
theorem d_TM_alike_28 : decode c_TM_alike 28 = .ok (.if_icmp .ne 38, 3) := by decide +kernel
theorem d_TM_alike_31 : decode c_TM_alike 31 = .ok (.aload_n 0, 1) := by decide +kernel
theorem d_TM_alike_32 : decode c_TM_alike 32 = .ok (.getfield 24, 3) := by decide +kernel
theorem d_TM_alike_35 : decode c_TM_alike 35 = .ok (.invokevirtual 87, 3) := by decide +kernel
theorem d_TM_alike_38 : decode c_TM_alike 38 = .ok (.aload_n 0, 1) := by decide +kernel
theorem d_TM_alike_39 : decode c_TM_alike 39 = .ok (.getfield 31, 3) := by decide +kernel
theorem d_TM_alike_42 : decode c_TM_alike 42 = .ok (.invokevirtual 91, 3) := by decide +kernel
theorem d_TM_alike_45 : decode c_TM_alike 45 = .ok (.if_icmp .ne 21, 3) := by decide +kernel
theorem d_TM_alike_48 : decode c_TM_alike 48 = .ok (.aload_n 0, 1) := by decide +kernel
theorem d_TM_alike_49 : decode c_TM_alike 49 = .ok (.getfield 24, 3) := by decide +kernel
theorem d_TM_alike_52 : decode c_TM_alike 52 = .ok (.aload_n 0, 1) := by decide +kernel
theorem d_TM_alike_53 : decode c_TM_alike 53 = .ok (.getfield 31, 3) := by decide +kernel
theorem d_TM_alike_56 : decode c_TM_alike 56 = .ok (.invokevirtual 92, 3) := by decide +kernel
theorem d_TM_alike_59 : decode c_TM_alike 59 = .ok (.ifCond .eq 7, 3) := by decide +kernel
theorem d_TM_alike_62 : decode c_TM_alike 62 = .ok (.iconst 1, 1) := by decide +kernel
theorem d_TM_alike_63 : decode c_TM_alike 63 = .ok (.goto 4, 3) := by decide +kernel
theorem d_TM_alike_66 : decode c_TM_alike 66 = .ok (.iconst 0, 1) := by decide +kernel
theorem d_TM_alike_67 : decode c_TM_alike 67 = .ok (.ireturn, 1) := by decide +kernel
theorem d_TM_isByte_0 : decode c_TM_isByte 0 = .ok (.iload_n 0, 1) := by decide +kernel
theorem d_TM_isByte_1 : decode c_TM_isByte 1 = .ok (.ifCond .lt 14, 3) := by decide +kernel
theorem d_TM_isByte_4 : decode c_TM_isByte 4 = .ok (.iload_n 0, 1) := by decide +kernel
theorem d_TM_isByte_5 : decode c_TM_isByte 5 = .ok (.sipush 255, 3) := by decide +kernel
theorem d_TM_isByte_8 : decode c_TM_isByte 8 = .ok (.if_icmp .gt 7, 3) := by decide +kernel
theorem d_TM_isByte_11 : decode c_TM_isByte 11 = .ok (.iconst 1, 1) := by decide +kernel
theorem d_TM_isByte_12 : decode c_TM_isByte 12 = .ok (.goto 4, 3) := by decide +kernel
theorem d_TM_isByte_15 : decode c_TM_isByte 15 = .ok (.iconst 0, 1) := by decide +kernel
theorem d_TM_isByte_16 : decode c_TM_isByte 16 = .ok (.ireturn, 1) := by decide +kernel
theorem d_TM_code_0 : decode c_TM_code 0 = .ok (.aload_n 0, 1) := by decide +kernel
theorem d_TM_code_1 : decode c_TM_code 1 = .ok (.getfield 39, 3) := by decide +kernel
theorem d_TM_code_4 : decode c_TM_code 4 = .ok (.iload_n 1, 1) := by decide +kernel
theorem d_TM_code_5 : decode c_TM_code 5 = .ok (.iload_n 2, 1) := by decide +kernel
theorem d_TM_code_6 : decode c_TM_code 6 = .ok (.invokevirtual 96, 3) := by decide +kernel
theorem d_TM_code_9 : decode c_TM_code 9 = .ok (.ireturn, 1) := by decide +kernel
theorem d_TM_mapped_0 : decode c_TM_mapped 0 = .ok (.aload_n 0, 1) := by decide +kernel
theorem d_TM_mapped_1 : decode c_TM_mapped 1 = .ok (.getfield 39, 3) := by decide +kernel
theorem d_TM_mapped_4 : decode c_TM_mapped 4 = .ok (.iload_n 1, 1) := by decide +kernel
theorem d_TM_mapped_5 : decode c_TM_mapped 5 = .ok (.invokevirtual 61, 3) := by decide +kernel
theorem d_TM_mapped_8 : decode c_TM_mapped 8 = .ok (.ireturn, 1) := by decide +kernel
theorem d_TM_look_0 : decode c_TM_look 0 = .ok (.aload_n 0, 1) := by decide +kernel
theorem d_TM_look_1 : decode c_TM_look 1 = .ok (.iload_n 1, 1) := by decide +kernel
theorem d_TM_look_2 : decode c_TM_look 2 = .ok (.invokevirtual 100, 3) := by decide +kernel
theorem d_TM_look_5 : decode c_TM_look 5 = .ok (.astore_n 3, 1) := by decide +kernel
theorem d_TM_look_6 : decode c_TM_look 6 = .ok (.aload_n 3, 1) := by decide +kernel
theorem d_TM_look_7 : decode c_TM_look 7 = .ok (.ifnonnull 7, 3) := by decide +kernel
theorem d_TM_look_10 : decode c_TM_look 10 = .ok (.iconst (-1), 1) := by decide +kernel
theorem d_TM_look_11 : decode c_TM_look 11 = .ok (.goto 8, 3) := by decide +kernel
theorem d_TM_look_14 : decode c_TM_look 14 = .ok (.aload_n 3, 1) := by decide +kernel
theorem d_TM_look_15 : decode c_TM_look 15 = .ok (.iload_n 2, 1) := by decide +kernel
theorem d_TM_look_16 : decode c_TM_look 16 = .ok (.invokevirtual 104, 3) := by decide +kernel
theorem d_TM_look_19 : decode c_TM_look 19 = .ok (.ireturn, 1) := by decide +kernel
theorem d_TM_machineOf_0 : decode c_TM_machineOf 0 = .ok (.iload_n 1, 1) := by decide +kernel
theorem d_TM_machineOf_1 : decode c_TM_machineOf 1 = .ok (.ifCond .ne 8, 3) := by decide +kernel
theorem d_TM_machineOf_4 : decode c_TM_machineOf 4 = .ok (.aload_n 0, 1) := by decide +kernel
theorem d_TM_machineOf_5 : decode c_TM_machineOf 5 = .ok (.getfield 24, 3) := by decide +kernel
theorem d_TM_machineOf_8 : decode c_TM_machineOf 8 = .ok (.areturn, 1) := by decide +kernel
theorem d_TM_machineOf_9 : decode c_TM_machineOf 9 = .ok (.iload_n 1, 1) := by decide +kernel
theorem d_TM_machineOf_10 : decode c_TM_machineOf 10 = .ok (.iconst 1, 1) := by decide +kernel
theorem d_TM_machineOf_11 : decode c_TM_machineOf 11 = .ok (.if_icmp .ne 10, 3) := by decide +kernel
theorem d_TM_machineOf_14 : decode c_TM_machineOf 14 = .ok (.aload_n 0, 1) := by decide +kernel
theorem d_TM_machineOf_15 : decode c_TM_machineOf 15 = .ok (.getfield 31, 3) := by decide +kernel
theorem d_TM_machineOf_18 : decode c_TM_machineOf 18 = .ok (.goto 4, 3) := by decide +kernel
theorem d_TM_machineOf_21 : decode c_TM_machineOf 21 = .ok (.aconst_null, 1) := by decide +kernel
theorem d_TM_machineOf_22 : decode c_TM_machineOf 22 = .ok (.areturn, 1) := by decide +kernel
theorem d_TM_bit_0 : decode c_TM_bit 0 = .ok (.iload_n 0, 1) := by decide +kernel
theorem d_TM_bit_1 : decode c_TM_bit 1 = .ok (.ifCond .eq 7, 3) := by decide +kernel
theorem d_TM_bit_4 : decode c_TM_bit 4 = .ok (.iconst 1, 1) := by decide +kernel
theorem d_TM_bit_5 : decode c_TM_bit 5 = .ok (.goto 4, 3) := by decide +kernel
theorem d_TM_bit_8 : decode c_TM_bit 8 = .ok (.iconst 0, 1) := by decide +kernel
theorem d_TM_bit_9 : decode c_TM_bit 9 = .ok (.ireturn, 1) := by decide +kernel
theorem d_TM_byteAt_0 : decode c_TM_byteAt 0 = .ok (.aload_n 0, 1) := by decide +kernel
theorem d_TM_byteAt_1 : decode c_TM_byteAt 1 = .ok (.iload_n 1, 1) := by decide +kernel
theorem d_TM_byteAt_2 : decode c_TM_byteAt 2 = .ok (.invokevirtual 100, 3) := by decide +kernel
theorem d_TM_byteAt_5 : decode c_TM_byteAt 5 = .ok (.astore_n 3, 1) := by decide +kernel
theorem d_TM_byteAt_6 : decode c_TM_byteAt 6 = .ok (.aload_n 3, 1) := by decide +kernel
theorem d_TM_byteAt_7 : decode c_TM_byteAt 7 = .ok (.ifnull 10, 3) := by decide +kernel
theorem d_TM_byteAt_10 : decode c_TM_byteAt 10 = .ok (.iload_n 2, 1) := by decide +kernel
theorem d_TM_byteAt_11 : decode c_TM_byteAt 11 = .ok (.invokestatic 109, 3) := by decide +kernel
theorem d_TM_byteAt_14 : decode c_TM_byteAt 14 = .ok (.ifCond .ne 7, 3) := by decide +kernel
theorem d_TM_byteAt_17 : decode c_TM_byteAt 17 = .ok (.iconst (-1), 1) := by decide +kernel
theorem d_TM_byteAt_18 : decode c_TM_byteAt 18 = .ok (.goto 8, 3) := by decide +kernel
theorem d_TM_byteAt_21 : decode c_TM_byteAt 21 = .ok (.aload_n 3, 1) := by decide +kernel
theorem d_TM_byteAt_22 : decode c_TM_byteAt 22 = .ok (.iload_n 2, 1) := by decide +kernel
theorem d_TM_byteAt_23 : decode c_TM_byteAt 23 = .ok (.invokevirtual 113, 3) := by decide +kernel
theorem d_TM_byteAt_26 : decode c_TM_byteAt 26 = .ok (.ireturn, 1) := by decide +kernel
theorem d_TM_image_0 : decode c_TM_image 0 = .ok (.iload_n 1, 1) := by decide +kernel
theorem d_TM_image_1 : decode c_TM_image 1 = .ok (.invokestatic 40, 3) := by decide +kernel
theorem d_TM_image_4 : decode c_TM_image 4 = .ok (.iload_n 2, 1) := by decide +kernel
theorem d_TM_image_5 : decode c_TM_image 5 = .ok (.invokestatic 40, 3) := by decide +kernel
theorem d_TM_image_8 : decode c_TM_image 8 = .ok (.aload_n 0, 1) := by decide +kernel
theorem d_TM_image_9 : decode c_TM_image 9 = .ok (.getfield 20, 3) := by decide +kernel
theorem d_TM_image_12 : decode c_TM_image 12 = .ok (.iload_n 1, 1) := by decide +kernel
theorem d_TM_image_13 : decode c_TM_image 13 = .ok (.iload_n 2, 1) := by decide +kernel
theorem d_TM_image_14 : decode c_TM_image 14 = .ok (.iastore, 1) := by decide +kernel
theorem d_TM_image_15 : decode c_TM_image 15 = .ok (.iconst 1, 1) := by decide +kernel
theorem d_TM_image_16 : decode c_TM_image 16 = .ok (.ireturn, 1) := by decide +kernel
theorem d_TM_checkByte_0 : decode c_TM_checkByte 0 = .ok (.iload_n 0, 1) := by decide +kernel
theorem d_TM_checkByte_1 : decode c_TM_checkByte 1 = .ok (.invokestatic 109, 3) := by decide +kernel
theorem d_TM_checkByte_4 : decode c_TM_checkByte 4 = .ok (.ifCond .ne 11, 3) := by decide +kernel
theorem d_TM_checkByte_7 : decode c_TM_checkByte 7 = .ok (.new 119, 3) := by decide +kernel
theorem d_TM_checkByte_10 : decode c_TM_checkByte 10 = .ok (.dup, 1) := by decide +kernel
theorem d_TM_checkByte_11 : decode c_TM_checkByte 11 = .ok (.invokespecial 121, 3) := by decide +kernel
theorem d_TM_checkByte_14 : decode c_TM_checkByte 14 = .ok (.athrow, 1) := by decide +kernel
theorem d_TM_checkByte_15 : decode c_TM_checkByte 15 = .ok (.return_, 1) := by decide +kernel
theorem d_TM_translate_0 : decode c_TM_translate 0 = .ok (.iload_n 1, 1) := by decide +kernel
theorem d_TM_translate_1 : decode c_TM_translate 1 = .ok (.invokestatic 40, 3) := by decide +kernel
theorem d_TM_translate_4 : decode c_TM_translate 4 = .ok (.aload_n 0, 1) := by decide +kernel
theorem d_TM_translate_5 : decode c_TM_translate 5 = .ok (.getfield 10, 3) := by decide +kernel
theorem d_TM_translate_8 : decode c_TM_translate 8 = .ok (.iload_n 1, 1) := by decide +kernel
theorem d_TM_translate_9 : decode c_TM_translate 9 = .ok (.invokevirtual 44, 3) := by decide +kernel
theorem d_TM_translate_12 : decode c_TM_translate 12 = .ok (.aload_n 0, 1) := by decide +kernel
theorem d_TM_translate_13 : decode c_TM_translate 13 = .ok (.getfield 10, 3) := by decide +kernel
theorem d_TM_translate_16 : decode c_TM_translate 16 = .ok (.invokevirtual 47, 3) := by decide +kernel
theorem d_TM_translate_19 : decode c_TM_translate 19 = .ok (.istore_n 2, 1) := by decide +kernel
theorem d_TM_translate_20 : decode c_TM_translate 20 = .ok (.iload_n 2, 1) := by decide +kernel
theorem d_TM_translate_21 : decode c_TM_translate 21 = .ok (.ifCond .eq 5, 3) := by decide +kernel
theorem d_TM_translate_24 : decode c_TM_translate 24 = .ok (.iload_n 2, 1) := by decide +kernel
theorem d_TM_translate_25 : decode c_TM_translate 25 = .ok (.ireturn, 1) := by decide +kernel
theorem d_TM_translate_26 : decode c_TM_translate 26 = .ok (.aload_n 0, 1) := by decide +kernel
theorem d_TM_translate_27 : decode c_TM_translate 27 = .ok (.getfield 39, 3) := by decide +kernel
theorem d_TM_translate_30 : decode c_TM_translate 30 = .ok (.aload_n 0, 1) := by decide +kernel
theorem d_TM_translate_31 : decode c_TM_translate 31 = .ok (.getfield 10, 3) := by decide +kernel
theorem d_TM_translate_34 : decode c_TM_translate 34 = .ok (.aload_n 0, 1) := by decide +kernel
theorem d_TM_translate_35 : decode c_TM_translate 35 = .ok (.getfield 20, 3) := by decide +kernel
theorem d_TM_translate_38 : decode c_TM_translate 38 = .ok (.invokevirtual 51, 3) := by decide +kernel
theorem d_TM_translate_41 : decode c_TM_translate 41 = .ok (.aload_n 0, 1) := by decide +kernel
theorem d_TM_translate_42 : decode c_TM_translate 42 = .ok (.getfield 24, 3) := by decide +kernel
theorem d_TM_translate_45 : decode c_TM_translate 45 = .ok (.aload_n 0, 1) := by decide +kernel
theorem d_TM_translate_46 : decode c_TM_translate 46 = .ok (.getfield 20, 3) := by decide +kernel
theorem d_TM_translate_49 : decode c_TM_translate 49 = .ok (.iload_n 1, 1) := by decide +kernel
theorem d_TM_translate_50 : decode c_TM_translate 50 = .ok (.invokevirtual 57, 3) := by decide +kernel
theorem d_TM_translate_53 : decode c_TM_translate 53 = .ok (.aload_n 0, 1) := by decide +kernel
theorem d_TM_translate_54 : decode c_TM_translate 54 = .ok (.getfield 31, 3) := by decide +kernel
theorem d_TM_translate_57 : decode c_TM_translate 57 = .ok (.aload_n 0, 1) := by decide +kernel
theorem d_TM_translate_58 : decode c_TM_translate 58 = .ok (.getfield 20, 3) := by decide +kernel
theorem d_TM_translate_61 : decode c_TM_translate 61 = .ok (.aload_n 0, 1) := by decide +kernel
theorem d_TM_translate_62 : decode c_TM_translate 62 = .ok (.getfield 39, 3) := by decide +kernel
theorem d_TM_translate_65 : decode c_TM_translate 65 = .ok (.iload_n 1, 1) := by decide +kernel
theorem d_TM_translate_66 : decode c_TM_translate 66 = .ok (.invokevirtual 61, 3) := by decide +kernel
theorem d_TM_translate_69 : decode c_TM_translate 69 = .ok (.invokevirtual 65, 3) := by decide +kernel
theorem d_TM_translate_72 : decode c_TM_translate 72 = .ok (.aload_n 0, 1) := by decide +kernel
theorem d_TM_translate_73 : decode c_TM_translate 73 = .ok (.getfield 39, 3) := by decide +kernel
theorem d_TM_translate_76 : decode c_TM_translate 76 = .ok (.getfield 66, 3) := by decide +kernel
theorem d_TM_translate_79 : decode c_TM_translate 79 = .ok (.ireturn, 1) := by decide +kernel
theorem d_TM_first_0 : decode c_TM_first 0 = .ok (.iload_n 1, 1) := by decide +kernel
theorem d_TM_first_1 : decode c_TM_first 1 = .ok (.invokestatic 70, 3) := by decide +kernel
theorem d_TM_first_4 : decode c_TM_first 4 = .ok (.aload_n 0, 1) := by decide +kernel
theorem d_TM_first_5 : decode c_TM_first 5 = .ok (.invokevirtual 73, 3) := by decide +kernel
theorem d_TM_first_8 : decode c_TM_first 8 = .ok (.aload_n 0, 1) := by decide +kernel
theorem d_TM_first_9 : decode c_TM_first 9 = .ok (.getfield 24, 3) := by decide +kernel
theorem d_TM_first_12 : decode c_TM_first 12 = .ok (.iload_n 1, 1) := by decide +kernel
theorem d_TM_first_13 : decode c_TM_first 13 = .ok (.invokevirtual 76, 3) := by decide +kernel
theorem d_TM_first_16 : decode c_TM_first 16 = .ok (.ireturn, 1) := by decide +kernel
theorem d_TM_checkSteps_0 : decode c_TM_checkSteps 0 = .ok (.iload_n 0, 1) := by decide +kernel
theorem d_TM_checkSteps_1 : decode c_TM_checkSteps 1 = .ok (.iconst 1, 1) := by decide +kernel
theorem d_TM_checkSteps_2 : decode c_TM_checkSteps 2 = .ok (.if_icmp .lt 10, 3) := by decide +kernel
theorem d_TM_checkSteps_5 : decode c_TM_checkSteps 5 = .ok (.iload_n 0, 1) := by decide +kernel
theorem d_TM_checkSteps_6 : decode c_TM_checkSteps 6 = .ok (.sipush 300, 3) := by decide +kernel
theorem d_TM_checkSteps_9 : decode c_TM_checkSteps 9 = .ok (.if_icmp .le 11, 3) := by decide +kernel
theorem d_TM_checkSteps_12 : decode c_TM_checkSteps 12 = .ok (.new 119, 3) := by decide +kernel
theorem d_TM_checkSteps_15 : decode c_TM_checkSteps 15 = .ok (.dup, 1) := by decide +kernel
theorem d_TM_checkSteps_16 : decode c_TM_checkSteps 16 = .ok (.invokespecial 121, 3) := by decide +kernel
theorem d_TM_checkSteps_19 : decode c_TM_checkSteps 19 = .ok (.athrow, 1) := by decide +kernel
theorem d_TM_checkSteps_20 : decode c_TM_checkSteps 20 = .ok (.return_, 1) := by decide +kernel
theorem d_TM_checkTranslated_0 : decode c_TM_checkTranslated 0 = .ok (.aload_n 0, 1) := by decide +kernel
theorem d_TM_checkTranslated_1 : decode c_TM_checkTranslated 1 = .ok (.getfield 39, 3) := by decide +kernel
theorem d_TM_checkTranslated_4 : decode c_TM_checkTranslated 4 = .ok (.getfield 66, 3) := by decide +kernel
theorem d_TM_checkTranslated_7 : decode c_TM_checkTranslated 7 = .ok (.ifCond .ne 11, 3) := by decide +kernel
theorem d_TM_checkTranslated_10 : decode c_TM_checkTranslated 10 = .ok (.new 116, 3) := by decide +kernel
theorem d_TM_checkTranslated_13 : decode c_TM_checkTranslated 13 = .ok (.dup, 1) := by decide +kernel
theorem d_TM_checkTranslated_14 : decode c_TM_checkTranslated 14 = .ok (.invokespecial 118, 3) := by decide +kernel
theorem d_TM_checkTranslated_17 : decode c_TM_checkTranslated 17 = .ok (.athrow, 1) := by decide +kernel
theorem d_TM_checkTranslated_18 : decode c_TM_checkTranslated 18 = .ok (.return_, 1) := by decide +kernel
theorem d_TM_second_0 : decode c_TM_second 0 = .ok (.iload_n 1, 1) := by decide +kernel
theorem d_TM_second_1 : decode c_TM_second 1 = .ok (.invokestatic 70, 3) := by decide +kernel
theorem d_TM_second_4 : decode c_TM_second 4 = .ok (.aload_n 0, 1) := by decide +kernel
theorem d_TM_second_5 : decode c_TM_second 5 = .ok (.invokevirtual 73, 3) := by decide +kernel
theorem d_TM_second_8 : decode c_TM_second 8 = .ok (.aload_n 0, 1) := by decide +kernel
theorem d_TM_second_9 : decode c_TM_second 9 = .ok (.getfield 31, 3) := by decide +kernel
theorem d_TM_second_12 : decode c_TM_second 12 = .ok (.iload_n 1, 1) := by decide +kernel
theorem d_TM_second_13 : decode c_TM_second 13 = .ok (.invokevirtual 79, 3) := by decide +kernel
theorem d_TM_second_16 : decode c_TM_second 16 = .ok (.ireturn, 1) := by decide +kernel
theorem d_TM_boundary_0 : decode c_TM_boundary 0 = .ok (.aload_n 0, 1) := by decide +kernel
theorem d_TM_boundary_1 : decode c_TM_boundary 1 = .ok (.invokevirtual 73, 3) := by decide +kernel
theorem d_TM_boundary_4 : decode c_TM_boundary 4 = .ok (.aload_n 0, 1) := by decide +kernel
theorem d_TM_boundary_5 : decode c_TM_boundary 5 = .ok (.getfield 31, 3) := by decide +kernel
theorem d_TM_boundary_8 : decode c_TM_boundary 8 = .ok (.invokevirtual 80, 3) := by decide +kernel
theorem d_TM_boundary_11 : decode c_TM_boundary 11 = .ok (.ireturn, 1) := by decide +kernel
theorem d_FO_isUnknown_0 : decode c_FO_isUnknown 0 = .ok (.iload_n 0, 1) := by decide +kernel
theorem d_FO_isUnknown_1 : decode c_FO_isUnknown 1 = .ok (.bipush 31, 2) := by decide +kernel
theorem d_FO_isUnknown_3 : decode c_FO_isUnknown 3 = .ok (.if_icmp .le 7, 3) := by decide +kernel
theorem d_FO_isUnknown_6 : decode c_FO_isUnknown 6 = .ok (.iconst 1, 1) := by decide +kernel
theorem d_FO_isUnknown_7 : decode c_FO_isUnknown 7 = .ok (.goto 4, 3) := by decide +kernel
theorem d_FO_isUnknown_10 : decode c_FO_isUnknown 10 = .ok (.iconst 0, 1) := by decide +kernel
theorem d_FO_isUnknown_11 : decode c_FO_isUnknown 11 = .ok (.ireturn, 1) := by decide +kernel
theorem d_FO_reachesBehind_0 : decode c_FO_reachesBehind 0 = .ok (.iload_n 0, 1) := by decide +kernel
theorem d_FO_reachesBehind_1 : decode c_FO_reachesBehind 1 = .ok (.iconst 1, 1) := by decide +kernel
theorem d_FO_reachesBehind_2 : decode c_FO_reachesBehind 2 = .ok (.if_icmp .eq 25, 3) := by decide +kernel
theorem d_FO_reachesBehind_5 : decode c_FO_reachesBehind 5 = .ok (.iload_n 0, 1) := by decide +kernel
theorem d_FO_reachesBehind_6 : decode c_FO_reachesBehind 6 = .ok (.bipush 22, 2) := by decide +kernel
theorem d_FO_reachesBehind_8 : decode c_FO_reachesBehind 8 = .ok (.if_icmp .eq 19, 3) := by decide +kernel
theorem d_FO_reachesBehind_11 : decode c_FO_reachesBehind 11 = .ok (.iload_n 0, 1) := by decide +kernel
theorem d_FO_reachesBehind_12 : decode c_FO_reachesBehind 12 = .ok (.bipush 28, 2) := by decide +kernel
theorem d_FO_reachesBehind_14 : decode c_FO_reachesBehind 14 = .ok (.if_icmp .eq 13, 3) := by decide +kernel
theorem d_FO_reachesBehind_17 : decode c_FO_reachesBehind 17 = .ok (.iload_n 0, 1) := by decide +kernel
theorem d_FO_reachesBehind_18 : decode c_FO_reachesBehind 18 = .ok (.bipush 31, 2) := by decide +kernel
theorem d_FO_reachesBehind_20 : decode c_FO_reachesBehind 20 = .ok (.if_icmp .eq 7, 3) := by decide +kernel
theorem d_FO_reachesBehind_23 : decode c_FO_reachesBehind 23 = .ok (.iconst 1, 1) := by decide +kernel
theorem d_FO_reachesBehind_24 : decode c_FO_reachesBehind 24 = .ok (.goto 4, 3) := by decide +kernel
theorem d_FO_reachesBehind_27 : decode c_FO_reachesBehind 27 = .ok (.iconst 0, 1) := by decide +kernel
theorem d_FO_reachesBehind_28 : decode c_FO_reachesBehind 28 = .ok (.ireturn, 1) := by decide +kernel
theorem d_FO_length_0 : decode c_FO_length 0 = .ok (.iload_n 0, 1) := by decide +kernel
theorem d_FO_length_1 : decode c_FO_length 1 = .ok (.iconst 2, 1) := by decide +kernel
theorem d_FO_length_2 : decode c_FO_length 2 = .ok (.if_icmp .lt 9, 3) := by decide +kernel
theorem d_FO_length_5 : decode c_FO_length 5 = .ok (.iload_n 0, 1) := by decide +kernel
theorem d_FO_length_6 : decode c_FO_length 6 = .ok (.bipush 7, 2) := by decide +kernel
theorem d_FO_length_8 : decode c_FO_length 8 = .ok (.if_icmp .le 22, 3) := by decide +kernel
theorem d_FO_length_11 : decode c_FO_length 11 = .ok (.iload_n 0, 1) := by decide +kernel
theorem d_FO_length_12 : decode c_FO_length 12 = .ok (.bipush 12, 2) := by decide +kernel
theorem d_FO_length_14 : decode c_FO_length 14 = .ok (.if_icmp .lt 9, 3) := by decide +kernel
theorem d_FO_length_17 : decode c_FO_length 17 = .ok (.iload_n 0, 1) := by decide +kernel
theorem d_FO_length_18 : decode c_FO_length 18 = .ok (.bipush 19, 2) := by decide +kernel
theorem d_FO_length_20 : decode c_FO_length 20 = .ok (.if_icmp .le 10, 3) := by decide +kernel
theorem d_FO_length_23 : decode c_FO_length 23 = .ok (.iload_n 0, 1) := by decide +kernel
theorem d_FO_length_24 : decode c_FO_length 24 = .ok (.invokestatic 9, 3) := by decide +kernel
theorem d_FO_length_27 : decode c_FO_length 27 = .ok (.ifCond .eq 7, 3) := by decide +kernel
theorem d_FO_length_30 : decode c_FO_length 30 = .ok (.iconst 1, 1) := by decide +kernel
theorem d_FO_length_31 : decode c_FO_length 31 = .ok (.goto 4, 3) := by decide +kernel
theorem d_FO_length_34 : decode c_FO_length 34 = .ok (.iconst 0, 1) := by decide +kernel
theorem d_FO_length_35 : decode c_FO_length 35 = .ok (.istore_n 1, 1) := by decide +kernel
theorem d_FO_length_36 : decode c_FO_length 36 = .ok (.iload_n 1, 1) := by decide +kernel
theorem d_FO_length_37 : decode c_FO_length 37 = .ok (.ifCond .eq 7, 3) := by decide +kernel
theorem d_FO_length_40 : decode c_FO_length 40 = .ok (.iconst 2, 1) := by decide +kernel
theorem d_FO_length_41 : decode c_FO_length 41 = .ok (.goto 4, 3) := by decide +kernel
theorem d_FO_length_44 : decode c_FO_length 44 = .ok (.iconst 1, 1) := by decide +kernel
theorem d_FO_length_45 : decode c_FO_length 45 = .ok (.ireturn, 1) := by decide +kernel
theorem d_FO_hasTarget_0 : decode c_FO_hasTarget 0 = .ok (.iload_n 0, 1) := by decide +kernel
theorem d_FO_hasTarget_1 : decode c_FO_hasTarget 1 = .ok (.bipush 22, 2) := by decide +kernel
theorem d_FO_hasTarget_3 : decode c_FO_hasTarget 3 = .ok (.if_icmp .lt 13, 3) := by decide +kernel
theorem d_FO_hasTarget_6 : decode c_FO_hasTarget 6 = .ok (.iload_n 0, 1) := by decide +kernel
theorem d_FO_hasTarget_7 : decode c_FO_hasTarget 7 = .ok (.bipush 27, 2) := by decide +kernel
theorem d_FO_hasTarget_9 : decode c_FO_hasTarget 9 = .ok (.if_icmp .gt 7, 3) := by decide +kernel
theorem d_FO_hasTarget_12 : decode c_FO_hasTarget 12 = .ok (.iconst 1, 1) := by decide +kernel
theorem d_FO_hasTarget_13 : decode c_FO_hasTarget 13 = .ok (.goto 4, 3) := by decide +kernel
theorem d_FO_hasTarget_16 : decode c_FO_hasTarget 16 = .ok (.iconst 0, 1) := by decide +kernel
theorem d_FO_hasTarget_17 : decode c_FO_hasTarget 17 = .ok (.ireturn, 1) := by decide +kernel
theorem d_SO_hasTarget_0 : decode c_SO_hasTarget 0 = .ok (.iload_n 0, 1) := by decide +kernel
theorem d_SO_hasTarget_1 : decode c_SO_hasTarget 1 = .ok (.bipush 19, 2) := by decide +kernel
theorem d_SO_hasTarget_3 : decode c_SO_hasTarget 3 = .ok (.if_icmp .lt 13, 3) := by decide +kernel
theorem d_SO_hasTarget_6 : decode c_SO_hasTarget 6 = .ok (.iload_n 0, 1) := by decide +kernel
theorem d_SO_hasTarget_7 : decode c_SO_hasTarget 7 = .ok (.bipush 23, 2) := by decide +kernel
theorem d_SO_hasTarget_9 : decode c_SO_hasTarget 9 = .ok (.if_icmp .gt 7, 3) := by decide +kernel
theorem d_SO_hasTarget_12 : decode c_SO_hasTarget 12 = .ok (.iconst 1, 1) := by decide +kernel
theorem d_SO_hasTarget_13 : decode c_SO_hasTarget 13 = .ok (.goto 4, 3) := by decide +kernel
theorem d_SO_hasTarget_16 : decode c_SO_hasTarget 16 = .ok (.iconst 0, 1) := by decide +kernel
theorem d_SO_hasTarget_17 : decode c_SO_hasTarget 17 = .ok (.ireturn, 1) := by decide +kernel
theorem d_RE_init_0 : decode c_RE_init 0 = .ok (.aload_n 0, 1) := by decide +kernel
theorem d_RE_init_1 : decode c_RE_init 1 = .ok (.invokespecial 3, 3) := by decide +kernel
theorem d_RE_init_4 : decode c_RE_init 4 = .ok (.aload_n 0, 1) := by decide +kernel
theorem d_RE_init_5 : decode c_RE_init 5 = .ok (.sipush 256, 3) := by decide +kernel
theorem d_RE_init_8 : decode c_RE_init 8 = .ok (.newarray .int, 2) := by decide +kernel
theorem d_RE_init_10 : decode c_RE_init 10 = .ok (.putfield 9, 3) := by decide +kernel
theorem d_RE_init_13 : decode c_RE_init 13 = .ok (.aload_n 0, 1) := by decide +kernel
theorem d_RE_init_14 : decode c_RE_init 14 = .ok (.sipush 256, 3) := by decide +kernel
theorem d_RE_init_17 : decode c_RE_init 17 = .ok (.newarray .boolean, 2) := by decide +kernel
theorem d_RE_init_19 : decode c_RE_init 19 = .ok (.putfield 15, 3) := by decide +kernel
theorem d_RE_init_22 : decode c_RE_init 22 = .ok (.aload_n 0, 1) := by decide +kernel
theorem d_RE_init_23 : decode c_RE_init 23 = .ok (.sipush 256, 3) := by decide +kernel
theorem d_RE_init_26 : decode c_RE_init 26 = .ok (.newarray .int, 2) := by decide +kernel
theorem d_RE_init_28 : decode c_RE_init 28 = .ok (.putfield 19, 3) := by decide +kernel
theorem d_RE_init_31 : decode c_RE_init 31 = .ok (.return_, 1) := by decide +kernel
theorem d_RE_walk_0 : decode c_RE_walk 0 = .ok (.iconst 0, 1) := by decide +kernel
theorem d_RE_walk_1 : decode c_RE_walk 1 = .ok (.istore_n 2, 1) := by decide +kernel
theorem d_RE_walk_2 : decode c_RE_walk 2 = .ok (.iload_n 2, 1) := by decide +kernel
theorem d_RE_walk_3 : decode c_RE_walk 3 = .ok (.sipush 256, 3) := by decide +kernel
theorem d_RE_walk_6 : decode c_RE_walk 6 = .ok (.if_icmp .ge 16, 3) := by decide +kernel
theorem d_RE_walk_9 : decode c_RE_walk 9 = .ok (.aload_n 0, 1) := by decide +kernel
theorem d_RE_walk_10 : decode c_RE_walk 10 = .ok (.getfield 15, 3) := by decide +kernel
theorem d_RE_walk_13 : decode c_RE_walk 13 = .ok (.iload_n 2, 1) := by decide +kernel
theorem d_RE_walk_14 : decode c_RE_walk 14 = .ok (.iconst 0, 1) := by decide +kernel
theorem d_RE_walk_15 : decode c_RE_walk 15 = .ok (.bastore, 1) := by decide +kernel
theorem d_RE_walk_16 : decode c_RE_walk 16 = .ok (.iinc 2 1, 3) := by decide +kernel
theorem d_RE_walk_19 : decode c_RE_walk 19 = .ok (.goto (-17), 3) := by decide +kernel
theorem d_RE_walk_22 : decode c_RE_walk 22 = .ok (.aload_n 0, 1) := by decide +kernel
theorem d_RE_walk_23 : decode c_RE_walk 23 = .ok (.iconst 0, 1) := by decide +kernel
theorem d_RE_walk_24 : decode c_RE_walk 24 = .ok (.putfield 26, 3) := by decide +kernel
theorem d_RE_walk_27 : decode c_RE_walk 27 = .ok (.aload_n 0, 1) := by decide +kernel
theorem d_RE_walk_28 : decode c_RE_walk 28 = .ok (.iload_n 1, 1) := by decide +kernel
theorem d_RE_walk_29 : decode c_RE_walk 29 = .ok (.invokevirtual 30, 3) := by decide +kernel
theorem d_RE_walk_32 : decode c_RE_walk 32 = .ok (.iconst 0, 1) := by decide +kernel
theorem d_RE_walk_33 : decode c_RE_walk 33 = .ok (.istore_n 2, 1) := by decide +kernel
theorem d_RE_walk_34 : decode c_RE_walk 34 = .ok (.iload_n 2, 1) := by decide +kernel
theorem d_RE_walk_35 : decode c_RE_walk 35 = .ok (.aload_n 0, 1) := by decide +kernel
theorem d_RE_walk_36 : decode c_RE_walk 36 = .ok (.getfield 26, 3) := by decide +kernel
theorem d_RE_walk_39 : decode c_RE_walk 39 = .ok (.if_icmp .ge 26, 3) := by decide +kernel
theorem d_RE_walk_42 : decode c_RE_walk 42 = .ok (.iload_n 2, 1) := by decide +kernel
theorem d_RE_walk_43 : decode c_RE_walk 43 = .ok (.sipush 256, 3) := by decide +kernel
theorem d_RE_walk_46 : decode c_RE_walk 46 = .ok (.if_icmp .ge 19, 3) := by decide +kernel
theorem d_RE_walk_49 : decode c_RE_walk 49 = .ok (.aload_n 0, 1) := by decide +kernel
theorem d_RE_walk_50 : decode c_RE_walk 50 = .ok (.aload_n 0, 1) := by decide +kernel
theorem d_RE_walk_51 : decode c_RE_walk 51 = .ok (.getfield 19, 3) := by decide +kernel
theorem d_RE_walk_54 : decode c_RE_walk 54 = .ok (.iload_n 2, 1) := by decide +kernel
theorem d_RE_walk_55 : decode c_RE_walk 55 = .ok (.iaload, 1) := by decide +kernel
theorem d_RE_walk_56 : decode c_RE_walk 56 = .ok (.invokevirtual 34, 3) := by decide +kernel
theorem d_RE_walk_59 : decode c_RE_walk 59 = .ok (.iinc 2 1, 3) := by decide +kernel
theorem d_RE_walk_62 : decode c_RE_walk 62 = .ok (.goto (-28), 3) := by decide +kernel
theorem d_RE_walk_65 : decode c_RE_walk 65 = .ok (.return_, 1) := by decide +kernel
theorem d_RE_mark_0 : decode c_RE_mark 0 = .ok (.iload_n 1, 1) := by decide +kernel
theorem d_RE_mark_1 : decode c_RE_mark 1 = .ok (.sipush 255, 3) := by decide +kernel
theorem d_RE_mark_4 : decode c_RE_mark 4 = .ok (.iand, 1) := by decide +kernel
theorem d_RE_mark_5 : decode c_RE_mark 5 = .ok (.istore_n 2, 1) := by decide +kernel
theorem d_RE_mark_6 : decode c_RE_mark 6 = .ok (.aload_n 0, 1) := by decide +kernel
theorem d_RE_mark_7 : decode c_RE_mark 7 = .ok (.getfield 15, 3) := by decide +kernel
theorem d_RE_mark_10 : decode c_RE_mark 10 = .ok (.iload_n 2, 1) := by decide +kernel
theorem d_RE_mark_11 : decode c_RE_mark 11 = .ok (.baload, 1) := by decide +kernel
theorem d_RE_mark_12 : decode c_RE_mark 12 = .ok (.ifCond .ne 40, 3) := by decide +kernel
theorem d_RE_mark_15 : decode c_RE_mark 15 = .ok (.aload_n 0, 1) := by decide +kernel
theorem d_RE_mark_16 : decode c_RE_mark 16 = .ok (.getfield 26, 3) := by decide +kernel
theorem d_RE_mark_19 : decode c_RE_mark 19 = .ok (.sipush 256, 3) := by decide +kernel
theorem d_RE_mark_22 : decode c_RE_mark 22 = .ok (.if_icmp .ge 30, 3) := by decide +kernel
theorem d_RE_mark_25 : decode c_RE_mark 25 = .ok (.aload_n 0, 1) := by decide +kernel
theorem d_RE_mark_26 : decode c_RE_mark 26 = .ok (.getfield 15, 3) := by decide +kernel
theorem d_RE_mark_29 : decode c_RE_mark 29 = .ok (.iload_n 2, 1) := by decide +kernel
theorem d_RE_mark_30 : decode c_RE_mark 30 = .ok (.iconst 1, 1) := by decide +kernel
theorem d_RE_mark_31 : decode c_RE_mark 31 = .ok (.bastore, 1) := by decide +kernel
theorem d_RE_mark_32 : decode c_RE_mark 32 = .ok (.aload_n 0, 1) := by decide +kernel
theorem d_RE_mark_33 : decode c_RE_mark 33 = .ok (.getfield 19, 3) := by decide +kernel
theorem d_RE_mark_36 : decode c_RE_mark 36 = .ok (.aload_n 0, 1) := by decide +kernel
theorem d_RE_mark_37 : decode c_RE_mark 37 = .ok (.getfield 26, 3) := by decide +kernel
theorem d_RE_mark_40 : decode c_RE_mark 40 = .ok (.iload_n 2, 1) := by decide +kernel
theorem d_RE_mark_41 : decode c_RE_mark 41 = .ok (.iastore, 1) := by decide +kernel
theorem d_RE_mark_42 : decode c_RE_mark 42 = .ok (.aload_n 0, 1) := by decide +kernel
theorem d_RE_mark_43 : decode c_RE_mark 43 = .ok (.dup, 1) := by decide +kernel
theorem d_RE_mark_44 : decode c_RE_mark 44 = .ok (.getfield 26, 3) := by decide +kernel
theorem d_RE_mark_47 : decode c_RE_mark 47 = .ok (.iconst 1, 1) := by decide +kernel
theorem d_RE_mark_48 : decode c_RE_mark 48 = .ok (.iadd, 1) := by decide +kernel
theorem d_RE_mark_49 : decode c_RE_mark 49 = .ok (.putfield 26, 3) := by decide +kernel
theorem d_RE_mark_52 : decode c_RE_mark 52 = .ok (.return_, 1) := by decide +kernel
theorem d_RE_follow_0 : decode c_RE_follow 0 = .ok (.aload_n 0, 1) := by decide +kernel
theorem d_RE_follow_1 : decode c_RE_follow 1 = .ok (.getfield 9, 3) := by decide +kernel
theorem d_RE_follow_4 : decode c_RE_follow 4 = .ok (.iload_n 1, 1) := by decide +kernel
theorem d_RE_follow_5 : decode c_RE_follow 5 = .ok (.sipush 255, 3) := by decide +kernel
theorem d_RE_follow_8 : decode c_RE_follow 8 = .ok (.iand, 1) := by decide +kernel
theorem d_RE_follow_9 : decode c_RE_follow 9 = .ok (.iaload, 1) := by decide +kernel
theorem d_RE_follow_10 : decode c_RE_follow 10 = .ok (.istore_n 2, 1) := by decide +kernel
theorem d_RE_follow_11 : decode c_RE_follow 11 = .ok (.iload_n 2, 1) := by decide +kernel
theorem d_RE_follow_12 : decode c_RE_follow 12 = .ok (.invokestatic 37, 3) := by decide +kernel
theorem d_RE_follow_15 : decode c_RE_follow 15 = .ok (.ifCond .eq 4, 3) := by decide +kernel
theorem d_RE_follow_18 : decode c_RE_follow 18 = .ok (.return_, 1) := by decide +kernel
theorem d_RE_follow_19 : decode c_RE_follow 19 = .ok (.iload_n 2, 1) := by decide +kernel
theorem d_RE_follow_20 : decode c_RE_follow 20 = .ok (.invokestatic 42, 3) := by decide +kernel
theorem d_RE_follow_23 : decode c_RE_follow 23 = .ok (.ifCond .eq 13, 3) := by decide +kernel
theorem d_RE_follow_26 : decode c_RE_follow 26 = .ok (.aload_n 0, 1) := by decide +kernel
theorem d_RE_follow_27 : decode c_RE_follow 27 = .ok (.iload_n 1, 1) := by decide +kernel
theorem d_RE_follow_28 : decode c_RE_follow 28 = .ok (.iload_n 2, 1) := by decide +kernel
theorem d_RE_follow_29 : decode c_RE_follow 29 = .ok (.invokestatic 45, 3) := by decide +kernel
theorem d_RE_follow_32 : decode c_RE_follow 32 = .ok (.iadd, 1) := by decide +kernel
theorem d_RE_follow_33 : decode c_RE_follow 33 = .ok (.invokevirtual 30, 3) := by decide +kernel
theorem d_RE_follow_36 : decode c_RE_follow 36 = .ok (.iload_n 2, 1) := by decide +kernel
theorem d_RE_follow_37 : decode c_RE_follow 37 = .ok (.invokestatic 49, 3) := by decide +kernel
theorem d_RE_follow_40 : decode c_RE_follow 40 = .ok (.ifCond .eq 19, 3) := by decide +kernel
theorem d_RE_follow_43 : decode c_RE_follow 43 = .ok (.aload_n 0, 1) := by decide +kernel
theorem d_RE_follow_44 : decode c_RE_follow 44 = .ok (.aload_n 0, 1) := by decide +kernel
theorem d_RE_follow_45 : decode c_RE_follow 45 = .ok (.getfield 9, 3) := by decide +kernel
theorem d_RE_follow_48 : decode c_RE_follow 48 = .ok (.iload_n 1, 1) := by decide +kernel
theorem d_RE_follow_49 : decode c_RE_follow 49 = .ok (.iconst 1, 1) := by decide +kernel
theorem d_RE_follow_50 : decode c_RE_follow 50 = .ok (.iadd, 1) := by decide +kernel
theorem d_RE_follow_51 : decode c_RE_follow 51 = .ok (.sipush 255, 3) := by decide +kernel
theorem d_RE_follow_54 : decode c_RE_follow 54 = .ok (.iand, 1) := by decide +kernel
theorem d_RE_follow_55 : decode c_RE_follow 55 = .ok (.iaload, 1) := by decide +kernel
theorem d_RE_follow_56 : decode c_RE_follow 56 = .ok (.invokevirtual 30, 3) := by decide +kernel
theorem d_RE_follow_59 : decode c_RE_follow 59 = .ok (.return_, 1) := by decide +kernel
theorem d_RE_refusal_0 : decode c_RE_refusal 0 = .ok (.aload_n 0, 1) := by decide +kernel
theorem d_RE_refusal_1 : decode c_RE_refusal 1 = .ok (.invokevirtual 52, 3) := by decide +kernel
theorem d_RE_refusal_4 : decode c_RE_refusal 4 = .ok (.istore_n 1, 1) := by decide +kernel
theorem d_RE_refusal_5 : decode c_RE_refusal 5 = .ok (.iload_n 1, 1) := by decide +kernel
theorem d_RE_refusal_6 : decode c_RE_refusal 6 = .ok (.iconst (-1), 1) := by decide +kernel
theorem d_RE_refusal_7 : decode c_RE_refusal 7 = .ok (.if_icmp .eq 9, 3) := by decide +kernel
theorem d_RE_refusal_10 : decode c_RE_refusal 10 = .ok (.sipush (-1000), 3) := by decide +kernel
theorem d_RE_refusal_13 : decode c_RE_refusal 13 = .ok (.iload_n 1, 1) := by decide +kernel
theorem d_RE_refusal_14 : decode c_RE_refusal 14 = .ok (.isub, 1) := by decide +kernel
theorem d_RE_refusal_15 : decode c_RE_refusal 15 = .ok (.ireturn, 1) := by decide +kernel
theorem d_RE_refusal_16 : decode c_RE_refusal 16 = .ok (.aload_n 0, 1) := by decide +kernel
theorem d_RE_refusal_17 : decode c_RE_refusal 17 = .ok (.invokevirtual 56, 3) := by decide +kernel
theorem d_RE_refusal_20 : decode c_RE_refusal 20 = .ok (.istore_n 1, 1) := by decide +kernel
theorem d_RE_refusal_21 : decode c_RE_refusal 21 = .ok (.iload_n 1, 1) := by decide +kernel
theorem d_RE_refusal_22 : decode c_RE_refusal 22 = .ok (.iconst (-1), 1) := by decide +kernel
theorem d_RE_refusal_23 : decode c_RE_refusal 23 = .ok (.if_icmp .eq 9, 3) := by decide +kernel
theorem d_RE_refusal_26 : decode c_RE_refusal 26 = .ok (.sipush (-2000), 3) := by decide +kernel
theorem d_RE_refusal_29 : decode c_RE_refusal 29 = .ok (.iload_n 1, 1) := by decide +kernel
theorem d_RE_refusal_30 : decode c_RE_refusal 30 = .ok (.isub, 1) := by decide +kernel
theorem d_RE_refusal_31 : decode c_RE_refusal 31 = .ok (.ireturn, 1) := by decide +kernel
theorem d_RE_refusal_32 : decode c_RE_refusal 32 = .ok (.aload_n 0, 1) := by decide +kernel
theorem d_RE_refusal_33 : decode c_RE_refusal 33 = .ok (.invokevirtual 59, 3) := by decide +kernel
theorem d_RE_refusal_36 : decode c_RE_refusal 36 = .ok (.istore_n 1, 1) := by decide +kernel
theorem d_RE_refusal_37 : decode c_RE_refusal 37 = .ok (.iload_n 1, 1) := by decide +kernel
theorem d_RE_refusal_38 : decode c_RE_refusal 38 = .ok (.iconst (-1), 1) := by decide +kernel
theorem d_RE_refusal_39 : decode c_RE_refusal 39 = .ok (.if_icmp .ne 7, 3) := by decide +kernel
theorem d_RE_refusal_42 : decode c_RE_refusal 42 = .ok (.iconst 0, 1) := by decide +kernel
theorem d_RE_refusal_43 : decode c_RE_refusal 43 = .ok (.goto 8, 3) := by decide +kernel
theorem d_RE_refusal_46 : decode c_RE_refusal 46 = .ok (.sipush (-3000), 3) := by decide +kernel
theorem d_RE_refusal_49 : decode c_RE_refusal 49 = .ok (.iload_n 1, 1) := by decide +kernel
theorem d_RE_refusal_50 : decode c_RE_refusal 50 = .ok (.isub, 1) := by decide +kernel
theorem d_RE_refusal_51 : decode c_RE_refusal 51 = .ok (.ireturn, 1) := by decide +kernel
theorem d_RE_leastUnknown_0 : decode c_RE_leastUnknown 0 = .ok (.iconst 0, 1) := by decide +kernel
theorem d_RE_leastUnknown_1 : decode c_RE_leastUnknown 1 = .ok (.istore_n 1, 1) := by decide +kernel
theorem d_RE_leastUnknown_2 : decode c_RE_leastUnknown 2 = .ok (.iload_n 1, 1) := by decide +kernel
theorem d_RE_leastUnknown_3 : decode c_RE_leastUnknown 3 = .ok (.sipush 256, 3) := by decide +kernel
theorem d_RE_leastUnknown_6 : decode c_RE_leastUnknown 6 = .ok (.if_icmp .ge 32, 3) := by decide +kernel
theorem d_RE_leastUnknown_9 : decode c_RE_leastUnknown 9 = .ok (.aload_n 0, 1) := by decide +kernel
theorem d_RE_leastUnknown_10 : decode c_RE_leastUnknown 10 = .ok (.getfield 15, 3) := by decide +kernel
theorem d_RE_leastUnknown_13 : decode c_RE_leastUnknown 13 = .ok (.iload_n 1, 1) := by decide +kernel
theorem d_RE_leastUnknown_14 : decode c_RE_leastUnknown 14 = .ok (.baload, 1) := by decide +kernel
theorem d_RE_leastUnknown_15 : decode c_RE_leastUnknown 15 = .ok (.ifCond .eq 17, 3) := by decide +kernel
theorem d_RE_leastUnknown_18 : decode c_RE_leastUnknown 18 = .ok (.aload_n 0, 1) := by decide +kernel
theorem d_RE_leastUnknown_19 : decode c_RE_leastUnknown 19 = .ok (.getfield 9, 3) := by decide +kernel
theorem d_RE_leastUnknown_22 : decode c_RE_leastUnknown 22 = .ok (.iload_n 1, 1) := by decide +kernel
theorem d_RE_leastUnknown_23 : decode c_RE_leastUnknown 23 = .ok (.iaload, 1) := by decide +kernel
theorem d_RE_leastUnknown_24 : decode c_RE_leastUnknown 24 = .ok (.invokestatic 37, 3) := by decide +kernel
theorem d_RE_leastUnknown_27 : decode c_RE_leastUnknown 27 = .ok (.ifCond .eq 5, 3) := by decide +kernel
theorem d_RE_leastUnknown_30 : decode c_RE_leastUnknown 30 = .ok (.iload_n 1, 1) := by decide +kernel
theorem d_RE_leastUnknown_31 : decode c_RE_leastUnknown 31 = .ok (.ireturn, 1) := by decide +kernel
theorem d_RE_leastUnknown_32 : decode c_RE_leastUnknown 32 = .ok (.iinc 1 1, 3) := by decide +kernel
theorem d_RE_leastUnknown_35 : decode c_RE_leastUnknown 35 = .ok (.goto (-33), 3) := by decide +kernel
theorem d_RE_leastUnknown_38 : decode c_RE_leastUnknown 38 = .ok (.iconst (-1), 1) := by decide +kernel
theorem d_RE_leastUnknown_39 : decode c_RE_leastUnknown 39 = .ok (.ireturn, 1) := by decide +kernel
theorem d_RE_leastOverlap_0 : decode c_RE_leastOverlap 0 = .ok (.iconst 0, 1) := by decide +kernel
theorem d_RE_leastOverlap_1 : decode c_RE_leastOverlap 1 = .ok (.istore_n 1, 1) := by decide +kernel
theorem d_RE_leastOverlap_2 : decode c_RE_leastOverlap 2 = .ok (.iload_n 1, 1) := by decide +kernel
theorem d_RE_leastOverlap_3 : decode c_RE_leastOverlap 3 = .ok (.sipush 256, 3) := by decide +kernel
theorem d_RE_leastOverlap_6 : decode c_RE_leastOverlap 6 = .ok (.if_icmp .ge 50, 3) := by decide +kernel
theorem d_RE_leastOverlap_9 : decode c_RE_leastOverlap 9 = .ok (.iload_n 1, 1) := by decide +kernel
theorem d_RE_leastOverlap_10 : decode c_RE_leastOverlap 10 = .ok (.iconst 1, 1) := by decide +kernel
theorem d_RE_leastOverlap_11 : decode c_RE_leastOverlap 11 = .ok (.isub, 1) := by decide +kernel
theorem d_RE_leastOverlap_12 : decode c_RE_leastOverlap 12 = .ok (.sipush 255, 3) := by decide +kernel
theorem d_RE_leastOverlap_15 : decode c_RE_leastOverlap 15 = .ok (.iand, 1) := by decide +kernel
theorem d_RE_leastOverlap_16 : decode c_RE_leastOverlap 16 = .ok (.istore_n 2, 1) := by decide +kernel
theorem d_RE_leastOverlap_17 : decode c_RE_leastOverlap 17 = .ok (.aload_n 0, 1) := by decide +kernel
theorem d_RE_leastOverlap_18 : decode c_RE_leastOverlap 18 = .ok (.getfield 15, 3) := by decide +kernel
theorem d_RE_leastOverlap_21 : decode c_RE_leastOverlap 21 = .ok (.iload_n 1, 1) := by decide +kernel
theorem d_RE_leastOverlap_22 : decode c_RE_leastOverlap 22 = .ok (.baload, 1) := by decide +kernel
theorem d_RE_leastOverlap_23 : decode c_RE_leastOverlap 23 = .ok (.ifCond .eq 27, 3) := by decide +kernel
theorem d_RE_leastOverlap_26 : decode c_RE_leastOverlap 26 = .ok (.aload_n 0, 1) := by decide +kernel
theorem d_RE_leastOverlap_27 : decode c_RE_leastOverlap 27 = .ok (.getfield 15, 3) := by decide +kernel
theorem d_RE_leastOverlap_30 : decode c_RE_leastOverlap 30 = .ok (.iload_n 2, 1) := by decide +kernel
theorem d_RE_leastOverlap_31 : decode c_RE_leastOverlap 31 = .ok (.baload, 1) := by decide +kernel
theorem d_RE_leastOverlap_32 : decode c_RE_leastOverlap 32 = .ok (.ifCond .eq 18, 3) := by decide +kernel
theorem d_RE_leastOverlap_35 : decode c_RE_leastOverlap 35 = .ok (.aload_n 0, 1) := by decide +kernel
theorem d_RE_leastOverlap_36 : decode c_RE_leastOverlap 36 = .ok (.getfield 9, 3) := by decide +kernel
theorem d_RE_leastOverlap_39 : decode c_RE_leastOverlap 39 = .ok (.iload_n 2, 1) := by decide +kernel
theorem d_RE_leastOverlap_40 : decode c_RE_leastOverlap 40 = .ok (.iaload, 1) := by decide +kernel
theorem d_RE_leastOverlap_41 : decode c_RE_leastOverlap 41 = .ok (.invokestatic 45, 3) := by decide +kernel
theorem d_RE_leastOverlap_44 : decode c_RE_leastOverlap 44 = .ok (.iconst 2, 1) := by decide +kernel
theorem d_RE_leastOverlap_45 : decode c_RE_leastOverlap 45 = .ok (.if_icmp .ne 5, 3) := by decide +kernel
theorem d_RE_leastOverlap_48 : decode c_RE_leastOverlap 48 = .ok (.iload_n 1, 1) := by decide +kernel
theorem d_RE_leastOverlap_49 : decode c_RE_leastOverlap 49 = .ok (.ireturn, 1) := by decide +kernel
theorem d_RE_leastOverlap_50 : decode c_RE_leastOverlap 50 = .ok (.iinc 1 1, 3) := by decide +kernel
theorem d_RE_leastOverlap_53 : decode c_RE_leastOverlap 53 = .ok (.goto (-51), 3) := by decide +kernel
theorem d_RE_leastOverlap_56 : decode c_RE_leastOverlap 56 = .ok (.iconst (-1), 1) := by decide +kernel
theorem d_RE_leastOverlap_57 : decode c_RE_leastOverlap 57 = .ok (.ireturn, 1) := by decide +kernel
theorem d_RE_leastRunOff_0 : decode c_RE_leastRunOff 0 = .ok (.aload_n 0, 1) := by decide +kernel
theorem d_RE_leastRunOff_1 : decode c_RE_leastRunOff 1 = .ok (.getfield 9, 3) := by decide +kernel
theorem d_RE_leastRunOff_4 : decode c_RE_leastRunOff 4 = .ok (.sipush 254, 3) := by decide +kernel
theorem d_RE_leastRunOff_7 : decode c_RE_leastRunOff 7 = .ok (.iaload, 1) := by decide +kernel
theorem d_RE_leastRunOff_8 : decode c_RE_leastRunOff 8 = .ok (.istore_n 1, 1) := by decide +kernel
theorem d_RE_leastRunOff_9 : decode c_RE_leastRunOff 9 = .ok (.iload_n 1, 1) := by decide +kernel
theorem d_RE_leastRunOff_10 : decode c_RE_leastRunOff 10 = .ok (.bipush 22, 2) := by decide +kernel
theorem d_RE_leastRunOff_12 : decode c_RE_leastRunOff 12 = .ok (.if_icmp .eq 9, 3) := by decide +kernel
theorem d_RE_leastRunOff_15 : decode c_RE_leastRunOff 15 = .ok (.iload_n 1, 1) := by decide +kernel
theorem d_RE_leastRunOff_16 : decode c_RE_leastRunOff 16 = .ok (.bipush 27, 2) := by decide +kernel
theorem d_RE_leastRunOff_18 : decode c_RE_leastRunOff 18 = .ok (.if_icmp .ne 7, 3) := by decide +kernel
theorem d_RE_leastRunOff_21 : decode c_RE_leastRunOff 21 = .ok (.iconst 1, 1) := by decide +kernel
theorem d_RE_leastRunOff_22 : decode c_RE_leastRunOff 22 = .ok (.goto 4, 3) := by decide +kernel
theorem d_RE_leastRunOff_25 : decode c_RE_leastRunOff 25 = .ok (.iconst 0, 1) := by decide +kernel
theorem d_RE_leastRunOff_26 : decode c_RE_leastRunOff 26 = .ok (.istore_n 2, 1) := by decide +kernel
theorem d_RE_leastRunOff_27 : decode c_RE_leastRunOff 27 = .ok (.aload_n 0, 1) := by decide +kernel
theorem d_RE_leastRunOff_28 : decode c_RE_leastRunOff 28 = .ok (.getfield 15, 3) := by decide +kernel
theorem d_RE_leastRunOff_31 : decode c_RE_leastRunOff 31 = .ok (.sipush 254, 3) := by decide +kernel
theorem d_RE_leastRunOff_34 : decode c_RE_leastRunOff 34 = .ok (.baload, 1) := by decide +kernel
theorem d_RE_leastRunOff_35 : decode c_RE_leastRunOff 35 = .ok (.ifCond .eq 19, 3) := by decide +kernel
theorem d_RE_leastRunOff_38 : decode c_RE_leastRunOff 38 = .ok (.iload_n 1, 1) := by decide +kernel
theorem d_RE_leastRunOff_39 : decode c_RE_leastRunOff 39 = .ok (.invokestatic 45, 3) := by decide +kernel
theorem d_RE_leastRunOff_42 : decode c_RE_leastRunOff 42 = .ok (.iconst 2, 1) := by decide +kernel
theorem d_RE_leastRunOff_43 : decode c_RE_leastRunOff 43 = .ok (.if_icmp .ne 11, 3) := by decide +kernel
theorem d_RE_leastRunOff_46 : decode c_RE_leastRunOff 46 = .ok (.iload_n 2, 1) := by decide +kernel
theorem d_RE_leastRunOff_47 : decode c_RE_leastRunOff 47 = .ok (.ifCond .ne 7, 3) := by decide +kernel
theorem d_RE_leastRunOff_50 : decode c_RE_leastRunOff 50 = .ok (.sipush 254, 3) := by decide +kernel
theorem d_RE_leastRunOff_53 : decode c_RE_leastRunOff 53 = .ok (.ireturn, 1) := by decide +kernel
theorem d_RE_leastRunOff_54 : decode c_RE_leastRunOff 54 = .ok (.aload_n 0, 1) := by decide +kernel
theorem d_RE_leastRunOff_55 : decode c_RE_leastRunOff 55 = .ok (.getfield 9, 3) := by decide +kernel
theorem d_RE_leastRunOff_58 : decode c_RE_leastRunOff 58 = .ok (.sipush 255, 3) := by decide +kernel
theorem d_RE_leastRunOff_61 : decode c_RE_leastRunOff 61 = .ok (.iaload, 1) := by decide +kernel
theorem d_RE_leastRunOff_62 : decode c_RE_leastRunOff 62 = .ok (.istore_n 1, 1) := by decide +kernel
theorem d_RE_leastRunOff_63 : decode c_RE_leastRunOff 63 = .ok (.iload_n 1, 1) := by decide +kernel
theorem d_RE_leastRunOff_64 : decode c_RE_leastRunOff 64 = .ok (.iconst 1, 1) := by decide +kernel
theorem d_RE_leastRunOff_65 : decode c_RE_leastRunOff 65 = .ok (.if_icmp .eq 15, 3) := by decide +kernel
theorem d_RE_leastRunOff_68 : decode c_RE_leastRunOff 68 = .ok (.iload_n 1, 1) := by decide +kernel
theorem d_RE_leastRunOff_69 : decode c_RE_leastRunOff 69 = .ok (.bipush 28, 2) := by decide +kernel
theorem d_RE_leastRunOff_71 : decode c_RE_leastRunOff 71 = .ok (.if_icmp .eq 9, 3) := by decide +kernel
theorem d_RE_leastRunOff_74 : decode c_RE_leastRunOff 74 = .ok (.iload_n 1, 1) := by decide +kernel
theorem d_RE_leastRunOff_75 : decode c_RE_leastRunOff 75 = .ok (.bipush 31, 2) := by decide +kernel
theorem d_RE_leastRunOff_77 : decode c_RE_leastRunOff 77 = .ok (.if_icmp .ne 7, 3) := by decide +kernel
theorem d_RE_leastRunOff_80 : decode c_RE_leastRunOff 80 = .ok (.iconst 1, 1) := by decide +kernel
theorem d_RE_leastRunOff_81 : decode c_RE_leastRunOff 81 = .ok (.goto 4, 3) := by decide +kernel
theorem d_RE_leastRunOff_84 : decode c_RE_leastRunOff 84 = .ok (.iconst 0, 1) := by decide +kernel
theorem d_RE_leastRunOff_85 : decode c_RE_leastRunOff 85 = .ok (.istore_n 3, 1) := by decide +kernel
theorem d_RE_leastRunOff_86 : decode c_RE_leastRunOff 86 = .ok (.aload_n 0, 1) := by decide +kernel
theorem d_RE_leastRunOff_87 : decode c_RE_leastRunOff 87 = .ok (.getfield 15, 3) := by decide +kernel
theorem d_RE_leastRunOff_90 : decode c_RE_leastRunOff 90 = .ok (.sipush 255, 3) := by decide +kernel
theorem d_RE_leastRunOff_93 : decode c_RE_leastRunOff 93 = .ok (.baload, 1) := by decide +kernel
theorem d_RE_leastRunOff_94 : decode c_RE_leastRunOff 94 = .ok (.ifCond .eq 13, 3) := by decide +kernel
theorem d_RE_leastRunOff_97 : decode c_RE_leastRunOff 97 = .ok (.iload_n 3, 1) := by decide +kernel
theorem d_RE_leastRunOff_98 : decode c_RE_leastRunOff 98 = .ok (.ifCond .ne 9, 3) := by decide +kernel
theorem d_RE_leastRunOff_101 : decode c_RE_leastRunOff 101 = .ok (.sipush 255, 3) := by decide +kernel
theorem d_RE_leastRunOff_104 : decode c_RE_leastRunOff 104 = .ok (.goto 4, 3) := by decide +kernel
theorem d_RE_leastRunOff_107 : decode c_RE_leastRunOff 107 = .ok (.iconst (-1), 1) := by decide +kernel
theorem d_RE_leastRunOff_108 : decode c_RE_leastRunOff 108 = .ok (.ireturn, 1) := by decide +kernel
theorem d_RE_has_0 : decode c_RE_has 0 = .ok (.iload_n 1, 1) := by decide +kernel
theorem d_RE_has_1 : decode c_RE_has 1 = .ok (.invokestatic 22, 3) := by decide +kernel
theorem d_RE_has_4 : decode c_RE_has 4 = .ok (.ifCond .eq 16, 3) := by decide +kernel
theorem d_RE_has_7 : decode c_RE_has 7 = .ok (.aload_n 0, 1) := by decide +kernel
theorem d_RE_has_8 : decode c_RE_has 8 = .ok (.getfield 15, 3) := by decide +kernel
theorem d_RE_has_11 : decode c_RE_has 11 = .ok (.iload_n 1, 1) := by decide +kernel
theorem d_RE_has_12 : decode c_RE_has 12 = .ok (.baload, 1) := by decide +kernel
theorem d_RE_has_13 : decode c_RE_has 13 = .ok (.ifCond .eq 7, 3) := by decide +kernel
theorem d_RE_has_16 : decode c_RE_has 16 = .ok (.iconst 1, 1) := by decide +kernel
theorem d_RE_has_17 : decode c_RE_has 17 = .ok (.goto 4, 3) := by decide +kernel
theorem d_RE_has_20 : decode c_RE_has 20 = .ok (.iconst 0, 1) := by decide +kernel
theorem d_RE_has_21 : decode c_RE_has 21 = .ok (.ireturn, 1) := by decide +kernel
theorem d_MA_init_0 : decode c_MA_init 0 = .ok (.aload_n 0, 1) := by decide +kernel
theorem d_MA_init_1 : decode c_MA_init 1 = .ok (.invokespecial 3, 3) := by decide +kernel
theorem d_MA_init_4 : decode c_MA_init 4 = .ok (.aload_n 0, 1) := by decide +kernel
theorem d_MA_init_5 : decode c_MA_init 5 = .ok (.sipush 256, 3) := by decide +kernel
theorem d_MA_init_8 : decode c_MA_init 8 = .ok (.newarray .int, 2) := by decide +kernel
theorem d_MA_init_10 : decode c_MA_init 10 = .ok (.putfield 9, 3) := by decide +kernel
theorem d_MA_init_13 : decode c_MA_init 13 = .ok (.aload_n 0, 1) := by decide +kernel
theorem d_MA_init_14 : decode c_MA_init 14 = .ok (.sipush 255, 3) := by decide +kernel
theorem d_MA_init_17 : decode c_MA_init 17 = .ok (.putfield 15, 3) := by decide +kernel
theorem d_MA_init_20 : decode c_MA_init 20 = .ok (.return_, 1) := by decide +kernel
theorem d_MA_hasHalted_0 : decode c_MA_hasHalted 0 = .ok (.aload_n 0, 1) := by decide +kernel
theorem d_MA_hasHalted_1 : decode c_MA_hasHalted 1 = .ok (.getfield 35, 3) := by decide +kernel
theorem d_MA_hasHalted_4 : decode c_MA_hasHalted 4 = .ok (.iconst 1, 1) := by decide +kernel
theorem d_MA_hasHalted_5 : decode c_MA_hasHalted 5 = .ok (.if_icmp .ne 7, 3) := by decide +kernel
theorem d_MA_hasHalted_8 : decode c_MA_hasHalted 8 = .ok (.iconst 1, 1) := by decide +kernel
theorem d_MA_hasHalted_9 : decode c_MA_hasHalted 9 = .ok (.goto 4, 3) := by decide +kernel
theorem d_MA_hasHalted_12 : decode c_MA_hasHalted 12 = .ok (.iconst 0, 1) := by decide +kernel
theorem d_MA_hasHalted_13 : decode c_MA_hasHalted 13 = .ok (.ireturn, 1) := by decide +kernel
theorem d_MA_looksLike_0 : decode c_MA_looksLike 0 = .ok (.aload_n 0, 1) := by decide +kernel
theorem d_MA_looksLike_1 : decode c_MA_looksLike 1 = .ok (.getfield 19, 3) := by decide +kernel
theorem d_MA_looksLike_4 : decode c_MA_looksLike 4 = .ok (.aload_n 1, 1) := by decide +kernel
theorem d_MA_looksLike_5 : decode c_MA_looksLike 5 = .ok (.getfield 19, 3) := by decide +kernel
theorem d_MA_looksLike_8 : decode c_MA_looksLike 8 = .ok (.if_icmp .ne 25, 3) := by decide +kernel
theorem d_MA_looksLike_11 : decode c_MA_looksLike 11 = .ok (.aload_n 0, 1) := by decide +kernel
theorem d_MA_looksLike_12 : decode c_MA_looksLike 12 = .ok (.getfield 22, 3) := by decide +kernel
theorem d_MA_looksLike_15 : decode c_MA_looksLike 15 = .ok (.aload_n 1, 1) := by decide +kernel
theorem d_MA_looksLike_16 : decode c_MA_looksLike 16 = .ok (.getfield 22, 3) := by decide +kernel
theorem d_MA_looksLike_19 : decode c_MA_looksLike 19 = .ok (.if_icmp .ne 14, 3) := by decide +kernel
theorem d_MA_looksLike_22 : decode c_MA_looksLike 22 = .ok (.aload_n 0, 1) := by decide +kernel
theorem d_MA_looksLike_23 : decode c_MA_looksLike 23 = .ok (.getfield 15, 3) := by decide +kernel
theorem d_MA_looksLike_26 : decode c_MA_looksLike 26 = .ok (.aload_n 1, 1) := by decide +kernel
theorem d_MA_looksLike_27 : decode c_MA_looksLike 27 = .ok (.getfield 15, 3) := by decide +kernel
theorem d_MA_looksLike_30 : decode c_MA_looksLike 30 = .ok (.if_icmp .eq 5, 3) := by decide +kernel
theorem d_MA_looksLike_33 : decode c_MA_looksLike 33 = .ok (.iconst 0, 1) := by decide +kernel
theorem d_MA_looksLike_34 : decode c_MA_looksLike 34 = .ok (.ireturn, 1) := by decide +kernel
theorem d_MA_looksLike_35 : decode c_MA_looksLike 35 = .ok (.aload_n 0, 1) := by decide +kernel
theorem d_MA_looksLike_36 : decode c_MA_looksLike 36 = .ok (.getfield 28, 3) := by decide +kernel
theorem d_MA_looksLike_39 : decode c_MA_looksLike 39 = .ok (.aload_n 1, 1) := by decide +kernel
theorem d_MA_looksLike_40 : decode c_MA_looksLike 40 = .ok (.getfield 28, 3) := by decide +kernel
theorem d_MA_looksLike_43 : decode c_MA_looksLike 43 = .ok (.if_icmp .ne 14, 3) := by decide +kernel
theorem d_MA_looksLike_46 : decode c_MA_looksLike 46 = .ok (.aload_n 0, 1) := by decide +kernel
theorem d_MA_looksLike_47 : decode c_MA_looksLike 47 = .ok (.getfield 32, 3) := by decide +kernel
theorem d_MA_looksLike_50 : decode c_MA_looksLike 50 = .ok (.aload_n 1, 1) := by decide +kernel
theorem d_MA_looksLike_51 : decode c_MA_looksLike 51 = .ok (.getfield 32, 3) := by decide +kernel
theorem d_MA_looksLike_54 : decode c_MA_looksLike 54 = .ok (.if_icmp .eq 5, 3) := by decide +kernel
theorem d_MA_looksLike_57 : decode c_MA_looksLike 57 = .ok (.iconst 0, 1) := by decide +kernel
theorem d_MA_looksLike_58 : decode c_MA_looksLike 58 = .ok (.ireturn, 1) := by decide +kernel
theorem d_MA_looksLike_59 : decode c_MA_looksLike 59 = .ok (.iconst 0, 1) := by decide +kernel
theorem d_MA_looksLike_60 : decode c_MA_looksLike 60 = .ok (.istore_n 2, 1) := by decide +kernel
theorem d_MA_looksLike_61 : decode c_MA_looksLike 61 = .ok (.iload_n 2, 1) := by decide +kernel
theorem d_MA_looksLike_62 : decode c_MA_looksLike 62 = .ok (.sipush 256, 3) := by decide +kernel
theorem d_MA_looksLike_65 : decode c_MA_looksLike 65 = .ok (.if_icmp .ge 26, 3) := by decide +kernel
theorem d_MA_looksLike_68 : decode c_MA_looksLike 68 = .ok (.aload_n 0, 1) := by decide +kernel
theorem d_MA_looksLike_69 : decode c_MA_looksLike 69 = .ok (.getfield 9, 3) := by decide +kernel
theorem d_MA_looksLike_72 : decode c_MA_looksLike 72 = .ok (.iload_n 2, 1) := by decide +kernel
theorem d_MA_looksLike_73 : decode c_MA_looksLike 73 = .ok (.iaload, 1) := by decide +kernel
theorem d_MA_looksLike_74 : decode c_MA_looksLike 74 = .ok (.aload_n 1, 1) := by decide +kernel
theorem d_MA_looksLike_75 : decode c_MA_looksLike 75 = .ok (.getfield 9, 3) := by decide +kernel
theorem d_MA_looksLike_78 : decode c_MA_looksLike 78 = .ok (.iload_n 2, 1) := by decide +kernel
theorem d_MA_looksLike_79 : decode c_MA_looksLike 79 = .ok (.iaload, 1) := by decide +kernel
theorem d_MA_looksLike_80 : decode c_MA_looksLike 80 = .ok (.if_icmp .eq 5, 3) := by decide +kernel
theorem d_MA_looksLike_83 : decode c_MA_looksLike 83 = .ok (.iconst 0, 1) := by decide +kernel
theorem d_MA_looksLike_84 : decode c_MA_looksLike 84 = .ok (.ireturn, 1) := by decide +kernel
theorem d_MA_looksLike_85 : decode c_MA_looksLike 85 = .ok (.iinc 2 1, 3) := by decide +kernel
theorem d_MA_looksLike_88 : decode c_MA_looksLike 88 = .ok (.goto (-27), 3) := by decide +kernel
theorem d_MA_looksLike_91 : decode c_MA_looksLike 91 = .ok (.iconst 1, 1) := by decide +kernel
theorem d_MA_looksLike_92 : decode c_MA_looksLike 92 = .ok (.ireturn, 1) := by decide +kernel
theorem d_MA_view_0 : decode c_MA_view 0 = .ok (.iload_n 1, 1) := by decide +kernel
theorem d_MA_view_1 : decode c_MA_view 1 = .ok (.tableswitch 105 0 9 #[55, 60, 65, 70, 75, 83, 91, 96, 101, 103], 55) := by decide +kernel
theorem d_MA_view_56 : decode c_MA_view 56 = .ok (.aload_n 0, 1) := by decide +kernel
theorem d_MA_view_57 : decode c_MA_view 57 = .ok (.getfield 19, 3) := by decide +kernel
theorem d_MA_view_60 : decode c_MA_view 60 = .ok (.ireturn, 1) := by decide +kernel
theorem d_MA_view_61 : decode c_MA_view 61 = .ok (.aload_n 0, 1) := by decide +kernel
theorem d_MA_view_62 : decode c_MA_view 62 = .ok (.getfield 22, 3) := by decide +kernel
theorem d_MA_view_65 : decode c_MA_view 65 = .ok (.ireturn, 1) := by decide +kernel
theorem d_MA_view_66 : decode c_MA_view 66 = .ok (.aload_n 0, 1) := by decide +kernel
theorem d_MA_view_67 : decode c_MA_view 67 = .ok (.getfield 15, 3) := by decide +kernel
theorem d_MA_view_70 : decode c_MA_view 70 = .ok (.ireturn, 1) := by decide +kernel
theorem d_MA_view_71 : decode c_MA_view 71 = .ok (.aload_n 0, 1) := by decide +kernel
theorem d_MA_view_72 : decode c_MA_view 72 = .ok (.getfield 25, 3) := by decide +kernel
theorem d_MA_view_75 : decode c_MA_view 75 = .ok (.ireturn, 1) := by decide +kernel
theorem d_MA_view_76 : decode c_MA_view 76 = .ok (.aload_n 0, 1) := by decide +kernel
theorem d_MA_view_77 : decode c_MA_view 77 = .ok (.getfield 28, 3) := by decide +kernel
theorem d_MA_view_80 : decode c_MA_view 80 = .ok (.invokestatic 44, 3) := by decide +kernel
theorem d_MA_view_83 : decode c_MA_view 83 = .ok (.ireturn, 1) := by decide +kernel
theorem d_MA_view_84 : decode c_MA_view 84 = .ok (.aload_n 0, 1) := by decide +kernel
theorem d_MA_view_85 : decode c_MA_view 85 = .ok (.getfield 32, 3) := by decide +kernel
theorem d_MA_view_88 : decode c_MA_view 88 = .ok (.invokestatic 44, 3) := by decide +kernel
theorem d_MA_view_91 : decode c_MA_view 91 = .ok (.ireturn, 1) := by decide +kernel
theorem d_MA_view_92 : decode c_MA_view 92 = .ok (.aload_n 0, 1) := by decide +kernel
theorem d_MA_view_93 : decode c_MA_view 93 = .ok (.getfield 35, 3) := by decide +kernel
theorem d_MA_view_96 : decode c_MA_view 96 = .ok (.ireturn, 1) := by decide +kernel
theorem d_MA_view_97 : decode c_MA_view 97 = .ok (.aload_n 0, 1) := by decide +kernel
theorem d_MA_view_98 : decode c_MA_view 98 = .ok (.getfield 38, 3) := by decide +kernel
theorem d_MA_view_101 : decode c_MA_view 101 = .ok (.ireturn, 1) := by decide +kernel
theorem d_MA_view_102 : decode c_MA_view 102 = .ok (.iconst 0, 1) := by decide +kernel
theorem d_MA_view_103 : decode c_MA_view 103 = .ok (.ireturn, 1) := by decide +kernel
theorem d_MA_view_104 : decode c_MA_view 104 = .ok (.iconst 0, 1) := by decide +kernel
theorem d_MA_view_105 : decode c_MA_view 105 = .ok (.ireturn, 1) := by decide +kernel
theorem d_MA_view_106 : decode c_MA_view 106 = .ok (.iconst (-1), 1) := by decide +kernel
theorem d_MA_view_107 : decode c_MA_view 107 = .ok (.ireturn, 1) := by decide +kernel
theorem d_MA_peek_0 : decode c_MA_peek 0 = .ok (.aload_n 0, 1) := by decide +kernel
theorem d_MA_peek_1 : decode c_MA_peek 1 = .ok (.getfield 9, 3) := by decide +kernel
theorem d_MA_peek_4 : decode c_MA_peek 4 = .ok (.iload_n 1, 1) := by decide +kernel
theorem d_MA_peek_5 : decode c_MA_peek 5 = .ok (.sipush 255, 3) := by decide +kernel
theorem d_MA_peek_8 : decode c_MA_peek 8 = .ok (.iand, 1) := by decide +kernel
theorem d_MA_peek_9 : decode c_MA_peek 9 = .ok (.iaload, 1) := by decide +kernel
theorem d_MA_peek_10 : decode c_MA_peek 10 = .ok (.ireturn, 1) := by decide +kernel
theorem d_MA_begin_0 : decode c_MA_begin 0 = .ok (.iconst 0, 1) := by decide +kernel
theorem d_MA_begin_1 : decode c_MA_begin 1 = .ok (.istore_n 3, 1) := by decide +kernel
theorem d_MA_begin_2 : decode c_MA_begin 2 = .ok (.iload_n 3, 1) := by decide +kernel
theorem d_MA_begin_3 : decode c_MA_begin 3 = .ok (.sipush 256, 3) := by decide +kernel
theorem d_MA_begin_6 : decode c_MA_begin 6 = .ok (.if_icmp .ge 24, 3) := by decide +kernel
theorem d_MA_begin_9 : decode c_MA_begin 9 = .ok (.iload_n 3, 1) := by decide +kernel
theorem d_MA_begin_10 : decode c_MA_begin 10 = .ok (.aload_n 1, 1) := by decide +kernel
theorem d_MA_begin_11 : decode c_MA_begin 11 = .ok (.arraylength, 1) := by decide +kernel
theorem d_MA_begin_12 : decode c_MA_begin 12 = .ok (.if_icmp .ge 18, 3) := by decide +kernel
theorem d_MA_begin_15 : decode c_MA_begin 15 = .ok (.aload_n 0, 1) := by decide +kernel
theorem d_MA_begin_16 : decode c_MA_begin 16 = .ok (.getfield 9, 3) := by decide +kernel
theorem d_MA_begin_19 : decode c_MA_begin 19 = .ok (.iload_n 3, 1) := by decide +kernel
theorem d_MA_begin_20 : decode c_MA_begin 20 = .ok (.aload_n 1, 1) := by decide +kernel
theorem d_MA_begin_21 : decode c_MA_begin 21 = .ok (.iload_n 3, 1) := by decide +kernel
theorem d_MA_begin_22 : decode c_MA_begin 22 = .ok (.iaload, 1) := by decide +kernel
theorem d_MA_begin_23 : decode c_MA_begin 23 = .ok (.iastore, 1) := by decide +kernel
theorem d_MA_begin_24 : decode c_MA_begin 24 = .ok (.iinc 3 1, 3) := by decide +kernel
theorem d_MA_begin_27 : decode c_MA_begin 27 = .ok (.goto (-25), 3) := by decide +kernel
theorem d_MA_begin_30 : decode c_MA_begin 30 = .ok (.aload_n 0, 1) := by decide +kernel
theorem d_MA_begin_31 : decode c_MA_begin 31 = .ok (.iconst 0, 1) := by decide +kernel
theorem d_MA_begin_32 : decode c_MA_begin 32 = .ok (.putfield 19, 3) := by decide +kernel
theorem d_MA_begin_35 : decode c_MA_begin 35 = .ok (.aload_n 0, 1) := by decide +kernel
theorem d_MA_begin_36 : decode c_MA_begin 36 = .ok (.iconst 0, 1) := by decide +kernel
theorem d_MA_begin_37 : decode c_MA_begin 37 = .ok (.putfield 22, 3) := by decide +kernel
theorem d_MA_begin_40 : decode c_MA_begin 40 = .ok (.aload_n 0, 1) := by decide +kernel
theorem d_MA_begin_41 : decode c_MA_begin 41 = .ok (.sipush 255, 3) := by decide +kernel
theorem d_MA_begin_44 : decode c_MA_begin 44 = .ok (.putfield 15, 3) := by decide +kernel
theorem d_MA_begin_47 : decode c_MA_begin 47 = .ok (.aload_n 0, 1) := by decide +kernel
theorem d_MA_begin_48 : decode c_MA_begin 48 = .ok (.iload_n 2, 1) := by decide +kernel
theorem d_MA_begin_49 : decode c_MA_begin 49 = .ok (.putfield 25, 3) := by decide +kernel
theorem d_MA_begin_52 : decode c_MA_begin 52 = .ok (.aload_n 0, 1) := by decide +kernel
theorem d_MA_begin_53 : decode c_MA_begin 53 = .ok (.iconst 0, 1) := by decide +kernel
theorem d_MA_begin_54 : decode c_MA_begin 54 = .ok (.putfield 28, 3) := by decide +kernel
theorem d_MA_begin_57 : decode c_MA_begin 57 = .ok (.aload_n 0, 1) := by decide +kernel
theorem d_MA_begin_58 : decode c_MA_begin 58 = .ok (.iconst 0, 1) := by decide +kernel
theorem d_MA_begin_59 : decode c_MA_begin 59 = .ok (.putfield 32, 3) := by decide +kernel
theorem d_MA_begin_62 : decode c_MA_begin 62 = .ok (.aload_n 0, 1) := by decide +kernel
theorem d_MA_begin_63 : decode c_MA_begin 63 = .ok (.iconst 0, 1) := by decide +kernel
theorem d_MA_begin_64 : decode c_MA_begin 64 = .ok (.putfield 35, 3) := by decide +kernel
theorem d_MA_begin_67 : decode c_MA_begin 67 = .ok (.aload_n 0, 1) := by decide +kernel
theorem d_MA_begin_68 : decode c_MA_begin 68 = .ok (.iconst 0, 1) := by decide +kernel
theorem d_MA_begin_69 : decode c_MA_begin 69 = .ok (.putfield 38, 3) := by decide +kernel
theorem d_MA_begin_72 : decode c_MA_begin 72 = .ok (.return_, 1) := by decide +kernel
theorem d_MA_run_0 : decode c_MA_run 0 = .ok (.iconst 0, 1) := by decide +kernel
theorem d_MA_run_1 : decode c_MA_run 1 = .ok (.istore_n 2, 1) := by decide +kernel
theorem d_MA_run_2 : decode c_MA_run 2 = .ok (.iload_n 2, 1) := by decide +kernel
theorem d_MA_run_3 : decode c_MA_run 3 = .ok (.iload_n 1, 1) := by decide +kernel
theorem d_MA_run_4 : decode c_MA_run 4 = .ok (.if_icmp .ge 20, 3) := by decide +kernel
theorem d_MA_run_7 : decode c_MA_run 7 = .ok (.aload_n 0, 1) := by decide +kernel
theorem d_MA_run_8 : decode c_MA_run 8 = .ok (.getfield 35, 3) := by decide +kernel
theorem d_MA_run_11 : decode c_MA_run 11 = .ok (.ifCond .ne 13, 3) := by decide +kernel
theorem d_MA_run_14 : decode c_MA_run 14 = .ok (.aload_n 0, 1) := by decide +kernel
theorem d_MA_run_15 : decode c_MA_run 15 = .ok (.invokevirtual 41, 3) := by decide +kernel
theorem d_MA_run_18 : decode c_MA_run 18 = .ok (.iinc 2 1, 3) := by decide +kernel
theorem d_MA_run_21 : decode c_MA_run 21 = .ok (.goto (-19), 3) := by decide +kernel
theorem d_MA_run_24 : decode c_MA_run 24 = .ok (.aload_n 0, 1) := by decide +kernel
theorem d_MA_run_25 : decode c_MA_run 25 = .ok (.dup, 1) := by decide +kernel
theorem d_MA_run_26 : decode c_MA_run 26 = .ok (.getfield 38, 3) := by decide +kernel
theorem d_MA_run_29 : decode c_MA_run 29 = .ok (.iload_n 2, 1) := by decide +kernel
theorem d_MA_run_30 : decode c_MA_run 30 = .ok (.iadd, 1) := by decide +kernel
theorem d_MA_run_31 : decode c_MA_run 31 = .ok (.putfield 38, 3) := by decide +kernel
theorem d_MA_run_34 : decode c_MA_run 34 = .ok (.iload_n 2, 1) := by decide +kernel
theorem d_MA_run_35 : decode c_MA_run 35 = .ok (.ireturn, 1) := by decide +kernel
theorem d_MA_tested_0 : decode c_MA_tested 0 = .ok (.aload_n 0, 1) := by decide +kernel
theorem d_MA_tested_1 : decode c_MA_tested 1 = .ok (.iload_n 1, 1) := by decide +kernel
theorem d_MA_tested_2 : decode c_MA_tested 2 = .ok (.ifCond .ne 7, 3) := by decide +kernel
theorem d_MA_tested_5 : decode c_MA_tested 5 = .ok (.iconst 1, 1) := by decide +kernel
theorem d_MA_tested_6 : decode c_MA_tested 6 = .ok (.goto 4, 3) := by decide +kernel
theorem d_MA_tested_9 : decode c_MA_tested 9 = .ok (.iconst 0, 1) := by decide +kernel
theorem d_MA_tested_10 : decode c_MA_tested 10 = .ok (.putfield 28, 3) := by decide +kernel
theorem d_MA_tested_13 : decode c_MA_tested 13 = .ok (.iload_n 1, 1) := by decide +kernel
theorem d_MA_tested_14 : decode c_MA_tested 14 = .ok (.ireturn, 1) := by decide +kernel
theorem d_MA_poke_0 : decode c_MA_poke 0 = .ok (.aload_n 0, 1) := by decide +kernel
theorem d_MA_poke_1 : decode c_MA_poke 1 = .ok (.getfield 9, 3) := by decide +kernel
theorem d_MA_poke_4 : decode c_MA_poke 4 = .ok (.iload_n 1, 1) := by decide +kernel
theorem d_MA_poke_5 : decode c_MA_poke 5 = .ok (.sipush 255, 3) := by decide +kernel
theorem d_MA_poke_8 : decode c_MA_poke 8 = .ok (.iand, 1) := by decide +kernel
theorem d_MA_poke_9 : decode c_MA_poke 9 = .ok (.iload_n 2, 1) := by decide +kernel
theorem d_MA_poke_10 : decode c_MA_poke 10 = .ok (.sipush 255, 3) := by decide +kernel
theorem d_MA_poke_13 : decode c_MA_poke 13 = .ok (.iand, 1) := by decide +kernel
theorem d_MA_poke_14 : decode c_MA_poke 14 = .ok (.iastore, 1) := by decide +kernel
theorem d_MA_poke_15 : decode c_MA_poke 15 = .ok (.return_, 1) := by decide +kernel
theorem d_MA_sum_0 : decode c_MA_sum 0 = .ok (.iload_n 1, 1) := by decide +kernel
theorem d_MA_sum_1 : decode c_MA_sum 1 = .ok (.iload_n 2, 1) := by decide +kernel
theorem d_MA_sum_2 : decode c_MA_sum 2 = .ok (.iadd, 1) := by decide +kernel
theorem d_MA_sum_3 : decode c_MA_sum 3 = .ok (.iload_n 3, 1) := by decide +kernel
theorem d_MA_sum_4 : decode c_MA_sum 4 = .ok (.invokestatic 44, 3) := by decide +kernel
theorem d_MA_sum_7 : decode c_MA_sum 7 = .ok (.iadd, 1) := by decide +kernel
theorem d_MA_sum_8 : decode c_MA_sum 8 = .ok (.istore 4, 2) := by decide +kernel
theorem d_MA_sum_10 : decode c_MA_sum 10 = .ok (.aload_n 0, 1) := by decide +kernel
theorem d_MA_sum_11 : decode c_MA_sum 11 = .ok (.iload 4, 2) := by decide +kernel
theorem d_MA_sum_13 : decode c_MA_sum 13 = .ok (.sipush 255, 3) := by decide +kernel
theorem d_MA_sum_16 : decode c_MA_sum 16 = .ok (.if_icmp .le 7, 3) := by decide +kernel
theorem d_MA_sum_19 : decode c_MA_sum 19 = .ok (.iconst 1, 1) := by decide +kernel
theorem d_MA_sum_20 : decode c_MA_sum 20 = .ok (.goto 4, 3) := by decide +kernel
theorem d_MA_sum_23 : decode c_MA_sum 23 = .ok (.iconst 0, 1) := by decide +kernel
theorem d_MA_sum_24 : decode c_MA_sum 24 = .ok (.putfield 32, 3) := by decide +kernel
theorem d_MA_sum_27 : decode c_MA_sum 27 = .ok (.aload_n 0, 1) := by decide +kernel
theorem d_MA_sum_28 : decode c_MA_sum 28 = .ok (.iload 4, 2) := by decide +kernel
theorem d_MA_sum_30 : decode c_MA_sum 30 = .ok (.sipush 255, 3) := by decide +kernel
theorem d_MA_sum_33 : decode c_MA_sum 33 = .ok (.iand, 1) := by decide +kernel
theorem d_MA_sum_34 : decode c_MA_sum 34 = .ok (.invokevirtual 56, 3) := by decide +kernel
theorem d_MA_sum_37 : decode c_MA_sum 37 = .ok (.ireturn, 1) := by decide +kernel
theorem d_MA_difference_0 : decode c_MA_difference 0 = .ok (.aload_n 0, 1) := by decide +kernel
theorem d_MA_difference_1 : decode c_MA_difference 1 = .ok (.iload_n 2, 1) := by decide +kernel
theorem d_MA_difference_2 : decode c_MA_difference 2 = .ok (.iload_n 1, 1) := by decide +kernel
theorem d_MA_difference_3 : decode c_MA_difference 3 = .ok (.if_icmp .le 7, 3) := by decide +kernel
theorem d_MA_difference_6 : decode c_MA_difference 6 = .ok (.iconst 1, 1) := by decide +kernel
theorem d_MA_difference_7 : decode c_MA_difference 7 = .ok (.goto 4, 3) := by decide +kernel
theorem d_MA_difference_10 : decode c_MA_difference 10 = .ok (.iconst 0, 1) := by decide +kernel
theorem d_MA_difference_11 : decode c_MA_difference 11 = .ok (.putfield 32, 3) := by decide +kernel
theorem d_MA_difference_14 : decode c_MA_difference 14 = .ok (.aload_n 0, 1) := by decide +kernel
theorem d_MA_difference_15 : decode c_MA_difference 15 = .ok (.iload_n 1, 1) := by decide +kernel
theorem d_MA_difference_16 : decode c_MA_difference 16 = .ok (.iload_n 2, 1) := by decide +kernel
theorem d_MA_difference_17 : decode c_MA_difference 17 = .ok (.isub, 1) := by decide +kernel
theorem d_MA_difference_18 : decode c_MA_difference 18 = .ok (.sipush 255, 3) := by decide +kernel
theorem d_MA_difference_21 : decode c_MA_difference 21 = .ok (.iand, 1) := by decide +kernel
theorem d_MA_difference_22 : decode c_MA_difference 22 = .ok (.invokevirtual 56, 3) := by decide +kernel
theorem d_MA_difference_25 : decode c_MA_difference 25 = .ok (.ireturn, 1) := by decide +kernel
theorem d_MA_testedWithoutCarry_0 : decode c_MA_testedWithoutCarry 0 = .ok (.aload_n 0, 1) := by decide +kernel
theorem d_MA_testedWithoutCarry_1 : decode c_MA_testedWithoutCarry 1 = .ok (.iconst 0, 1) := by decide +kernel
theorem d_MA_testedWithoutCarry_2 : decode c_MA_testedWithoutCarry 2 = .ok (.putfield 32, 3) := by decide +kernel
theorem d_MA_testedWithoutCarry_5 : decode c_MA_testedWithoutCarry 5 = .ok (.aload_n 0, 1) := by decide +kernel
theorem d_MA_testedWithoutCarry_6 : decode c_MA_testedWithoutCarry 6 = .ok (.iload_n 1, 1) := by decide +kernel
theorem d_MA_testedWithoutCarry_7 : decode c_MA_testedWithoutCarry 7 = .ok (.invokevirtual 56, 3) := by decide +kernel
theorem d_MA_testedWithoutCarry_10 : decode c_MA_testedWithoutCarry 10 = .ok (.ireturn, 1) := by decide +kernel
theorem d_MA_doubled_0 : decode c_MA_doubled 0 = .ok (.aload_n 0, 1) := by decide +kernel
theorem d_MA_doubled_1 : decode c_MA_doubled 1 = .ok (.iload_n 1, 1) := by decide +kernel
theorem d_MA_doubled_2 : decode c_MA_doubled 2 = .ok (.sipush 128, 3) := by decide +kernel
theorem d_MA_doubled_5 : decode c_MA_doubled 5 = .ok (.iand, 1) := by decide +kernel
theorem d_MA_doubled_6 : decode c_MA_doubled 6 = .ok (.ifCond .eq 7, 3) := by decide +kernel
theorem d_MA_doubled_9 : decode c_MA_doubled 9 = .ok (.iconst 1, 1) := by decide +kernel
theorem d_MA_doubled_10 : decode c_MA_doubled 10 = .ok (.goto 4, 3) := by decide +kernel
theorem d_MA_doubled_13 : decode c_MA_doubled 13 = .ok (.iconst 0, 1) := by decide +kernel
theorem d_MA_doubled_14 : decode c_MA_doubled 14 = .ok (.putfield 32, 3) := by decide +kernel
theorem d_MA_doubled_17 : decode c_MA_doubled 17 = .ok (.aload_n 0, 1) := by decide +kernel
theorem d_MA_doubled_18 : decode c_MA_doubled 18 = .ok (.iconst 2, 1) := by decide +kernel
theorem d_MA_doubled_19 : decode c_MA_doubled 19 = .ok (.iload_n 1, 1) := by decide +kernel
theorem d_MA_doubled_20 : decode c_MA_doubled 20 = .ok (.imul, 1) := by decide +kernel
theorem d_MA_doubled_21 : decode c_MA_doubled 21 = .ok (.sipush 255, 3) := by decide +kernel
theorem d_MA_doubled_24 : decode c_MA_doubled 24 = .ok (.iand, 1) := by decide +kernel
theorem d_MA_doubled_25 : decode c_MA_doubled 25 = .ok (.invokevirtual 56, 3) := by decide +kernel
theorem d_MA_doubled_28 : decode c_MA_doubled 28 = .ok (.ireturn, 1) := by decide +kernel
theorem d_MA_halved_0 : decode c_MA_halved 0 = .ok (.aload_n 0, 1) := by decide +kernel
theorem d_MA_halved_1 : decode c_MA_halved 1 = .ok (.iload_n 1, 1) := by decide +kernel
theorem d_MA_halved_2 : decode c_MA_halved 2 = .ok (.iconst 1, 1) := by decide +kernel
theorem d_MA_halved_3 : decode c_MA_halved 3 = .ok (.iand, 1) := by decide +kernel
theorem d_MA_halved_4 : decode c_MA_halved 4 = .ok (.ifCond .eq 7, 3) := by decide +kernel
theorem d_MA_halved_7 : decode c_MA_halved 7 = .ok (.iconst 1, 1) := by decide +kernel
theorem d_MA_halved_8 : decode c_MA_halved 8 = .ok (.goto 4, 3) := by decide +kernel
theorem d_MA_halved_11 : decode c_MA_halved 11 = .ok (.iconst 0, 1) := by decide +kernel
theorem d_MA_halved_12 : decode c_MA_halved 12 = .ok (.putfield 32, 3) := by decide +kernel
theorem d_MA_halved_15 : decode c_MA_halved 15 = .ok (.aload_n 0, 1) := by decide +kernel
theorem d_MA_halved_16 : decode c_MA_halved 16 = .ok (.iload_n 1, 1) := by decide +kernel
theorem d_MA_halved_17 : decode c_MA_halved 17 = .ok (.iconst 1, 1) := by decide +kernel
theorem d_MA_halved_18 : decode c_MA_halved 18 = .ok (.ishr, 1) := by decide +kernel
theorem d_MA_halved_19 : decode c_MA_halved 19 = .ok (.invokevirtual 56, 3) := by decide +kernel
theorem d_MA_halved_22 : decode c_MA_halved 22 = .ok (.ireturn, 1) := by decide +kernel
theorem d_MA_goIf_0 : decode c_MA_goIf 0 = .ok (.iload_n 1, 1) := by decide +kernel
theorem d_MA_goIf_1 : decode c_MA_goIf 1 = .ok (.ifCond .eq 8, 3) := by decide +kernel
theorem d_MA_goIf_4 : decode c_MA_goIf 4 = .ok (.aload_n 0, 1) := by decide +kernel
theorem d_MA_goIf_5 : decode c_MA_goIf 5 = .ok (.iload_n 2, 1) := by decide +kernel
theorem d_MA_goIf_6 : decode c_MA_goIf 6 = .ok (.putfield 25, 3) := by decide +kernel
theorem d_MA_goIf_9 : decode c_MA_goIf 9 = .ok (.return_, 1) := by decide +kernel
theorem d_MA_push_0 : decode c_MA_push 0 = .ok (.aload_n 0, 1) := by decide +kernel
theorem d_MA_push_1 : decode c_MA_push 1 = .ok (.aload_n 0, 1) := by decide +kernel
theorem d_MA_push_2 : decode c_MA_push 2 = .ok (.getfield 15, 3) := by decide +kernel
theorem d_MA_push_5 : decode c_MA_push 5 = .ok (.iload_n 1, 1) := by decide +kernel
theorem d_MA_push_6 : decode c_MA_push 6 = .ok (.invokevirtual 48, 3) := by decide +kernel
theorem d_MA_push_9 : decode c_MA_push 9 = .ok (.aload_n 0, 1) := by decide +kernel
theorem d_MA_push_10 : decode c_MA_push 10 = .ok (.aload_n 0, 1) := by decide +kernel
theorem d_MA_push_11 : decode c_MA_push 11 = .ok (.getfield 15, 3) := by decide +kernel
theorem d_MA_push_14 : decode c_MA_push 14 = .ok (.iconst 1, 1) := by decide +kernel
theorem d_MA_push_15 : decode c_MA_push 15 = .ok (.isub, 1) := by decide +kernel
theorem d_MA_push_16 : decode c_MA_push 16 = .ok (.sipush 255, 3) := by decide +kernel
theorem d_MA_push_19 : decode c_MA_push 19 = .ok (.iand, 1) := by decide +kernel
theorem d_MA_push_20 : decode c_MA_push 20 = .ok (.putfield 15, 3) := by decide +kernel
theorem d_MA_push_23 : decode c_MA_push 23 = .ok (.return_, 1) := by decide +kernel
theorem d_MA_pop_0 : decode c_MA_pop 0 = .ok (.aload_n 0, 1) := by decide +kernel
theorem d_MA_pop_1 : decode c_MA_pop 1 = .ok (.aload_n 0, 1) := by decide +kernel
theorem d_MA_pop_2 : decode c_MA_pop 2 = .ok (.getfield 15, 3) := by decide +kernel
theorem d_MA_pop_5 : decode c_MA_pop 5 = .ok (.iconst 1, 1) := by decide +kernel
theorem d_MA_pop_6 : decode c_MA_pop 6 = .ok (.iadd, 1) := by decide +kernel
theorem d_MA_pop_7 : decode c_MA_pop 7 = .ok (.sipush 255, 3) := by decide +kernel
theorem d_MA_pop_10 : decode c_MA_pop 10 = .ok (.iand, 1) := by decide +kernel
theorem d_MA_pop_11 : decode c_MA_pop 11 = .ok (.putfield 15, 3) := by decide +kernel
theorem d_MA_pop_14 : decode c_MA_pop 14 = .ok (.aload_n 0, 1) := by decide +kernel
theorem d_MA_pop_15 : decode c_MA_pop 15 = .ok (.aload_n 0, 1) := by decide +kernel
theorem d_MA_pop_16 : decode c_MA_pop 16 = .ok (.getfield 15, 3) := by decide +kernel
theorem d_MA_pop_19 : decode c_MA_pop 19 = .ok (.invokevirtual 52, 3) := by decide +kernel
theorem d_MA_pop_22 : decode c_MA_pop 22 = .ok (.ireturn, 1) := by decide +kernel
