theorem d_MO_instruction_399 : decode c_MO_instruction 399 = .ok (.bipush 25, 2) := by decide +kernel
theorem d_MO_instruction_401 : decode c_MO_instruction 401 = .ok (.iconst 2, 1) := by decide +kernel
theorem d_MO_instruction_402 : decode c_MO_instruction 402 = .ok (.iconst 0, 1) := by decide +kernel
theorem d_MO_instruction_403 : decode c_MO_instruction 403 = .ok (.invokevirtual 80, 3) := by decide +kernel
theorem d_MO_instruction_406 : decode c_MO_instruction 406 = .ok (.aload_n 0, 1) := by decide +kernel
theorem d_MO_instruction_407 : decode c_MO_instruction 407 = .ok (.bipush 26, 2) := by decide +kernel
theorem d_MO_instruction_409 : decode c_MO_instruction 409 = .ok (.iconst 2, 1) := by decide +kernel
theorem d_MO_instruction_410 : decode c_MO_instruction 410 = .ok (.iconst 0, 1) := by decide +kernel
theorem d_MO_instruction_411 : decode c_MO_instruction 411 = .ok (.invokevirtual 80, 3) := by decide +kernel
theorem d_MO_instruction_414 : decode c_MO_instruction 414 = .ok (.goto 63, 3) := by decide +kernel
theorem d_MO_instruction_417 : decode c_MO_instruction 417 = .ok (.aload_n 0, 1) := by decide +kernel
theorem d_MO_instruction_418 : decode c_MO_instruction 418 = .ok (.bipush 24, 2) := by decide +kernel
theorem d_MO_instruction_420 : decode c_MO_instruction 420 = .ok (.iconst 0, 1) := by decide +kernel
theorem d_MO_instruction_421 : decode c_MO_instruction 421 = .ok (.iconst 0, 1) := by decide +kernel
theorem d_MO_instruction_422 : decode c_MO_instruction 422 = .ok (.invokevirtual 80, 3) := by decide +kernel
theorem d_MO_instruction_425 : decode c_MO_instruction 425 = .ok (.goto 52, 3) := by decide +kernel
theorem d_MO_instruction_428 : decode c_MO_instruction 428 = .ok (.aload_n 0, 1) := by decide +kernel
theorem d_MO_instruction_429 : decode c_MO_instruction 429 = .ok (.bipush 25, 2) := by decide +kernel
theorem d_MO_instruction_431 : decode c_MO_instruction 431 = .ok (.iconst 0, 1) := by decide +kernel
theorem d_MO_instruction_432 : decode c_MO_instruction 432 = .ok (.iconst 0, 1) := by decide +kernel
theorem d_MO_instruction_433 : decode c_MO_instruction 433 = .ok (.invokevirtual 84, 3) := by decide +kernel
theorem d_MO_instruction_436 : decode c_MO_instruction 436 = .ok (.goto 41, 3) := by decide +kernel
theorem d_MO_instruction_439 : decode c_MO_instruction 439 = .ok (.aload_n 0, 1) := by decide +kernel
theorem d_MO_instruction_440 : decode c_MO_instruction 440 = .ok (.bipush 26, 2) := by decide +kernel
theorem d_MO_instruction_442 : decode c_MO_instruction 442 = .ok (.iconst 1, 1) := by decide +kernel
theorem d_MO_instruction_443 : decode c_MO_instruction 443 = .ok (.iconst 0, 1) := by decide +kernel
theorem d_MO_instruction_444 : decode c_MO_instruction 444 = .ok (.invokevirtual 80, 3) := by decide +kernel
theorem d_MO_instruction_447 : decode c_MO_instruction 447 = .ok (.goto 30, 3) := by decide +kernel
theorem d_MO_instruction_450 : decode c_MO_instruction 450 = .ok (.aload_n 0, 1) := by decide +kernel
theorem d_MO_instruction_451 : decode c_MO_instruction 451 = .ok (.iload_n 2, 1) := by decide +kernel
theorem d_MO_instruction_452 : decode c_MO_instruction 452 = .ok (.iconst 2, 1) := by decide +kernel
theorem d_MO_instruction_453 : decode c_MO_instruction 453 = .ok (.if_icmp .ge 7, 3) := by decide +kernel
theorem d_MO_instruction_456 : decode c_MO_instruction 456 = .ok (.iload_n 2, 1) := by decide +kernel
theorem d_MO_instruction_457 : decode c_MO_instruction 457 = .ok (.goto 6, 3) := by decide +kernel
theorem d_MO_instruction_460 : decode c_MO_instruction 460 = .ok (.iload_n 2, 1) := by decide +kernel
theorem d_MO_instruction_461 : decode c_MO_instruction 461 = .ok (.iconst 3, 1) := by decide +kernel
theorem d_MO_instruction_462 : decode c_MO_instruction 462 = .ok (.isub, 1) := by decide +kernel
theorem d_MO_instruction_463 : decode c_MO_instruction 463 = .ok (.iconst 0, 1) := by decide +kernel
theorem d_MO_instruction_464 : decode c_MO_instruction 464 = .ok (.iload_n 2, 1) := by decide +kernel
theorem d_MO_instruction_465 : decode c_MO_instruction 465 = .ok (.iconst 2, 1) := by decide +kernel
theorem d_MO_instruction_466 : decode c_MO_instruction 466 = .ok (.if_icmp .ge 7, 3) := by decide +kernel
theorem d_MO_instruction_469 : decode c_MO_instruction 469 = .ok (.iconst 0, 1) := by decide +kernel
theorem d_MO_instruction_470 : decode c_MO_instruction 470 = .ok (.goto 4, 3) := by decide +kernel
theorem d_MO_instruction_473 : decode c_MO_instruction 473 = .ok (.iload_n 3, 1) := by decide +kernel
theorem d_MO_instruction_474 : decode c_MO_instruction 474 = .ok (.invokevirtual 80, 3) := by decide +kernel
theorem d_MO_instruction_477 : decode c_MO_instruction 477 = .ok (.return_, 1) := by decide +kernel
theorem d_MO_around_0 : decode c_MO_around 0 = .ok (.aload_n 0, 1) := by decide +kernel
theorem d_MO_around_1 : decode c_MO_around 1 = .ok (.bipush 17, 2) := by decide +kernel
theorem d_MO_around_3 : decode c_MO_around 3 = .ok (.iconst 0, 1) := by decide +kernel
theorem d_MO_around_4 : decode c_MO_around 4 = .ok (.iconst 0, 1) := by decide +kernel
theorem d_MO_around_5 : decode c_MO_around 5 = .ok (.invokevirtual 80, 3) := by decide +kernel
theorem d_MO_around_8 : decode c_MO_around 8 = .ok (.aload_n 0, 1) := by decide +kernel
theorem d_MO_around_9 : decode c_MO_around 9 = .ok (.iload_n 1, 1) := by decide +kernel
theorem d_MO_around_10 : decode c_MO_around 10 = .ok (.iload_n 2, 1) := by decide +kernel
theorem d_MO_around_11 : decode c_MO_around 11 = .ok (.iload_n 3, 1) := by decide +kernel
theorem d_MO_around_12 : decode c_MO_around 12 = .ok (.invokevirtual 80, 3) := by decide +kernel
theorem d_MO_around_15 : decode c_MO_around 15 = .ok (.aload_n 0, 1) := by decide +kernel
theorem d_MO_around_16 : decode c_MO_around 16 = .ok (.bipush 8, 2) := by decide +kernel
theorem d_MO_around_18 : decode c_MO_around 18 = .ok (.iconst 0, 1) := by decide +kernel
theorem d_MO_around_19 : decode c_MO_around 19 = .ok (.iconst 0, 1) := by decide +kernel
theorem d_MO_around_20 : decode c_MO_around 20 = .ok (.invokevirtual 80, 3) := by decide +kernel
theorem d_MO_around_23 : decode c_MO_around 23 = .ok (.aload_n 0, 1) := by decide +kernel
theorem d_MO_around_24 : decode c_MO_around 24 = .ok (.bipush 18, 2) := by decide +kernel
theorem d_MO_around_26 : decode c_MO_around 26 = .ok (.iconst 0, 1) := by decide +kernel
theorem d_MO_around_27 : decode c_MO_around 27 = .ok (.iconst 0, 1) := by decide +kernel
theorem d_MO_around_28 : decode c_MO_around 28 = .ok (.invokevirtual 80, 3) := by decide +kernel
theorem d_MO_around_31 : decode c_MO_around 31 = .ok (.return_, 1) := by decide +kernel
theorem d_MO_row_0 : decode c_MO_row 0 = .ok (.aload_n 0, 1) := by decide +kernel
theorem d_MO_row_1 : decode c_MO_row 1 = .ok (.getfield 20, 3) := by decide +kernel
theorem d_MO_row_4 : decode c_MO_row 4 = .ok (.aload_n 0, 1) := by decide +kernel
theorem d_MO_row_5 : decode c_MO_row 5 = .ok (.getfield 77, 3) := by decide +kernel
theorem d_MO_row_8 : decode c_MO_row 8 = .ok (.iload_n 1, 1) := by decide +kernel
theorem d_MO_row_9 : decode c_MO_row 9 = .ok (.iastore, 1) := by decide +kernel
theorem d_MO_row_10 : decode c_MO_row 10 = .ok (.aload_n 0, 1) := by decide +kernel
theorem d_MO_row_11 : decode c_MO_row 11 = .ok (.getfield 23, 3) := by decide +kernel
theorem d_MO_row_14 : decode c_MO_row 14 = .ok (.aload_n 0, 1) := by decide +kernel
theorem d_MO_row_15 : decode c_MO_row 15 = .ok (.getfield 77, 3) := by decide +kernel
theorem d_MO_row_18 : decode c_MO_row 18 = .ok (.iload_n 2, 1) := by decide +kernel
theorem d_MO_row_19 : decode c_MO_row 19 = .ok (.iastore, 1) := by decide +kernel
theorem d_MO_row_20 : decode c_MO_row 20 = .ok (.aload_n 0, 1) := by decide +kernel
theorem d_MO_row_21 : decode c_MO_row 21 = .ok (.getfield 26, 3) := by decide +kernel
theorem d_MO_row_24 : decode c_MO_row 24 = .ok (.aload_n 0, 1) := by decide +kernel
theorem d_MO_row_25 : decode c_MO_row 25 = .ok (.getfield 77, 3) := by decide +kernel
theorem d_MO_row_28 : decode c_MO_row 28 = .ok (.iload_n 3, 1) := by decide +kernel
theorem d_MO_row_29 : decode c_MO_row 29 = .ok (.iastore, 1) := by decide +kernel
theorem d_MO_row_30 : decode c_MO_row 30 = .ok (.aload_n 0, 1) := by decide +kernel
theorem d_MO_row_31 : decode c_MO_row 31 = .ok (.dup, 1) := by decide +kernel
theorem d_MO_row_32 : decode c_MO_row 32 = .ok (.getfield 77, 3) := by decide +kernel
theorem d_MO_row_35 : decode c_MO_row 35 = .ok (.iconst 1, 1) := by decide +kernel
theorem d_MO_row_36 : decode c_MO_row 36 = .ok (.iadd, 1) := by decide +kernel
theorem d_MO_row_37 : decode c_MO_row 37 = .ok (.putfield 77, 3) := by decide +kernel
theorem d_MO_row_40 : decode c_MO_row 40 = .ok (.return_, 1) := by decide +kernel
theorem d_MO_steps_0 : decode c_MO_steps 0 = .ok (.aload_n 0, 1) := by decide +kernel
theorem d_MO_steps_1 : decode c_MO_steps 1 = .ok (.bipush 17, 2) := by decide +kernel
theorem d_MO_steps_3 : decode c_MO_steps 3 = .ok (.iconst 0, 1) := by decide +kernel
theorem d_MO_steps_4 : decode c_MO_steps 4 = .ok (.iconst 0, 1) := by decide +kernel
theorem d_MO_steps_5 : decode c_MO_steps 5 = .ok (.invokevirtual 80, 3) := by decide +kernel
theorem d_MO_steps_8 : decode c_MO_steps 8 = .ok (.aload_n 0, 1) := by decide +kernel
theorem d_MO_steps_9 : decode c_MO_steps 9 = .ok (.iconst 2, 1) := by decide +kernel
theorem d_MO_steps_10 : decode c_MO_steps 10 = .ok (.iconst 2, 1) := by decide +kernel
theorem d_MO_steps_11 : decode c_MO_steps 11 = .ok (.iconst 1, 1) := by decide +kernel
theorem d_MO_steps_12 : decode c_MO_steps 12 = .ok (.invokevirtual 80, 3) := by decide +kernel
theorem d_MO_steps_15 : decode c_MO_steps 15 = .ok (.aload_n 0, 1) := by decide +kernel
theorem d_MO_steps_16 : decode c_MO_steps 16 = .ok (.iload_n 1, 1) := by decide +kernel
theorem d_MO_steps_17 : decode c_MO_steps 17 = .ok (.iconst 1, 1) := by decide +kernel
theorem d_MO_steps_18 : decode c_MO_steps 18 = .ok (.iconst 2, 1) := by decide +kernel
theorem d_MO_steps_19 : decode c_MO_steps 19 = .ok (.invokevirtual 80, 3) := by decide +kernel
theorem d_MO_steps_22 : decode c_MO_steps 22 = .ok (.aload_n 0, 1) := by decide +kernel
theorem d_MO_steps_23 : decode c_MO_steps 23 = .ok (.bipush 18, 2) := by decide +kernel
theorem d_MO_steps_25 : decode c_MO_steps 25 = .ok (.iconst 0, 1) := by decide +kernel
theorem d_MO_steps_26 : decode c_MO_steps 26 = .ok (.iconst 0, 1) := by decide +kernel
theorem d_MO_steps_27 : decode c_MO_steps 27 = .ok (.invokevirtual 80, 3) := by decide +kernel
theorem d_MO_steps_30 : decode c_MO_steps 30 = .ok (.return_, 1) := by decide +kernel
theorem d_MO_pair_0 : decode c_MO_pair 0 = .ok (.aload_n 0, 1) := by decide +kernel
theorem d_MO_pair_1 : decode c_MO_pair 1 = .ok (.iload_n 1, 1) := by decide +kernel
theorem d_MO_pair_2 : decode c_MO_pair 2 = .ok (.iconst 2, 1) := by decide +kernel
theorem d_MO_pair_3 : decode c_MO_pair 3 = .ok (.iload_n 2, 1) := by decide +kernel
theorem d_MO_pair_4 : decode c_MO_pair 4 = .ok (.invokevirtual 80, 3) := by decide +kernel
theorem d_MO_pair_7 : decode c_MO_pair 7 = .ok (.aload_n 0, 1) := by decide +kernel
theorem d_MO_pair_8 : decode c_MO_pair 8 = .ok (.iload_n 3, 1) := by decide +kernel
theorem d_MO_pair_9 : decode c_MO_pair 9 = .ok (.iconst 0, 1) := by decide +kernel
theorem d_MO_pair_10 : decode c_MO_pair 10 = .ok (.iconst 2, 1) := by decide +kernel
theorem d_MO_pair_11 : decode c_MO_pair 11 = .ok (.invokevirtual 80, 3) := by decide +kernel
theorem d_MO_pair_14 : decode c_MO_pair 14 = .ok (.return_, 1) := by decide +kernel
theorem d_MO_first_0 : decode c_MO_first 0 = .ok (.aload_n 0, 1) := by decide +kernel
theorem d_MO_first_1 : decode c_MO_first 1 = .ok (.aload_n 0, 1) := by decide +kernel
theorem d_MO_first_2 : decode c_MO_first 2 = .ok (.iload_n 1, 1) := by decide +kernel
theorem d_MO_first_3 : decode c_MO_first 3 = .ok (.invokevirtual 163, 3) := by decide +kernel
theorem d_MO_first_6 : decode c_MO_first 6 = .ok (.putfield 53, 3) := by decide +kernel
theorem d_MO_first_9 : decode c_MO_first 9 = .ok (.iconst 0, 1) := by decide +kernel
theorem d_MO_first_10 : decode c_MO_first 10 = .ok (.istore_n 2, 1) := by decide +kernel
theorem d_MO_first_11 : decode c_MO_first 11 = .ok (.aload_n 0, 1) := by decide +kernel
theorem d_MO_first_12 : decode c_MO_first 12 = .ok (.getfield 53, 3) := by decide +kernel
theorem d_MO_first_15 : decode c_MO_first 15 = .ok (.ifCond .ne 27, 3) := by decide +kernel
theorem d_MO_first_18 : decode c_MO_first 18 = .ok (.iload_n 2, 1) := by decide +kernel
theorem d_MO_first_19 : decode c_MO_first 19 = .ok (.iload_n 1, 1) := by decide +kernel
theorem d_MO_first_20 : decode c_MO_first 20 = .ok (.if_icmp .ge 22, 3) := by decide +kernel
theorem d_MO_first_23 : decode c_MO_first 23 = .ok (.aload_n 0, 1) := by decide +kernel
theorem d_MO_first_24 : decode c_MO_first 24 = .ok (.getfield 47, 3) := by decide +kernel
theorem d_MO_first_27 : decode c_MO_first 27 = .ok (.iconst 0, 1) := by decide +kernel
theorem d_MO_first_28 : decode c_MO_first 28 = .ok (.iaload, 1) := by decide +kernel
theorem d_MO_first_29 : decode c_MO_first 29 = .ok (.ifCond .ne 13, 3) := by decide +kernel
theorem d_MO_first_32 : decode c_MO_first 32 = .ok (.aload_n 0, 1) := by decide +kernel
theorem d_MO_first_33 : decode c_MO_first 33 = .ok (.invokevirtual 166, 3) := by decide +kernel
theorem d_MO_first_36 : decode c_MO_first 36 = .ok (.iinc 2 1, 3) := by decide +kernel
theorem d_MO_first_39 : decode c_MO_first 39 = .ok (.goto (-28), 3) := by decide +kernel
theorem d_MO_first_42 : decode c_MO_first 42 = .ok (.iload_n 2, 1) := by decide +kernel
theorem d_MO_first_43 : decode c_MO_first 43 = .ok (.ireturn, 1) := by decide +kernel
theorem d_MO_limits_0 : decode c_MO_limits 0 = .ok (.iload_n 1, 1) := by decide +kernel
theorem d_MO_limits_1 : decode c_MO_limits 1 = .ok (.iconst 1, 1) := by decide +kernel
theorem d_MO_limits_2 : decode c_MO_limits 2 = .ok (.if_icmp .lt 10, 3) := by decide +kernel
theorem d_MO_limits_5 : decode c_MO_limits 5 = .ok (.iload_n 1, 1) := by decide +kernel
theorem d_MO_limits_6 : decode c_MO_limits 6 = .ok (.sipush 300, 3) := by decide +kernel
theorem d_MO_limits_9 : decode c_MO_limits 9 = .ok (.if_icmp .le 7, 3) := by decide +kernel
theorem d_MO_limits_12 : decode c_MO_limits 12 = .ok (.iconst 1, 1) := by decide +kernel
theorem d_MO_limits_13 : decode c_MO_limits 13 = .ok (.goto 15, 3) := by decide +kernel
theorem d_MO_limits_16 : decode c_MO_limits 16 = .ok (.aload_n 0, 1) := by decide +kernel
theorem d_MO_limits_17 : decode c_MO_limits 17 = .ok (.getfield 104, 3) := by decide +kernel
theorem d_MO_limits_20 : decode c_MO_limits 20 = .ok (.ifCond .ne 7, 3) := by decide +kernel
theorem d_MO_limits_23 : decode c_MO_limits 23 = .ok (.iconst 2, 1) := by decide +kernel
theorem d_MO_limits_24 : decode c_MO_limits 24 = .ok (.goto 4, 3) := by decide +kernel
theorem d_MO_limits_27 : decode c_MO_limits 27 = .ok (.iconst 0, 1) := by decide +kernel
theorem d_MO_limits_28 : decode c_MO_limits 28 = .ok (.ireturn, 1) := by decide +kernel
theorem d_MO_stepFirst_0 : decode c_MO_stepFirst 0 = .ok (.aload_n 0, 1) := by decide +kernel
theorem d_MO_stepFirst_1 : decode c_MO_stepFirst 1 = .ok (.getfield 50, 3) := by decide +kernel
theorem d_MO_stepFirst_4 : decode c_MO_stepFirst 4 = .ok (.iconst 0, 1) := by decide +kernel
theorem d_MO_stepFirst_5 : decode c_MO_stepFirst 5 = .ok (.dup2, 1) := by decide +kernel
theorem d_MO_stepFirst_6 : decode c_MO_stepFirst 6 = .ok (.iaload, 1) := by decide +kernel
theorem d_MO_stepFirst_7 : decode c_MO_stepFirst 7 = .ok (.iconst 1, 1) := by decide +kernel
theorem d_MO_stepFirst_8 : decode c_MO_stepFirst 8 = .ok (.iadd, 1) := by decide +kernel
theorem d_MO_stepFirst_9 : decode c_MO_stepFirst 9 = .ok (.iastore, 1) := by decide +kernel
theorem d_MO_stepFirst_10 : decode c_MO_stepFirst 10 = .ok (.aload_n 0, 1) := by decide +kernel
theorem d_MO_stepFirst_11 : decode c_MO_stepFirst 11 = .ok (.iconst 0, 1) := by decide +kernel
theorem d_MO_stepFirst_12 : decode c_MO_stepFirst 12 = .ok (.aload_n 0, 1) := by decide +kernel
theorem d_MO_stepFirst_13 : decode c_MO_stepFirst 13 = .ok (.getfield 38, 3) := by decide +kernel
theorem d_MO_stepFirst_16 : decode c_MO_stepFirst 16 = .ok (.iconst 0, 1) := by decide +kernel
theorem d_MO_stepFirst_17 : decode c_MO_stepFirst 17 = .ok (.iaload, 1) := by decide +kernel
theorem d_MO_stepFirst_18 : decode c_MO_stepFirst 18 = .ok (.invokevirtual 114, 3) := by decide +kernel
theorem d_MO_stepFirst_21 : decode c_MO_stepFirst 21 = .ok (.istore_n 1, 1) := by decide +kernel
theorem d_MO_stepFirst_22 : decode c_MO_stepFirst 22 = .ok (.aload_n 0, 1) := by decide +kernel
theorem d_MO_stepFirst_23 : decode c_MO_stepFirst 23 = .ok (.iconst 0, 1) := by decide +kernel
theorem d_MO_stepFirst_24 : decode c_MO_stepFirst 24 = .ok (.aload_n 0, 1) := by decide +kernel
theorem d_MO_stepFirst_25 : decode c_MO_stepFirst 25 = .ok (.getfield 38, 3) := by decide +kernel
theorem d_MO_stepFirst_28 : decode c_MO_stepFirst 28 = .ok (.iconst 0, 1) := by decide +kernel
theorem d_MO_stepFirst_29 : decode c_MO_stepFirst 29 = .ok (.iaload, 1) := by decide +kernel
theorem d_MO_stepFirst_30 : decode c_MO_stepFirst 30 = .ok (.iconst 1, 1) := by decide +kernel
theorem d_MO_stepFirst_31 : decode c_MO_stepFirst 31 = .ok (.iadd, 1) := by decide +kernel
theorem d_MO_stepFirst_32 : decode c_MO_stepFirst 32 = .ok (.invokevirtual 114, 3) := by decide +kernel
theorem d_MO_stepFirst_35 : decode c_MO_stepFirst 35 = .ok (.istore_n 2, 1) := by decide +kernel
theorem d_MO_stepFirst_36 : decode c_MO_stepFirst 36 = .ok (.iload_n 1, 1) := by decide +kernel
theorem d_MO_stepFirst_37 : decode c_MO_stepFirst 37 = .ok (.iconst 1, 1) := by decide +kernel
theorem d_MO_stepFirst_38 : decode c_MO_stepFirst 38 = .ok (.if_icmp .eq 9, 3) := by decide +kernel
theorem d_MO_stepFirst_41 : decode c_MO_stepFirst 41 = .ok (.iload_n 1, 1) := by decide +kernel
theorem d_MO_stepFirst_42 : decode c_MO_stepFirst 42 = .ok (.bipush 31, 2) := by decide +kernel
theorem d_MO_stepFirst_44 : decode c_MO_stepFirst 44 = .ok (.if_icmp .le 20, 3) := by decide +kernel
theorem d_MO_stepFirst_47 : decode c_MO_stepFirst 47 = .ok (.aload_n 0, 1) := by decide +kernel
theorem d_MO_stepFirst_48 : decode c_MO_stepFirst 48 = .ok (.getfield 47, 3) := by decide +kernel
theorem d_MO_stepFirst_51 : decode c_MO_stepFirst 51 = .ok (.iconst 0, 1) := by decide +kernel
theorem d_MO_stepFirst_52 : decode c_MO_stepFirst 52 = .ok (.iload_n 1, 1) := by decide +kernel
theorem d_MO_stepFirst_53 : decode c_MO_stepFirst 53 = .ok (.iconst 1, 1) := by decide +kernel
theorem d_MO_stepFirst_54 : decode c_MO_stepFirst 54 = .ok (.if_icmp .ne 7, 3) := by decide +kernel
theorem d_MO_stepFirst_57 : decode c_MO_stepFirst 57 = .ok (.iconst 1, 1) := by decide +kernel
theorem d_MO_stepFirst_58 : decode c_MO_stepFirst 58 = .ok (.goto 4, 3) := by decide +kernel
theorem d_MO_stepFirst_61 : decode c_MO_stepFirst 61 = .ok (.iconst 2, 1) := by decide +kernel
theorem d_MO_stepFirst_62 : decode c_MO_stepFirst 62 = .ok (.iastore, 1) := by decide +kernel
theorem d_MO_stepFirst_63 : decode c_MO_stepFirst 63 = .ok (.return_, 1) := by decide +kernel
theorem d_MO_stepFirst_64 : decode c_MO_stepFirst 64 = .ok (.aload_n 0, 1) := by decide +kernel
theorem d_MO_stepFirst_65 : decode c_MO_stepFirst 65 = .ok (.getfield 38, 3) := by decide +kernel
theorem d_MO_stepFirst_68 : decode c_MO_stepFirst 68 = .ok (.iconst 0, 1) := by decide +kernel
theorem d_MO_stepFirst_69 : decode c_MO_stepFirst 69 = .ok (.aload_n 0, 1) := by decide +kernel
theorem d_MO_stepFirst_70 : decode c_MO_stepFirst 70 = .ok (.getfield 38, 3) := by decide +kernel
theorem d_MO_stepFirst_73 : decode c_MO_stepFirst 73 = .ok (.iconst 0, 1) := by decide +kernel
theorem d_MO_stepFirst_74 : decode c_MO_stepFirst 74 = .ok (.iaload, 1) := by decide +kernel
theorem d_MO_stepFirst_75 : decode c_MO_stepFirst 75 = .ok (.iload_n 1, 1) := by decide +kernel
theorem d_MO_stepFirst_76 : decode c_MO_stepFirst 76 = .ok (.invokestatic 61, 3) := by decide +kernel
theorem d_MO_stepFirst_79 : decode c_MO_stepFirst 79 = .ok (.iadd, 1) := by decide +kernel
theorem d_MO_stepFirst_80 : decode c_MO_stepFirst 80 = .ok (.sipush 255, 3) := by decide +kernel
theorem d_MO_stepFirst_83 : decode c_MO_stepFirst 83 = .ok (.iand, 1) := by decide +kernel
theorem d_MO_stepFirst_84 : decode c_MO_stepFirst 84 = .ok (.iastore, 1) := by decide +kernel
theorem d_MO_stepFirst_85 : decode c_MO_stepFirst 85 = .ok (.iload_n 1, 1) := by decide +kernel
theorem d_MO_stepFirst_86 : decode c_MO_stepFirst 86 = .ok (.bipush 21, 2) := by decide +kernel
theorem d_MO_stepFirst_88 : decode c_MO_stepFirst 88 = .ok (.if_icmp .le 12, 3) := by decide +kernel
theorem d_MO_stepFirst_91 : decode c_MO_stepFirst 91 = .ok (.aload_n 0, 1) := by decide +kernel
theorem d_MO_stepFirst_92 : decode c_MO_stepFirst 92 = .ok (.iload_n 1, 1) := by decide +kernel
theorem d_MO_stepFirst_93 : decode c_MO_stepFirst 93 = .ok (.iload_n 2, 1) := by decide +kernel
theorem d_MO_stepFirst_94 : decode c_MO_stepFirst 94 = .ok (.invokevirtual 148, 3) := by decide +kernel
theorem d_MO_stepFirst_97 : decode c_MO_stepFirst 97 = .ok (.goto 29, 3) := by decide +kernel
theorem d_MO_stepFirst_100 : decode c_MO_stepFirst 100 = .ok (.iload_n 1, 1) := by decide +kernel
theorem d_MO_stepFirst_101 : decode c_MO_stepFirst 101 = .ok (.bipush 11, 2) := by decide +kernel
theorem d_MO_stepFirst_103 : decode c_MO_stepFirst 103 = .ok (.if_icmp .le 12, 3) := by decide +kernel
theorem d_MO_stepFirst_106 : decode c_MO_stepFirst 106 = .ok (.aload_n 0, 1) := by decide +kernel
theorem d_MO_stepFirst_107 : decode c_MO_stepFirst 107 = .ok (.iload_n 1, 1) := by decide +kernel
theorem d_MO_stepFirst_108 : decode c_MO_stepFirst 108 = .ok (.iload_n 2, 1) := by decide +kernel
theorem d_MO_stepFirst_109 : decode c_MO_stepFirst 109 = .ok (.invokevirtual 151, 3) := by decide +kernel
theorem d_MO_stepFirst_112 : decode c_MO_stepFirst 112 = .ok (.goto 14, 3) := by decide +kernel
theorem d_MO_stepFirst_115 : decode c_MO_stepFirst 115 = .ok (.iload_n 1, 1) := by decide +kernel
theorem d_MO_stepFirst_116 : decode c_MO_stepFirst 116 = .ok (.iconst 1, 1) := by decide +kernel
theorem d_MO_stepFirst_117 : decode c_MO_stepFirst 117 = .ok (.if_icmp .le 9, 3) := by decide +kernel
theorem d_MO_stepFirst_120 : decode c_MO_stepFirst 120 = .ok (.aload_n 0, 1) := by decide +kernel
theorem d_MO_stepFirst_121 : decode c_MO_stepFirst 121 = .ok (.iload_n 1, 1) := by decide +kernel
theorem d_MO_stepFirst_122 : decode c_MO_stepFirst 122 = .ok (.iload_n 2, 1) := by decide +kernel
theorem d_MO_stepFirst_123 : decode c_MO_stepFirst 123 = .ok (.invokevirtual 154, 3) := by decide +kernel
theorem d_MO_stepFirst_126 : decode c_MO_stepFirst 126 = .ok (.return_, 1) := by decide +kernel
theorem d_MO_get_0 : decode c_MO_get 0 = .ok (.aload_n 0, 1) := by decide +kernel
theorem d_MO_get_1 : decode c_MO_get 1 = .ok (.getfield 32, 3) := by decide +kernel
theorem d_MO_get_4 : decode c_MO_get 4 = .ok (.sipush 256, 3) := by decide +kernel
theorem d_MO_get_7 : decode c_MO_get 7 = .ok (.iload_n 1, 1) := by decide +kernel
theorem d_MO_get_8 : decode c_MO_get 8 = .ok (.imul, 1) := by decide +kernel
theorem d_MO_get_9 : decode c_MO_get 9 = .ok (.iload_n 2, 1) := by decide +kernel
theorem d_MO_get_10 : decode c_MO_get 10 = .ok (.sipush 255, 3) := by decide +kernel
theorem d_MO_get_13 : decode c_MO_get 13 = .ok (.iand, 1) := by decide +kernel
theorem d_MO_get_14 : decode c_MO_get 14 = .ok (.iadd, 1) := by decide +kernel
theorem d_MO_get_15 : decode c_MO_get 15 = .ok (.iaload, 1) := by decide +kernel
theorem d_MO_get_16 : decode c_MO_get 16 = .ok (.ireturn, 1) := by decide +kernel
theorem d_MO_transfers_0 : decode c_MO_transfers 0 = .ok (.aload_n 0, 1) := by decide +kernel
theorem d_MO_transfers_1 : decode c_MO_transfers 1 = .ok (.getfield 38, 3) := by decide +kernel
theorem d_MO_transfers_4 : decode c_MO_transfers 4 = .ok (.iconst 0, 1) := by decide +kernel
theorem d_MO_transfers_5 : decode c_MO_transfers 5 = .ok (.iaload, 1) := by decide +kernel
theorem d_MO_transfers_6 : decode c_MO_transfers 6 = .ok (.istore_n 3, 1) := by decide +kernel
theorem d_MO_transfers_7 : decode c_MO_transfers 7 = .ok (.iload_n 1, 1) := by decide +kernel
theorem d_MO_transfers_8 : decode c_MO_transfers 8 = .ok (.bipush 22, 2) := by decide +kernel
theorem d_MO_transfers_10 : decode c_MO_transfers 10 = .ok (.if_icmp .eq 64, 3) := by decide +kernel
theorem d_MO_transfers_13 : decode c_MO_transfers 13 = .ok (.iload_n 1, 1) := by decide +kernel
theorem d_MO_transfers_14 : decode c_MO_transfers 14 = .ok (.bipush 27, 2) := by decide +kernel
theorem d_MO_transfers_16 : decode c_MO_transfers 16 = .ok (.if_icmp .eq 58, 3) := by decide +kernel
theorem d_MO_transfers_19 : decode c_MO_transfers 19 = .ok (.iload_n 1, 1) := by decide +kernel
theorem d_MO_transfers_20 : decode c_MO_transfers 20 = .ok (.bipush 23, 2) := by decide +kernel
theorem d_MO_transfers_22 : decode c_MO_transfers 22 = .ok (.if_icmp .eq 9, 3) := by decide +kernel
theorem d_MO_transfers_25 : decode c_MO_transfers 25 = .ok (.iload_n 1, 1) := by decide +kernel
theorem d_MO_transfers_26 : decode c_MO_transfers 26 = .ok (.bipush 24, 2) := by decide +kernel
theorem d_MO_transfers_28 : decode c_MO_transfers 28 = .ok (.if_icmp .ne 26, 3) := by decide +kernel
theorem d_MO_transfers_31 : decode c_MO_transfers 31 = .ok (.aload_n 0, 1) := by decide +kernel
theorem d_MO_transfers_32 : decode c_MO_transfers 32 = .ok (.getfield 41, 3) := by decide +kernel
theorem d_MO_transfers_35 : decode c_MO_transfers 35 = .ok (.iconst 0, 1) := by decide +kernel
theorem d_MO_transfers_36 : decode c_MO_transfers 36 = .ok (.baload, 1) := by decide +kernel
theorem d_MO_transfers_37 : decode c_MO_transfers 37 = .ok (.iload_n 1, 1) := by decide +kernel
theorem d_MO_transfers_38 : decode c_MO_transfers 38 = .ok (.bipush 23, 2) := by decide +kernel
theorem d_MO_transfers_40 : decode c_MO_transfers 40 = .ok (.if_icmp .ne 7, 3) := by decide +kernel
theorem d_MO_transfers_43 : decode c_MO_transfers 43 = .ok (.iconst 1, 1) := by decide +kernel
theorem d_MO_transfers_44 : decode c_MO_transfers 44 = .ok (.goto 4, 3) := by decide +kernel
theorem d_MO_transfers_47 : decode c_MO_transfers 47 = .ok (.iconst 0, 1) := by decide +kernel
theorem d_MO_transfers_48 : decode c_MO_transfers 48 = .ok (.if_icmp .ne 30, 3) := by decide +kernel
theorem d_MO_transfers_51 : decode c_MO_transfers 51 = .ok (.goto 23, 3) := by decide +kernel
theorem d_MO_transfers_54 : decode c_MO_transfers 54 = .ok (.aload_n 0, 1) := by decide +kernel
theorem d_MO_transfers_55 : decode c_MO_transfers 55 = .ok (.getfield 44, 3) := by decide +kernel
theorem d_MO_transfers_58 : decode c_MO_transfers 58 = .ok (.iconst 0, 1) := by decide +kernel
theorem d_MO_transfers_59 : decode c_MO_transfers 59 = .ok (.baload, 1) := by decide +kernel
theorem d_MO_transfers_60 : decode c_MO_transfers 60 = .ok (.iload_n 1, 1) := by decide +kernel
theorem d_MO_transfers_61 : decode c_MO_transfers 61 = .ok (.bipush 25, 2) := by decide +kernel
theorem d_MO_transfers_63 : decode c_MO_transfers 63 = .ok (.if_icmp .ne 7, 3) := by decide +kernel
theorem d_MO_transfers_66 : decode c_MO_transfers 66 = .ok (.iconst 1, 1) := by decide +kernel
theorem d_MO_transfers_67 : decode c_MO_transfers 67 = .ok (.goto 4, 3) := by decide +kernel
theorem d_MO_transfers_70 : decode c_MO_transfers 70 = .ok (.iconst 0, 1) := by decide +kernel
theorem d_MO_transfers_71 : decode c_MO_transfers 71 = .ok (.if_icmp .ne 7, 3) := by decide +kernel
theorem d_MO_transfers_74 : decode c_MO_transfers 74 = .ok (.iconst 1, 1) := by decide +kernel
theorem d_MO_transfers_75 : decode c_MO_transfers 75 = .ok (.goto 4, 3) := by decide +kernel
theorem d_MO_transfers_78 : decode c_MO_transfers 78 = .ok (.iconst 0, 1) := by decide +kernel
theorem d_MO_transfers_79 : decode c_MO_transfers 79 = .ok (.istore 4, 2) := by decide +kernel
theorem d_MO_transfers_81 : decode c_MO_transfers 81 = .ok (.iload_n 1, 1) := by decide +kernel
theorem d_MO_transfers_82 : decode c_MO_transfers 82 = .ok (.bipush 27, 2) := by decide +kernel
theorem d_MO_transfers_84 : decode c_MO_transfers 84 = .ok (.if_icmp .ne 9, 3) := by decide +kernel
theorem d_MO_transfers_87 : decode c_MO_transfers 87 = .ok (.aload_n 0, 1) := by decide +kernel
theorem d_MO_transfers_88 : decode c_MO_transfers 88 = .ok (.iconst 0, 1) := by decide +kernel
theorem d_MO_transfers_89 : decode c_MO_transfers 89 = .ok (.iload_n 3, 1) := by decide +kernel
theorem d_MO_transfers_90 : decode c_MO_transfers 90 = .ok (.invokevirtual 142, 3) := by decide +kernel
theorem d_MO_transfers_93 : decode c_MO_transfers 93 = .ok (.iload_n 1, 1) := by decide +kernel
theorem d_MO_transfers_94 : decode c_MO_transfers 94 = .ok (.bipush 28, 2) := by decide +kernel
theorem d_MO_transfers_96 : decode c_MO_transfers 96 = .ok (.if_icmp .ge 22, 3) := by decide +kernel
theorem d_MO_transfers_99 : decode c_MO_transfers 99 = .ok (.aload_n 0, 1) := by decide +kernel
theorem d_MO_transfers_100 : decode c_MO_transfers 100 = .ok (.getfield 38, 3) := by decide +kernel
theorem d_MO_transfers_103 : decode c_MO_transfers 103 = .ok (.iconst 0, 1) := by decide +kernel
theorem d_MO_transfers_104 : decode c_MO_transfers 104 = .ok (.iload 4, 2) := by decide +kernel
theorem d_MO_transfers_106 : decode c_MO_transfers 106 = .ok (.ifCond .eq 7, 3) := by decide +kernel
theorem d_MO_transfers_109 : decode c_MO_transfers 109 = .ok (.iload_n 2, 1) := by decide +kernel
theorem d_MO_transfers_110 : decode c_MO_transfers 110 = .ok (.goto 4, 3) := by decide +kernel
theorem d_MO_transfers_113 : decode c_MO_transfers 113 = .ok (.iload_n 3, 1) := by decide +kernel
theorem d_MO_transfers_114 : decode c_MO_transfers 114 = .ok (.iastore, 1) := by decide +kernel
theorem d_MO_transfers_115 : decode c_MO_transfers 115 = .ok (.goto 83, 3) := by decide +kernel
theorem d_MO_transfers_118 : decode c_MO_transfers 118 = .ok (.iload_n 1, 1) := by decide +kernel
theorem d_MO_transfers_119 : decode c_MO_transfers 119 = .ok (.bipush 28, 2) := by decide +kernel
theorem d_MO_transfers_121 : decode c_MO_transfers 121 = .ok (.if_icmp .ne 21, 3) := by decide +kernel
theorem d_MO_transfers_124 : decode c_MO_transfers 124 = .ok (.aload_n 0, 1) := by decide +kernel
theorem d_MO_transfers_125 : decode c_MO_transfers 125 = .ok (.iconst 0, 1) := by decide +kernel
theorem d_MO_transfers_126 : decode c_MO_transfers 126 = .ok (.invokevirtual 145, 3) := by decide +kernel
theorem d_MO_transfers_129 : decode c_MO_transfers 129 = .ok (.istore 5, 2) := by decide +kernel
theorem d_MO_transfers_131 : decode c_MO_transfers 131 = .ok (.aload_n 0, 1) := by decide +kernel
theorem d_MO_transfers_132 : decode c_MO_transfers 132 = .ok (.getfield 38, 3) := by decide +kernel
theorem d_MO_transfers_135 : decode c_MO_transfers 135 = .ok (.iconst 0, 1) := by decide +kernel
theorem d_MO_transfers_136 : decode c_MO_transfers 136 = .ok (.iload 5, 2) := by decide +kernel
theorem d_MO_transfers_138 : decode c_MO_transfers 138 = .ok (.iastore, 1) := by decide +kernel
theorem d_MO_transfers_139 : decode c_MO_transfers 139 = .ok (.goto 59, 3) := by decide +kernel
theorem d_MO_transfers_142 : decode c_MO_transfers 142 = .ok (.iload_n 1, 1) := by decide +kernel
theorem d_MO_transfers_143 : decode c_MO_transfers 143 = .ok (.bipush 29, 2) := by decide +kernel
theorem d_MO_transfers_145 : decode c_MO_transfers 145 = .ok (.if_icmp .ne 17, 3) := by decide +kernel
theorem d_MO_transfers_148 : decode c_MO_transfers 148 = .ok (.aload_n 0, 1) := by decide +kernel
theorem d_MO_transfers_149 : decode c_MO_transfers 149 = .ok (.iconst 0, 1) := by decide +kernel
theorem d_MO_transfers_150 : decode c_MO_transfers 150 = .ok (.aload_n 0, 1) := by decide +kernel
theorem d_MO_transfers_151 : decode c_MO_transfers 151 = .ok (.getfield 29, 3) := by decide +kernel
theorem d_MO_transfers_154 : decode c_MO_transfers 154 = .ok (.iconst 0, 1) := by decide +kernel
theorem d_MO_transfers_155 : decode c_MO_transfers 155 = .ok (.iaload, 1) := by decide +kernel
theorem d_MO_transfers_156 : decode c_MO_transfers 156 = .ok (.invokevirtual 142, 3) := by decide +kernel
theorem d_MO_transfers_159 : decode c_MO_transfers 159 = .ok (.goto 39, 3) := by decide +kernel
theorem d_MO_transfers_162 : decode c_MO_transfers 162 = .ok (.iload_n 1, 1) := by decide +kernel
theorem d_MO_transfers_163 : decode c_MO_transfers 163 = .ok (.bipush 30, 2) := by decide +kernel
theorem d_MO_transfers_165 : decode c_MO_transfers 165 = .ok (.if_icmp .ne 21, 3) := by decide +kernel
theorem d_MO_transfers_168 : decode c_MO_transfers 168 = .ok (.aload_n 0, 1) := by decide +kernel
theorem d_MO_transfers_169 : decode c_MO_transfers 169 = .ok (.iconst 0, 1) := by decide +kernel
theorem d_MO_transfers_170 : decode c_MO_transfers 170 = .ok (.invokevirtual 145, 3) := by decide +kernel
theorem d_MO_transfers_173 : decode c_MO_transfers 173 = .ok (.istore 5, 2) := by decide +kernel
theorem d_MO_transfers_175 : decode c_MO_transfers 175 = .ok (.aload_n 0, 1) := by decide +kernel
theorem d_MO_transfers_176 : decode c_MO_transfers 176 = .ok (.iconst 0, 1) := by decide +kernel
theorem d_MO_transfers_177 : decode c_MO_transfers 177 = .ok (.iconst 0, 1) := by decide +kernel
theorem d_MO_transfers_178 : decode c_MO_transfers 178 = .ok (.iload 5, 2) := by decide +kernel
theorem d_MO_transfers_180 : decode c_MO_transfers 180 = .ok (.invokevirtual 121, 3) := by decide +kernel
theorem d_MO_transfers_183 : decode c_MO_transfers 183 = .ok (.goto 15, 3) := by decide +kernel
theorem d_MO_transfers_186 : decode c_MO_transfers 186 = .ok (.aload_n 0, 1) := by decide +kernel
theorem d_MO_transfers_187 : decode c_MO_transfers 187 = .ok (.getfield 38, 3) := by decide +kernel
theorem d_MO_transfers_190 : decode c_MO_transfers 190 = .ok (.iconst 0, 1) := by decide +kernel
theorem d_MO_transfers_191 : decode c_MO_transfers 191 = .ok (.aload_n 0, 1) := by decide +kernel
theorem d_MO_transfers_192 : decode c_MO_transfers 192 = .ok (.getfield 29, 3) := by decide +kernel
theorem d_MO_transfers_195 : decode c_MO_transfers 195 = .ok (.iconst 1, 1) := by decide +kernel
theorem d_MO_transfers_196 : decode c_MO_transfers 196 = .ok (.iaload, 1) := by decide +kernel
theorem d_MO_transfers_197 : decode c_MO_transfers 197 = .ok (.iastore, 1) := by decide +kernel
theorem d_MO_transfers_198 : decode c_MO_transfers 198 = .ok (.return_, 1) := by decide +kernel
theorem d_MO_push_0 : decode c_MO_push 0 = .ok (.aload_n 0, 1) := by decide +kernel
theorem d_MO_push_1 : decode c_MO_push 1 = .ok (.iload_n 1, 1) := by decide +kernel
theorem d_MO_push_2 : decode c_MO_push 2 = .ok (.aload_n 0, 1) := by decide +kernel
theorem d_MO_push_3 : decode c_MO_push 3 = .ok (.getfield 35, 3) := by decide +kernel
theorem d_MO_push_6 : decode c_MO_push 6 = .ok (.iload_n 1, 1) := by decide +kernel
theorem d_MO_push_7 : decode c_MO_push 7 = .ok (.iaload, 1) := by decide +kernel
theorem d_MO_push_8 : decode c_MO_push 8 = .ok (.iload_n 2, 1) := by decide +kernel
theorem d_MO_push_9 : decode c_MO_push 9 = .ok (.invokevirtual 111, 3) := by decide +kernel
theorem d_MO_push_12 : decode c_MO_push 12 = .ok (.aload_n 0, 1) := by decide +kernel
theorem d_MO_push_13 : decode c_MO_push 13 = .ok (.getfield 35, 3) := by decide +kernel
theorem d_MO_push_16 : decode c_MO_push 16 = .ok (.iload_n 1, 1) := by decide +kernel
theorem d_MO_push_17 : decode c_MO_push 17 = .ok (.aload_n 0, 1) := by decide +kernel
theorem d_MO_push_18 : decode c_MO_push 18 = .ok (.getfield 35, 3) := by decide +kernel
theorem d_MO_push_21 : decode c_MO_push 21 = .ok (.iload_n 1, 1) := by decide +kernel
theorem d_MO_push_22 : decode c_MO_push 22 = .ok (.iaload, 1) := by decide +kernel
theorem d_MO_push_23 : decode c_MO_push 23 = .ok (.iconst 1, 1) := by decide +kernel
theorem d_MO_push_24 : decode c_MO_push 24 = .ok (.isub, 1) := by decide +kernel
theorem d_MO_push_25 : decode c_MO_push 25 = .ok (.sipush 255, 3) := by decide +kernel
theorem d_MO_push_28 : decode c_MO_push 28 = .ok (.iand, 1) := by decide +kernel
theorem d_MO_push_29 : decode c_MO_push 29 = .ok (.iastore, 1) := by decide +kernel
theorem d_MO_push_30 : decode c_MO_push 30 = .ok (.return_, 1) := by decide +kernel
theorem d_MO_put_0 : decode c_MO_put 0 = .ok (.aload_n 0, 1) := by decide +kernel
theorem d_MO_put_1 : decode c_MO_put 1 = .ok (.getfield 32, 3) := by decide +kernel
theorem d_MO_put_4 : decode c_MO_put 4 = .ok (.sipush 256, 3) := by decide +kernel
theorem d_MO_put_7 : decode c_MO_put 7 = .ok (.iload_n 1, 1) := by decide +kernel
theorem d_MO_put_8 : decode c_MO_put 8 = .ok (.imul, 1) := by decide +kernel
theorem d_MO_put_9 : decode c_MO_put 9 = .ok (.iload_n 2, 1) := by decide +kernel
theorem d_MO_put_10 : decode c_MO_put 10 = .ok (.sipush 255, 3) := by decide +kernel
theorem d_MO_put_13 : decode c_MO_put 13 = .ok (.iand, 1) := by decide +kernel
theorem d_MO_put_14 : decode c_MO_put 14 = .ok (.iadd, 1) := by decide +kernel
theorem d_MO_put_15 : decode c_MO_put 15 = .ok (.iload_n 3, 1) := by decide +kernel
theorem d_MO_put_16 : decode c_MO_put 16 = .ok (.sipush 255, 3) := by decide +kernel
theorem d_MO_put_19 : decode c_MO_put 19 = .ok (.iand, 1) := by decide +kernel
theorem d_MO_put_20 : decode c_MO_put 20 = .ok (.iastore, 1) := by decide +kernel
theorem d_MO_put_21 : decode c_MO_put 21 = .ok (.return_, 1) := by decide +kernel
theorem d_MO_pop_0 : decode c_MO_pop 0 = .ok (.aload_n 0, 1) := by decide +kernel
theorem d_MO_pop_1 : decode c_MO_pop 1 = .ok (.getfield 35, 3) := by decide +kernel
theorem d_MO_pop_4 : decode c_MO_pop 4 = .ok (.iload_n 1, 1) := by decide +kernel
theorem d_MO_pop_5 : decode c_MO_pop 5 = .ok (.aload_n 0, 1) := by decide +kernel
theorem d_MO_pop_6 : decode c_MO_pop 6 = .ok (.getfield 35, 3) := by decide +kernel
theorem d_MO_pop_9 : decode c_MO_pop 9 = .ok (.iload_n 1, 1) := by decide +kernel
theorem d_MO_pop_10 : decode c_MO_pop 10 = .ok (.iaload, 1) := by decide +kernel
theorem d_MO_pop_11 : decode c_MO_pop 11 = .ok (.iconst 1, 1) := by decide +kernel
theorem d_MO_pop_12 : decode c_MO_pop 12 = .ok (.iadd, 1) := by decide +kernel
theorem d_MO_pop_13 : decode c_MO_pop 13 = .ok (.sipush 255, 3) := by decide +kernel
theorem d_MO_pop_16 : decode c_MO_pop 16 = .ok (.iand, 1) := by decide +kernel
theorem d_MO_pop_17 : decode c_MO_pop 17 = .ok (.iastore, 1) := by decide +kernel
theorem d_MO_pop_18 : decode c_MO_pop 18 = .ok (.aload_n 0, 1) := by decide +kernel
theorem d_MO_pop_19 : decode c_MO_pop 19 = .ok (.iload_n 1, 1) := by decide +kernel
theorem d_MO_pop_20 : decode c_MO_pop 20 = .ok (.aload_n 0, 1) := by decide +kernel
theorem d_MO_pop_21 : decode c_MO_pop 21 = .ok (.getfield 35, 3) := by decide +kernel
theorem d_MO_pop_24 : decode c_MO_pop 24 = .ok (.iload_n 1, 1) := by decide +kernel
theorem d_MO_pop_25 : decode c_MO_pop 25 = .ok (.iaload, 1) := by decide +kernel
theorem d_MO_pop_26 : decode c_MO_pop 26 = .ok (.invokevirtual 114, 3) := by decide +kernel
theorem d_MO_pop_29 : decode c_MO_pop 29 = .ok (.ireturn, 1) := by decide +kernel
theorem d_MO_setZ_0 : decode c_MO_setZ 0 = .ok (.aload_n 0, 1) := by decide +kernel
theorem d_MO_setZ_1 : decode c_MO_setZ 1 = .ok (.iload_n 1, 1) := by decide +kernel
theorem d_MO_setZ_2 : decode c_MO_setZ 2 = .ok (.iload_n 2, 1) := by decide +kernel
theorem d_MO_setZ_3 : decode c_MO_setZ 3 = .ok (.iload_n 3, 1) := by decide +kernel
theorem d_MO_setZ_4 : decode c_MO_setZ 4 = .ok (.invokevirtual 118, 3) := by decide +kernel
theorem d_MO_setZ_7 : decode c_MO_setZ 7 = .ok (.aload_n 0, 1) := by decide +kernel
theorem d_MO_setZ_8 : decode c_MO_setZ 8 = .ok (.getfield 41, 3) := by decide +kernel
theorem d_MO_setZ_11 : decode c_MO_setZ 11 = .ok (.iload_n 1, 1) := by decide +kernel
theorem d_MO_setZ_12 : decode c_MO_setZ 12 = .ok (.iload_n 3, 1) := by decide +kernel
theorem d_MO_setZ_13 : decode c_MO_setZ 13 = .ok (.sipush 255, 3) := by decide +kernel
theorem d_MO_setZ_16 : decode c_MO_setZ 16 = .ok (.iand, 1) := by decide +kernel
theorem d_MO_setZ_17 : decode c_MO_setZ 17 = .ok (.ifCond .ne 7, 3) := by decide +kernel
theorem d_MO_setZ_20 : decode c_MO_setZ 20 = .ok (.iconst 1, 1) := by decide +kernel
theorem d_MO_setZ_21 : decode c_MO_setZ 21 = .ok (.goto 4, 3) := by decide +kernel
theorem d_MO_setZ_24 : decode c_MO_setZ 24 = .ok (.iconst 0, 1) := by decide +kernel
theorem d_MO_setZ_25 : decode c_MO_setZ 25 = .ok (.bastore, 1) := by decide +kernel
theorem d_MO_setZ_26 : decode c_MO_setZ 26 = .ok (.return_, 1) := by decide +kernel
theorem d_MO_set_0 : decode c_MO_set 0 = .ok (.aload_n 0, 1) := by decide +kernel
theorem d_MO_set_1 : decode c_MO_set 1 = .ok (.getfield 29, 3) := by decide +kernel
theorem d_MO_set_4 : decode c_MO_set 4 = .ok (.iconst 3, 1) := by decide +kernel
theorem d_MO_set_5 : decode c_MO_set 5 = .ok (.iload_n 1, 1) := by decide +kernel
theorem d_MO_set_6 : decode c_MO_set 6 = .ok (.imul, 1) := by decide +kernel
theorem d_MO_set_7 : decode c_MO_set 7 = .ok (.iload_n 2, 1) := by decide +kernel
theorem d_MO_set_8 : decode c_MO_set 8 = .ok (.iadd, 1) := by decide +kernel
theorem d_MO_set_9 : decode c_MO_set 9 = .ok (.iload_n 3, 1) := by decide +kernel
theorem d_MO_set_10 : decode c_MO_set 10 = .ok (.sipush 255, 3) := by decide +kernel
theorem d_MO_set_13 : decode c_MO_set 13 = .ok (.iand, 1) := by decide +kernel
theorem d_MO_set_14 : decode c_MO_set 14 = .ok (.iastore, 1) := by decide +kernel
theorem d_MO_set_15 : decode c_MO_set 15 = .ok (.return_, 1) := by decide +kernel
theorem d_MO_reckons_0 : decode c_MO_reckons 0 = .ok (.aload_n 0, 1) := by decide +kernel
theorem d_MO_reckons_1 : decode c_MO_reckons 1 = .ok (.getfield 29, 3) := by decide +kernel
theorem d_MO_reckons_4 : decode c_MO_reckons 4 = .ok (.iconst 0, 1) := by decide +kernel
theorem d_MO_reckons_5 : decode c_MO_reckons 5 = .ok (.iaload, 1) := by decide +kernel
theorem d_MO_reckons_6 : decode c_MO_reckons 6 = .ok (.istore_n 3, 1) := by decide +kernel
theorem d_MO_reckons_7 : decode c_MO_reckons 7 = .ok (.iload_n 1, 1) := by decide +kernel
theorem d_MO_reckons_8 : decode c_MO_reckons 8 = .ok (.tableswitch 181 12 21 #[56, 67, 83, 112, 123, 139, 151, 181, 163, 172], 56) := by decide +kernel
theorem d_MO_reckons_64 : decode c_MO_reckons 64 = .ok (.aload_n 0, 1) := by decide +kernel
theorem d_MO_reckons_65 : decode c_MO_reckons 65 = .ok (.iconst 0, 1) := by decide +kernel
theorem d_MO_reckons_66 : decode c_MO_reckons 66 = .ok (.iconst 0, 1) := by decide +kernel
theorem d_MO_reckons_67 : decode c_MO_reckons 67 = .ok (.iload_n 2, 1) := by decide +kernel
theorem d_MO_reckons_68 : decode c_MO_reckons 68 = .ok (.iconst 0, 1) := by decide +kernel
theorem d_MO_reckons_69 : decode c_MO_reckons 69 = .ok (.invokevirtual 124, 3) := by decide +kernel
theorem d_MO_reckons_72 : decode c_MO_reckons 72 = .ok (.goto 125, 3) := by decide +kernel
theorem d_MO_reckons_75 : decode c_MO_reckons 75 = .ok (.aload_n 0, 1) := by decide +kernel
theorem d_MO_reckons_76 : decode c_MO_reckons 76 = .ok (.iconst 0, 1) := by decide +kernel
theorem d_MO_reckons_77 : decode c_MO_reckons 77 = .ok (.iconst 0, 1) := by decide +kernel
theorem d_MO_reckons_78 : decode c_MO_reckons 78 = .ok (.aload_n 0, 1) := by decide +kernel
theorem d_MO_reckons_79 : decode c_MO_reckons 79 = .ok (.iconst 0, 1) := by decide +kernel
theorem d_MO_reckons_80 : decode c_MO_reckons 80 = .ok (.iload_n 2, 1) := by decide +kernel
theorem d_MO_reckons_81 : decode c_MO_reckons 81 = .ok (.invokevirtual 114, 3) := by decide +kernel
theorem d_MO_reckons_84 : decode c_MO_reckons 84 = .ok (.iconst 0, 1) := by decide +kernel
theorem d_MO_reckons_85 : decode c_MO_reckons 85 = .ok (.invokevirtual 124, 3) := by decide +kernel
theorem d_MO_reckons_88 : decode c_MO_reckons 88 = .ok (.goto 109, 3) := by decide +kernel
theorem d_MO_reckons_91 : decode c_MO_reckons 91 = .ok (.aload_n 0, 1) := by decide +kernel
theorem d_MO_reckons_92 : decode c_MO_reckons 92 = .ok (.iconst 0, 1) := by decide +kernel
theorem d_MO_reckons_93 : decode c_MO_reckons 93 = .ok (.iconst 0, 1) := by decide +kernel
theorem d_MO_reckons_94 : decode c_MO_reckons 94 = .ok (.aload_n 0, 1) := by decide +kernel
theorem d_MO_reckons_95 : decode c_MO_reckons 95 = .ok (.iconst 0, 1) := by decide +kernel
theorem d_MO_reckons_96 : decode c_MO_reckons 96 = .ok (.iload_n 2, 1) := by decide +kernel
theorem d_MO_reckons_97 : decode c_MO_reckons 97 = .ok (.invokevirtual 114, 3) := by decide +kernel
theorem d_MO_reckons_100 : decode c_MO_reckons 100 = .ok (.aload_n 0, 1) := by decide +kernel
theorem d_MO_reckons_101 : decode c_MO_reckons 101 = .ok (.getfield 44, 3) := by decide +kernel
theorem d_MO_reckons_104 : decode c_MO_reckons 104 = .ok (.iconst 0, 1) := by decide +kernel
theorem d_MO_reckons_105 : decode c_MO_reckons 105 = .ok (.baload, 1) := by decide +kernel
theorem d_MO_reckons_106 : decode c_MO_reckons 106 = .ok (.ifCond .eq 7, 3) := by decide +kernel
theorem d_MO_reckons_109 : decode c_MO_reckons 109 = .ok (.iconst 1, 1) := by decide +kernel
theorem d_MO_reckons_110 : decode c_MO_reckons 110 = .ok (.goto 4, 3) := by decide +kernel
theorem d_MO_reckons_113 : decode c_MO_reckons 113 = .ok (.iconst 0, 1) := by decide +kernel
theorem d_MO_reckons_114 : decode c_MO_reckons 114 = .ok (.invokevirtual 124, 3) := by decide +kernel
theorem d_MO_reckons_117 : decode c_MO_reckons 117 = .ok (.goto 80, 3) := by decide +kernel
theorem d_MO_reckons_120 : decode c_MO_reckons 120 = .ok (.aload_n 0, 1) := by decide +kernel
theorem d_MO_reckons_121 : decode c_MO_reckons 121 = .ok (.iconst 0, 1) := by decide +kernel
theorem d_MO_reckons_122 : decode c_MO_reckons 122 = .ok (.iconst 0, 1) := by decide +kernel
theorem d_MO_reckons_123 : decode c_MO_reckons 123 = .ok (.iload_n 2, 1) := by decide +kernel
theorem d_MO_reckons_124 : decode c_MO_reckons 124 = .ok (.iconst 0, 1) := by decide +kernel
theorem d_MO_reckons_125 : decode c_MO_reckons 125 = .ok (.invokevirtual 128, 3) := by decide +kernel
theorem d_MO_reckons_128 : decode c_MO_reckons 128 = .ok (.goto 69, 3) := by decide +kernel
theorem d_MO_reckons_131 : decode c_MO_reckons 131 = .ok (.aload_n 0, 1) := by decide +kernel
theorem d_MO_reckons_132 : decode c_MO_reckons 132 = .ok (.iconst 0, 1) := by decide +kernel
theorem d_MO_reckons_133 : decode c_MO_reckons 133 = .ok (.iconst 0, 1) := by decide +kernel
theorem d_MO_reckons_134 : decode c_MO_reckons 134 = .ok (.aload_n 0, 1) := by decide +kernel
theorem d_MO_reckons_135 : decode c_MO_reckons 135 = .ok (.iconst 0, 1) := by decide +kernel
theorem d_MO_reckons_136 : decode c_MO_reckons 136 = .ok (.iload_n 2, 1) := by decide +kernel
theorem d_MO_reckons_137 : decode c_MO_reckons 137 = .ok (.invokevirtual 114, 3) := by decide +kernel
theorem d_MO_reckons_140 : decode c_MO_reckons 140 = .ok (.iconst 0, 1) := by decide +kernel
theorem d_MO_reckons_141 : decode c_MO_reckons 141 = .ok (.invokevirtual 128, 3) := by decide +kernel
theorem d_MO_reckons_144 : decode c_MO_reckons 144 = .ok (.goto 53, 3) := by decide +kernel
theorem d_MO_reckons_147 : decode c_MO_reckons 147 = .ok (.aload_n 0, 1) := by decide +kernel
theorem d_MO_reckons_148 : decode c_MO_reckons 148 = .ok (.iconst 0, 1) := by decide +kernel
theorem d_MO_reckons_149 : decode c_MO_reckons 149 = .ok (.iconst 0, 1) := by decide +kernel
theorem d_MO_reckons_150 : decode c_MO_reckons 150 = .ok (.iload_n 3, 1) := by decide +kernel
theorem d_MO_reckons_151 : decode c_MO_reckons 151 = .ok (.iload_n 2, 1) := by decide +kernel
theorem d_MO_reckons_152 : decode c_MO_reckons 152 = .ok (.iand, 1) := by decide +kernel
theorem d_MO_reckons_153 : decode c_MO_reckons 153 = .ok (.invokevirtual 132, 3) := by decide +kernel
theorem d_MO_reckons_156 : decode c_MO_reckons 156 = .ok (.goto 41, 3) := by decide +kernel
theorem d_MO_reckons_159 : decode c_MO_reckons 159 = .ok (.aload_n 0, 1) := by decide +kernel
theorem d_MO_reckons_160 : decode c_MO_reckons 160 = .ok (.iconst 0, 1) := by decide +kernel
theorem d_MO_reckons_161 : decode c_MO_reckons 161 = .ok (.iconst 0, 1) := by decide +kernel
theorem d_MO_reckons_162 : decode c_MO_reckons 162 = .ok (.iload_n 3, 1) := by decide +kernel
theorem d_MO_reckons_163 : decode c_MO_reckons 163 = .ok (.iload_n 2, 1) := by decide +kernel
theorem d_MO_reckons_164 : decode c_MO_reckons 164 = .ok (.ixor, 1) := by decide +kernel
theorem d_MO_reckons_165 : decode c_MO_reckons 165 = .ok (.invokevirtual 132, 3) := by decide +kernel
theorem d_MO_reckons_168 : decode c_MO_reckons 168 = .ok (.goto 29, 3) := by decide +kernel
theorem d_MO_reckons_171 : decode c_MO_reckons 171 = .ok (.aload_n 0, 1) := by decide +kernel
theorem d_MO_reckons_172 : decode c_MO_reckons 172 = .ok (.iconst 0, 1) := by decide +kernel
theorem d_MO_reckons_173 : decode c_MO_reckons 173 = .ok (.iconst 0, 1) := by decide +kernel
theorem d_MO_reckons_174 : decode c_MO_reckons 174 = .ok (.invokevirtual 135, 3) := by decide +kernel
theorem d_MO_reckons_177 : decode c_MO_reckons 177 = .ok (.goto 20, 3) := by decide +kernel
theorem d_MO_reckons_180 : decode c_MO_reckons 180 = .ok (.aload_n 0, 1) := by decide +kernel
theorem d_MO_reckons_181 : decode c_MO_reckons 181 = .ok (.iconst 0, 1) := by decide +kernel
theorem d_MO_reckons_182 : decode c_MO_reckons 182 = .ok (.iconst 0, 1) := by decide +kernel
theorem d_MO_reckons_183 : decode c_MO_reckons 183 = .ok (.invokevirtual 139, 3) := by decide +kernel
theorem d_MO_reckons_186 : decode c_MO_reckons 186 = .ok (.goto 11, 3) := by decide +kernel
theorem d_MO_reckons_189 : decode c_MO_reckons 189 = .ok (.aload_n 0, 1) := by decide +kernel
theorem d_MO_reckons_190 : decode c_MO_reckons 190 = .ok (.iconst 0, 1) := by decide +kernel
theorem d_MO_reckons_191 : decode c_MO_reckons 191 = .ok (.iconst 0, 1) := by decide +kernel
theorem d_MO_reckons_192 : decode c_MO_reckons 192 = .ok (.iload_n 2, 1) := by decide +kernel
theorem d_MO_reckons_193 : decode c_MO_reckons 193 = .ok (.iconst 1, 1) := by decide +kernel
theorem d_MO_reckons_194 : decode c_MO_reckons 194 = .ok (.invokevirtual 128, 3) := by decide +kernel
theorem d_MO_reckons_197 : decode c_MO_reckons 197 = .ok (.return_, 1) := by decide +kernel
theorem d_MO_adds_0 : decode c_MO_adds 0 = .ok (.aload_n 0, 1) := by decide +kernel
theorem d_MO_adds_1 : decode c_MO_adds 1 = .ok (.getfield 29, 3) := by decide +kernel
theorem d_MO_adds_4 : decode c_MO_adds 4 = .ok (.iconst 3, 1) := by decide +kernel
theorem d_MO_adds_5 : decode c_MO_adds 5 = .ok (.iload_n 1, 1) := by decide +kernel
theorem d_MO_adds_6 : decode c_MO_adds 6 = .ok (.imul, 1) := by decide +kernel
theorem d_MO_adds_7 : decode c_MO_adds 7 = .ok (.iload_n 2, 1) := by decide +kernel
theorem d_MO_adds_8 : decode c_MO_adds 8 = .ok (.iadd, 1) := by decide +kernel
theorem d_MO_adds_9 : decode c_MO_adds 9 = .ok (.iaload, 1) := by decide +kernel
theorem d_MO_adds_10 : decode c_MO_adds 10 = .ok (.iload_n 3, 1) := by decide +kernel
theorem d_MO_adds_11 : decode c_MO_adds 11 = .ok (.iadd, 1) := by decide +kernel
theorem d_MO_adds_12 : decode c_MO_adds 12 = .ok (.iload 4, 2) := by decide +kernel
theorem d_MO_adds_14 : decode c_MO_adds 14 = .ok (.iadd, 1) := by decide +kernel
theorem d_MO_adds_15 : decode c_MO_adds 15 = .ok (.istore 5, 2) := by decide +kernel
theorem d_MO_adds_17 : decode c_MO_adds 17 = .ok (.aload_n 0, 1) := by decide +kernel
theorem d_MO_adds_18 : decode c_MO_adds 18 = .ok (.getfield 44, 3) := by decide +kernel
theorem d_MO_adds_21 : decode c_MO_adds 21 = .ok (.iload_n 1, 1) := by decide +kernel
theorem d_MO_adds_22 : decode c_MO_adds 22 = .ok (.iload 5, 2) := by decide +kernel
theorem d_MO_adds_24 : decode c_MO_adds 24 = .ok (.sipush 255, 3) := by decide +kernel
theorem d_MO_adds_27 : decode c_MO_adds 27 = .ok (.if_icmp .le 7, 3) := by decide +kernel
theorem d_MO_adds_30 : decode c_MO_adds 30 = .ok (.iconst 1, 1) := by decide +kernel
theorem d_MO_adds_31 : decode c_MO_adds 31 = .ok (.goto 4, 3) := by decide +kernel
theorem d_MO_adds_34 : decode c_MO_adds 34 = .ok (.iconst 0, 1) := by decide +kernel
theorem d_MO_adds_35 : decode c_MO_adds 35 = .ok (.bastore, 1) := by decide +kernel
theorem d_MO_adds_36 : decode c_MO_adds 36 = .ok (.aload_n 0, 1) := by decide +kernel
theorem d_MO_adds_37 : decode c_MO_adds 37 = .ok (.iload_n 1, 1) := by decide +kernel
theorem d_MO_adds_38 : decode c_MO_adds 38 = .ok (.iload_n 2, 1) := by decide +kernel
theorem d_MO_adds_39 : decode c_MO_adds 39 = .ok (.iload 5, 2) := by decide +kernel
theorem d_MO_adds_41 : decode c_MO_adds 41 = .ok (.invokevirtual 121, 3) := by decide +kernel
theorem d_MO_adds_44 : decode c_MO_adds 44 = .ok (.return_, 1) := by decide +kernel
theorem d_MO_subtracts_0 : decode c_MO_subtracts 0 = .ok (.aload_n 0, 1) := by decide +kernel
theorem d_MO_subtracts_1 : decode c_MO_subtracts 1 = .ok (.getfield 29, 3) := by decide +kernel
theorem d_MO_subtracts_4 : decode c_MO_subtracts 4 = .ok (.iconst 3, 1) := by decide +kernel
theorem d_MO_subtracts_5 : decode c_MO_subtracts 5 = .ok (.iload_n 1, 1) := by decide +kernel
theorem d_MO_subtracts_6 : decode c_MO_subtracts 6 = .ok (.imul, 1) := by decide +kernel
theorem d_MO_subtracts_7 : decode c_MO_subtracts 7 = .ok (.iload_n 2, 1) := by decide +kernel
theorem d_MO_subtracts_8 : decode c_MO_subtracts 8 = .ok (.iadd, 1) := by decide +kernel
theorem d_MO_subtracts_9 : decode c_MO_subtracts 9 = .ok (.iaload, 1) := by decide +kernel
theorem d_MO_subtracts_10 : decode c_MO_subtracts 10 = .ok (.istore 5, 2) := by decide +kernel
theorem d_MO_subtracts_12 : decode c_MO_subtracts 12 = .ok (.aload_n 0, 1) := by decide +kernel
theorem d_MO_subtracts_13 : decode c_MO_subtracts 13 = .ok (.getfield 44, 3) := by decide +kernel
theorem d_MO_subtracts_16 : decode c_MO_subtracts 16 = .ok (.iload_n 1, 1) := by decide +kernel
theorem d_MO_subtracts_17 : decode c_MO_subtracts 17 = .ok (.iload_n 3, 1) := by decide +kernel
theorem d_MO_subtracts_18 : decode c_MO_subtracts 18 = .ok (.iload 5, 2) := by decide +kernel
theorem d_MO_subtracts_20 : decode c_MO_subtracts 20 = .ok (.if_icmp .le 7, 3) := by decide +kernel
theorem d_MO_subtracts_23 : decode c_MO_subtracts 23 = .ok (.iconst 1, 1) := by decide +kernel
theorem d_MO_subtracts_24 : decode c_MO_subtracts 24 = .ok (.goto 4, 3) := by decide +kernel
theorem d_MO_subtracts_27 : decode c_MO_subtracts 27 = .ok (.iconst 0, 1) := by decide +kernel
theorem d_MO_subtracts_28 : decode c_MO_subtracts 28 = .ok (.bastore, 1) := by decide +kernel
theorem d_MO_subtracts_29 : decode c_MO_subtracts 29 = .ok (.aload_n 0, 1) := by decide +kernel
theorem d_MO_subtracts_30 : decode c_MO_subtracts 30 = .ok (.iload_n 1, 1) := by decide +kernel
theorem d_MO_subtracts_31 : decode c_MO_subtracts 31 = .ok (.iload_n 2, 1) := by decide +kernel
theorem d_MO_subtracts_32 : decode c_MO_subtracts 32 = .ok (.iload 5, 2) := by decide +kernel
theorem d_MO_subtracts_34 : decode c_MO_subtracts 34 = .ok (.iload_n 3, 1) := by decide +kernel
theorem d_MO_subtracts_35 : decode c_MO_subtracts 35 = .ok (.isub, 1) := by decide +kernel
theorem d_MO_subtracts_36 : decode c_MO_subtracts 36 = .ok (.invokevirtual 121, 3) := by decide +kernel
theorem d_MO_subtracts_39 : decode c_MO_subtracts 39 = .ok (.iload 4, 2) := by decide +kernel
theorem d_MO_subtracts_41 : decode c_MO_subtracts 41 = .ok (.ifCond .eq 11, 3) := by decide +kernel
theorem d_MO_subtracts_44 : decode c_MO_subtracts 44 = .ok (.aload_n 0, 1) := by decide +kernel
theorem d_MO_subtracts_45 : decode c_MO_subtracts 45 = .ok (.iload_n 1, 1) := by decide +kernel
theorem d_MO_subtracts_46 : decode c_MO_subtracts 46 = .ok (.iload_n 2, 1) := by decide +kernel
theorem d_MO_subtracts_47 : decode c_MO_subtracts 47 = .ok (.iload 5, 2) := by decide +kernel
theorem d_MO_subtracts_49 : decode c_MO_subtracts 49 = .ok (.invokevirtual 118, 3) := by decide +kernel
theorem d_MO_subtracts_52 : decode c_MO_subtracts 52 = .ok (.return_, 1) := by decide +kernel
theorem d_MO_plain_0 : decode c_MO_plain 0 = .ok (.aload_n 0, 1) := by decide +kernel
theorem d_MO_plain_1 : decode c_MO_plain 1 = .ok (.getfield 44, 3) := by decide +kernel
theorem d_MO_plain_4 : decode c_MO_plain 4 = .ok (.iload_n 1, 1) := by decide +kernel
theorem d_MO_plain_5 : decode c_MO_plain 5 = .ok (.iconst 0, 1) := by decide +kernel
theorem d_MO_plain_6 : decode c_MO_plain 6 = .ok (.bastore, 1) := by decide +kernel
theorem d_MO_plain_7 : decode c_MO_plain 7 = .ok (.aload_n 0, 1) := by decide +kernel
theorem d_MO_plain_8 : decode c_MO_plain 8 = .ok (.iload_n 1, 1) := by decide +kernel
theorem d_MO_plain_9 : decode c_MO_plain 9 = .ok (.iload_n 2, 1) := by decide +kernel
theorem d_MO_plain_10 : decode c_MO_plain 10 = .ok (.iload_n 3, 1) := by decide +kernel
theorem d_MO_plain_11 : decode c_MO_plain 11 = .ok (.invokevirtual 121, 3) := by decide +kernel
theorem d_MO_plain_14 : decode c_MO_plain 14 = .ok (.return_, 1) := by decide +kernel
theorem d_MO_doubles_0 : decode c_MO_doubles 0 = .ok (.aload_n 0, 1) := by decide +kernel
theorem d_MO_doubles_1 : decode c_MO_doubles 1 = .ok (.getfield 29, 3) := by decide +kernel
theorem d_MO_doubles_4 : decode c_MO_doubles 4 = .ok (.iconst 3, 1) := by decide +kernel
theorem d_MO_doubles_5 : decode c_MO_doubles 5 = .ok (.iload_n 1, 1) := by decide +kernel
theorem d_MO_doubles_6 : decode c_MO_doubles 6 = .ok (.imul, 1) := by decide +kernel
theorem d_MO_doubles_7 : decode c_MO_doubles 7 = .ok (.iload_n 2, 1) := by decide +kernel
theorem d_MO_doubles_8 : decode c_MO_doubles 8 = .ok (.iadd, 1) := by decide +kernel
theorem d_MO_doubles_9 : decode c_MO_doubles 9 = .ok (.iaload, 1) := by decide +kernel
theorem d_MO_doubles_10 : decode c_MO_doubles 10 = .ok (.istore_n 3, 1) := by decide +kernel
theorem d_MO_doubles_11 : decode c_MO_doubles 11 = .ok (.aload_n 0, 1) := by decide +kernel
theorem d_MO_doubles_12 : decode c_MO_doubles 12 = .ok (.getfield 44, 3) := by decide +kernel
theorem d_MO_doubles_15 : decode c_MO_doubles 15 = .ok (.iload_n 1, 1) := by decide +kernel
theorem d_MO_doubles_16 : decode c_MO_doubles 16 = .ok (.iload_n 3, 1) := by decide +kernel
theorem d_MO_doubles_17 : decode c_MO_doubles 17 = .ok (.bipush 127, 2) := by decide +kernel
theorem d_MO_doubles_19 : decode c_MO_doubles 19 = .ok (.if_icmp .le 7, 3) := by decide +kernel
theorem d_MO_doubles_22 : decode c_MO_doubles 22 = .ok (.iconst 1, 1) := by decide +kernel
theorem d_MO_doubles_23 : decode c_MO_doubles 23 = .ok (.goto 4, 3) := by decide +kernel
theorem d_MO_doubles_26 : decode c_MO_doubles 26 = .ok (.iconst 0, 1) := by decide +kernel
theorem d_MO_doubles_27 : decode c_MO_doubles 27 = .ok (.bastore, 1) := by decide +kernel
theorem d_MO_doubles_28 : decode c_MO_doubles 28 = .ok (.aload_n 0, 1) := by decide +kernel
theorem d_MO_doubles_29 : decode c_MO_doubles 29 = .ok (.iload_n 1, 1) := by decide +kernel
theorem d_MO_doubles_30 : decode c_MO_doubles 30 = .ok (.iload_n 2, 1) := by decide +kernel
theorem d_MO_doubles_31 : decode c_MO_doubles 31 = .ok (.iconst 2, 1) := by decide +kernel
theorem d_MO_doubles_32 : decode c_MO_doubles 32 = .ok (.iload_n 3, 1) := by decide +kernel
theorem d_MO_doubles_33 : decode c_MO_doubles 33 = .ok (.imul, 1) := by decide +kernel
theorem d_MO_doubles_34 : decode c_MO_doubles 34 = .ok (.invokevirtual 121, 3) := by decide +kernel
theorem d_MO_doubles_37 : decode c_MO_doubles 37 = .ok (.return_, 1) := by decide +kernel
theorem d_MO_halves_0 : decode c_MO_halves 0 = .ok (.aload_n 0, 1) := by decide +kernel
theorem d_MO_halves_1 : decode c_MO_halves 1 = .ok (.getfield 29, 3) := by decide +kernel
theorem d_MO_halves_4 : decode c_MO_halves 4 = .ok (.iconst 3, 1) := by decide +kernel
theorem d_MO_halves_5 : decode c_MO_halves 5 = .ok (.iload_n 1, 1) := by decide +kernel
theorem d_MO_halves_6 : decode c_MO_halves 6 = .ok (.imul, 1) := by decide +kernel
theorem d_MO_halves_7 : decode c_MO_halves 7 = .ok (.iload_n 2, 1) := by decide +kernel
theorem d_MO_halves_8 : decode c_MO_halves 8 = .ok (.iadd, 1) := by decide +kernel
theorem d_MO_halves_9 : decode c_MO_halves 9 = .ok (.iaload, 1) := by decide +kernel
theorem d_MO_halves_10 : decode c_MO_halves 10 = .ok (.istore_n 3, 1) := by decide +kernel
theorem d_MO_halves_11 : decode c_MO_halves 11 = .ok (.aload_n 0, 1) := by decide +kernel
theorem d_MO_halves_12 : decode c_MO_halves 12 = .ok (.getfield 44, 3) := by decide +kernel
theorem d_MO_halves_15 : decode c_MO_halves 15 = .ok (.iload_n 1, 1) := by decide +kernel
theorem d_MO_halves_16 : decode c_MO_halves 16 = .ok (.iload_n 3, 1) := by decide +kernel
theorem d_MO_halves_17 : decode c_MO_halves 17 = .ok (.iconst 2, 1) := by decide +kernel
theorem d_MO_halves_18 : decode c_MO_halves 18 = .ok (.irem, 1) := by decide +kernel
theorem d_MO_halves_19 : decode c_MO_halves 19 = .ok (.iconst 1, 1) := by decide +kernel
theorem d_MO_halves_20 : decode c_MO_halves 20 = .ok (.if_icmp .ne 7, 3) := by decide +kernel
theorem d_MO_halves_23 : decode c_MO_halves 23 = .ok (.iconst 1, 1) := by decide +kernel
theorem d_MO_halves_24 : decode c_MO_halves 24 = .ok (.goto 4, 3) := by decide +kernel
theorem d_MO_halves_27 : decode c_MO_halves 27 = .ok (.iconst 0, 1) := by decide +kernel
theorem d_MO_halves_28 : decode c_MO_halves 28 = .ok (.bastore, 1) := by decide +kernel
theorem d_MO_halves_29 : decode c_MO_halves 29 = .ok (.aload_n 0, 1) := by decide +kernel
theorem d_MO_halves_30 : decode c_MO_halves 30 = .ok (.iload_n 1, 1) := by decide +kernel
theorem d_MO_halves_31 : decode c_MO_halves 31 = .ok (.iload_n 2, 1) := by decide +kernel
theorem d_MO_halves_32 : decode c_MO_halves 32 = .ok (.iload_n 3, 1) := by decide +kernel
theorem d_MO_halves_33 : decode c_MO_halves 33 = .ok (.iconst 2, 1) := by decide +kernel
theorem d_MO_halves_34 : decode c_MO_halves 34 = .ok (.idiv, 1) := by decide +kernel
theorem d_MO_halves_35 : decode c_MO_halves 35 = .ok (.invokevirtual 121, 3) := by decide +kernel
theorem d_MO_halves_38 : decode c_MO_halves 38 = .ok (.return_, 1) := by decide +kernel
theorem d_MO_moves_0 : decode c_MO_moves 0 = .ok (.aload_n 0, 1) := by decide +kernel
theorem d_MO_moves_1 : decode c_MO_moves 1 = .ok (.getfield 29, 3) := by decide +kernel
theorem d_MO_moves_4 : decode c_MO_moves 4 = .ok (.iconst 0, 1) := by decide +kernel
theorem d_MO_moves_5 : decode c_MO_moves 5 = .ok (.iaload, 1) := by decide +kernel
theorem d_MO_moves_6 : decode c_MO_moves 6 = .ok (.istore_n 3, 1) := by decide +kernel
theorem d_MO_moves_7 : decode c_MO_moves 7 = .ok (.aload_n 0, 1) := by decide +kernel
theorem d_MO_moves_8 : decode c_MO_moves 8 = .ok (.getfield 29, 3) := by decide +kernel
theorem d_MO_moves_11 : decode c_MO_moves 11 = .ok (.iconst 1, 1) := by decide +kernel
theorem d_MO_moves_12 : decode c_MO_moves 12 = .ok (.iaload, 1) := by decide +kernel
theorem d_MO_moves_13 : decode c_MO_moves 13 = .ok (.istore 4, 2) := by decide +kernel
theorem d_MO_moves_15 : decode c_MO_moves 15 = .ok (.iload_n 1, 1) := by decide +kernel
theorem d_MO_moves_16 : decode c_MO_moves 16 = .ok (.tableswitch 162 2 10 #[52, 62, 77, 95, 105, 118, 128, 138, 149], 52) := by decide +kernel
theorem d_MO_moves_68 : decode c_MO_moves 68 = .ok (.aload_n 0, 1) := by decide +kernel
theorem d_MO_moves_69 : decode c_MO_moves 69 = .ok (.iconst 0, 1) := by decide +kernel
theorem d_MO_moves_70 : decode c_MO_moves 70 = .ok (.iconst 0, 1) := by decide +kernel
theorem d_MO_moves_71 : decode c_MO_moves 71 = .ok (.iload_n 2, 1) := by decide +kernel
theorem d_MO_moves_72 : decode c_MO_moves 72 = .ok (.invokevirtual 121, 3) := by decide +kernel
theorem d_MO_moves_75 : decode c_MO_moves 75 = .ok (.goto 113, 3) := by decide +kernel
theorem d_MO_moves_78 : decode c_MO_moves 78 = .ok (.aload_n 0, 1) := by decide +kernel
theorem d_MO_moves_79 : decode c_MO_moves 79 = .ok (.iconst 0, 1) := by decide +kernel
theorem d_MO_moves_80 : decode c_MO_moves 80 = .ok (.iconst 0, 1) := by decide +kernel
theorem d_MO_moves_81 : decode c_MO_moves 81 = .ok (.aload_n 0, 1) := by decide +kernel
theorem d_MO_moves_82 : decode c_MO_moves 82 = .ok (.iconst 0, 1) := by decide +kernel
theorem d_MO_moves_83 : decode c_MO_moves 83 = .ok (.iload_n 2, 1) := by decide +kernel
theorem d_MO_moves_84 : decode c_MO_moves 84 = .ok (.invokevirtual 114, 3) := by decide +kernel
theorem d_MO_moves_87 : decode c_MO_moves 87 = .ok (.invokevirtual 121, 3) := by decide +kernel
theorem d_MO_moves_90 : decode c_MO_moves 90 = .ok (.goto 98, 3) := by decide +kernel
theorem d_MO_moves_93 : decode c_MO_moves 93 = .ok (.aload_n 0, 1) := by decide +kernel
theorem d_MO_moves_94 : decode c_MO_moves 94 = .ok (.iconst 0, 1) := by decide +kernel
theorem d_MO_moves_95 : decode c_MO_moves 95 = .ok (.iconst 0, 1) := by decide +kernel
theorem d_MO_moves_96 : decode c_MO_moves 96 = .ok (.aload_n 0, 1) := by decide +kernel
theorem d_MO_moves_97 : decode c_MO_moves 97 = .ok (.iconst 0, 1) := by decide +kernel
theorem d_MO_moves_98 : decode c_MO_moves 98 = .ok (.iload_n 2, 1) := by decide +kernel
theorem d_MO_moves_99 : decode c_MO_moves 99 = .ok (.iload 4, 2) := by decide +kernel
theorem d_MO_moves_101 : decode c_MO_moves 101 = .ok (.iadd, 1) := by decide +kernel
theorem d_MO_moves_102 : decode c_MO_moves 102 = .ok (.invokevirtual 114, 3) := by decide +kernel
theorem d_MO_moves_105 : decode c_MO_moves 105 = .ok (.invokevirtual 121, 3) := by decide +kernel
theorem d_MO_moves_108 : decode c_MO_moves 108 = .ok (.goto 80, 3) := by decide +kernel
theorem d_MO_moves_111 : decode c_MO_moves 111 = .ok (.aload_n 0, 1) := by decide +kernel
theorem d_MO_moves_112 : decode c_MO_moves 112 = .ok (.iconst 0, 1) := by decide +kernel
theorem d_MO_moves_113 : decode c_MO_moves 113 = .ok (.iload_n 2, 1) := by decide +kernel
theorem d_MO_moves_114 : decode c_MO_moves 114 = .ok (.iload_n 3, 1) := by decide +kernel
theorem d_MO_moves_115 : decode c_MO_moves 115 = .ok (.invokevirtual 111, 3) := by decide +kernel
theorem d_MO_moves_118 : decode c_MO_moves 118 = .ok (.goto 70, 3) := by decide +kernel
theorem d_MO_moves_121 : decode c_MO_moves 121 = .ok (.aload_n 0, 1) := by decide +kernel
theorem d_MO_moves_122 : decode c_MO_moves 122 = .ok (.iconst 0, 1) := by decide +kernel
theorem d_MO_moves_123 : decode c_MO_moves 123 = .ok (.iload_n 2, 1) := by decide +kernel
theorem d_MO_moves_124 : decode c_MO_moves 124 = .ok (.iload 4, 2) := by decide +kernel
theorem d_MO_moves_126 : decode c_MO_moves 126 = .ok (.iadd, 1) := by decide +kernel
theorem d_MO_moves_127 : decode c_MO_moves 127 = .ok (.iload_n 3, 1) := by decide +kernel
theorem d_MO_moves_128 : decode c_MO_moves 128 = .ok (.invokevirtual 111, 3) := by decide +kernel
theorem d_MO_moves_131 : decode c_MO_moves 131 = .ok (.goto 57, 3) := by decide +kernel
theorem d_MO_moves_134 : decode c_MO_moves 134 = .ok (.aload_n 0, 1) := by decide +kernel
theorem d_MO_moves_135 : decode c_MO_moves 135 = .ok (.iconst 0, 1) := by decide +kernel
theorem d_MO_moves_136 : decode c_MO_moves 136 = .ok (.iconst 1, 1) := by decide +kernel
theorem d_MO_moves_137 : decode c_MO_moves 137 = .ok (.iload_n 2, 1) := by decide +kernel
theorem d_MO_moves_138 : decode c_MO_moves 138 = .ok (.invokevirtual 118, 3) := by decide +kernel
theorem d_MO_moves_141 : decode c_MO_moves 141 = .ok (.goto 47, 3) := by decide +kernel
theorem d_MO_moves_144 : decode c_MO_moves 144 = .ok (.aload_n 0, 1) := by decide +kernel
theorem d_MO_moves_145 : decode c_MO_moves 145 = .ok (.iconst 0, 1) := by decide +kernel
theorem d_MO_moves_146 : decode c_MO_moves 146 = .ok (.iconst 1, 1) := by decide +kernel
theorem d_MO_moves_147 : decode c_MO_moves 147 = .ok (.iload_n 3, 1) := by decide +kernel
theorem d_MO_moves_148 : decode c_MO_moves 148 = .ok (.invokevirtual 118, 3) := by decide +kernel
theorem d_MO_moves_151 : decode c_MO_moves 151 = .ok (.goto 37, 3) := by decide +kernel
theorem d_MO_moves_154 : decode c_MO_moves 154 = .ok (.aload_n 0, 1) := by decide +kernel
theorem d_MO_moves_155 : decode c_MO_moves 155 = .ok (.iconst 0, 1) := by decide +kernel
theorem d_MO_moves_156 : decode c_MO_moves 156 = .ok (.iconst 0, 1) := by decide +kernel
