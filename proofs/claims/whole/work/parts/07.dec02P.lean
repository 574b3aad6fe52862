theorem dP_init_0 : decode (am_by jP_init) 0 = .ok (.aload_n 0, 1) := by decide +kernel
theorem dP_init_1 : decode (am_by jP_init) 1 = .ok (.invokespecial 3, 3) := by decide +kernel
theorem dP_init_4 : decode (am_by jP_init) 4 = .ok (.aload_n 0, 1) := by decide +kernel
theorem dP_init_5 : decode (am_by jP_init) 5 = .ok (.bipush 6, 2) := by decide +kernel
theorem dP_init_7 : decode (am_by jP_init) 7 = .ok (.anewarray 9, 3) := by decide +kernel
theorem dP_init_10 : decode (am_by jP_init) 10 = .ok (.putfield 11, 3) := by decide +kernel
theorem dP_init_13 : decode (am_by jP_init) 13 = .ok (.iconst 0, 1) := by decide +kernel
theorem dP_init_14 : decode (am_by jP_init) 14 = .ok (.istore_n 1, 1) := by decide +kernel
theorem dP_init_15 : decode (am_by jP_init) 15 = .ok (.iload_n 1, 1) := by decide +kernel
theorem dP_init_16 : decode (am_by jP_init) 16 = .ok (.bipush 6, 2) := by decide +kernel
theorem dP_init_18 : decode (am_by jP_init) 18 = .ok (.if_icmp .ge 22, 3) := by decide +kernel
theorem dP_init_21 : decode (am_by jP_init) 21 = .ok (.aload_n 0, 1) := by decide +kernel
theorem dP_init_22 : decode (am_by jP_init) 22 = .ok (.getfield 11, 3) := by decide +kernel
theorem dP_init_25 : decode (am_by jP_init) 25 = .ok (.iload_n 1, 1) := by decide +kernel
theorem dP_init_26 : decode (am_by jP_init) 26 = .ok (.new 9, 3) := by decide +kernel
theorem dP_init_29 : decode (am_by jP_init) 29 = .ok (.dup, 1) := by decide +kernel
theorem dP_init_30 : decode (am_by jP_init) 30 = .ok (.invokespecial 17, 3) := by decide +kernel
theorem dP_init_33 : decode (am_by jP_init) 33 = .ok (.aastore, 1) := by decide +kernel
theorem dP_init_34 : decode (am_by jP_init) 34 = .ok (.iinc 1 1, 3) := by decide +kernel
theorem dP_init_37 : decode (am_by jP_init) 37 = .ok (.goto (-22), 3) := by decide +kernel
theorem dP_init_40 : decode (am_by jP_init) 40 = .ok (.return_, 1) := by decide +kernel
theorem dP_become_0 : decode (am_by jP_become) 0 = .ok (.iconst 0, 1) := by decide +kernel
theorem dP_become_1 : decode (am_by jP_become) 1 = .ok (.istore_n 2, 1) := by decide +kernel
theorem dP_become_2 : decode (am_by jP_become) 2 = .ok (.iload_n 2, 1) := by decide +kernel
theorem dP_become_3 : decode (am_by jP_become) 3 = .ok (.bipush 6, 2) := by decide +kernel
theorem dP_become_5 : decode (am_by jP_become) 5 = .ok (.if_icmp .ge 24, 3) := by decide +kernel
theorem dP_become_8 : decode (am_by jP_become) 8 = .ok (.aload_n 0, 1) := by decide +kernel
theorem dP_become_9 : decode (am_by jP_become) 9 = .ok (.getfield 11, 3) := by decide +kernel
theorem dP_become_12 : decode (am_by jP_become) 12 = .ok (.iload_n 2, 1) := by decide +kernel
theorem dP_become_13 : decode (am_by jP_become) 13 = .ok (.aaload, 1) := by decide +kernel
theorem dP_become_14 : decode (am_by jP_become) 14 = .ok (.aload_n 1, 1) := by decide +kernel
theorem dP_become_15 : decode (am_by jP_become) 15 = .ok (.getfield 11, 3) := by decide +kernel
theorem dP_become_18 : decode (am_by jP_become) 18 = .ok (.iload_n 2, 1) := by decide +kernel
theorem dP_become_19 : decode (am_by jP_become) 19 = .ok (.aaload, 1) := by decide +kernel
theorem dP_become_20 : decode (am_by jP_become) 20 = .ok (.invokevirtual 18, 3) := by decide +kernel
theorem dP_become_23 : decode (am_by jP_become) 23 = .ok (.iinc 2 1, 3) := by decide +kernel
theorem dP_become_26 : decode (am_by jP_become) 26 = .ok (.goto (-24), 3) := by decide +kernel
theorem dP_become_29 : decode (am_by jP_become) 29 = .ok (.return_, 1) := by decide +kernel
theorem dP_instructions_0 : decode (am_by jP_instructions) 0 = .ok (.iconst 0, 1) := by decide +kernel
theorem dP_instructions_1 : decode (am_by jP_instructions) 1 = .ok (.istore_n 1, 1) := by decide +kernel
theorem dP_instructions_2 : decode (am_by jP_instructions) 2 = .ok (.iconst 0, 1) := by decide +kernel
theorem dP_instructions_3 : decode (am_by jP_instructions) 3 = .ok (.istore_n 2, 1) := by decide +kernel
theorem dP_instructions_4 : decode (am_by jP_instructions) 4 = .ok (.iload_n 2, 1) := by decide +kernel
theorem dP_instructions_5 : decode (am_by jP_instructions) 5 = .ok (.bipush 6, 2) := by decide +kernel
theorem dP_instructions_7 : decode (am_by jP_instructions) 7 = .ok (.if_icmp .ge 21, 3) := by decide +kernel
theorem dP_instructions_10 : decode (am_by jP_instructions) 10 = .ok (.iload_n 1, 1) := by decide +kernel
theorem dP_instructions_11 : decode (am_by jP_instructions) 11 = .ok (.aload_n 0, 1) := by decide +kernel
theorem dP_instructions_12 : decode (am_by jP_instructions) 12 = .ok (.getfield 11, 3) := by decide +kernel
theorem dP_instructions_15 : decode (am_by jP_instructions) 15 = .ok (.iload_n 2, 1) := by decide +kernel
theorem dP_instructions_16 : decode (am_by jP_instructions) 16 = .ok (.aaload, 1) := by decide +kernel
theorem dP_instructions_17 : decode (am_by jP_instructions) 17 = .ok (.getfield 22, 3) := by decide +kernel
theorem dP_instructions_20 : decode (am_by jP_instructions) 20 = .ok (.iadd, 1) := by decide +kernel
theorem dP_instructions_21 : decode (am_by jP_instructions) 21 = .ok (.istore_n 1, 1) := by decide +kernel
theorem dP_instructions_22 : decode (am_by jP_instructions) 22 = .ok (.iinc 2 1, 3) := by decide +kernel
theorem dP_instructions_25 : decode (am_by jP_instructions) 25 = .ok (.goto (-21), 3) := by decide +kernel
theorem dP_instructions_28 : decode (am_by jP_instructions) 28 = .ok (.iload_n 1, 1) := by decide +kernel
theorem dP_instructions_29 : decode (am_by jP_instructions) 29 = .ok (.ireturn, 1) := by decide +kernel
theorem dP_calledFrom_0 : decode (am_by jP_calledFrom) 0 = .ok (.iconst 0, 1) := by decide +kernel
theorem dP_calledFrom_1 : decode (am_by jP_calledFrom) 1 = .ok (.istore_n 2, 1) := by decide +kernel
theorem dP_calledFrom_2 : decode (am_by jP_calledFrom) 2 = .ok (.iconst 1, 1) := by decide +kernel
theorem dP_calledFrom_3 : decode (am_by jP_calledFrom) 3 = .ok (.iload_n 1, 1) := by decide +kernel
theorem dP_calledFrom_4 : decode (am_by jP_calledFrom) 4 = .ok (.ishl, 1) := by decide +kernel
theorem dP_calledFrom_5 : decode (am_by jP_calledFrom) 5 = .ok (.istore_n 3, 1) := by decide +kernel
theorem dP_calledFrom_6 : decode (am_by jP_calledFrom) 6 = .ok (.iconst 0, 1) := by decide +kernel
theorem dP_calledFrom_7 : decode (am_by jP_calledFrom) 7 = .ok (.istore 4, 2) := by decide +kernel
theorem dP_calledFrom_9 : decode (am_by jP_calledFrom) 9 = .ok (.iload 4, 2) := by decide +kernel
theorem dP_calledFrom_11 : decode (am_by jP_calledFrom) 11 = .ok (.bipush 6, 2) := by decide +kernel
theorem dP_calledFrom_13 : decode (am_by jP_calledFrom) 13 = .ok (.if_icmp .ge 54, 3) := by decide +kernel
theorem dP_calledFrom_16 : decode (am_by jP_calledFrom) 16 = .ok (.iload_n 2, 1) := by decide +kernel
theorem dP_calledFrom_17 : decode (am_by jP_calledFrom) 17 = .ok (.iload_n 3, 1) := by decide +kernel
theorem dP_calledFrom_18 : decode (am_by jP_calledFrom) 18 = .ok (.if_icmp .eq 49, 3) := by decide +kernel
theorem dP_calledFrom_21 : decode (am_by jP_calledFrom) 21 = .ok (.iload_n 3, 1) := by decide +kernel
theorem dP_calledFrom_22 : decode (am_by jP_calledFrom) 22 = .ok (.istore_n 2, 1) := by decide +kernel
theorem dP_calledFrom_23 : decode (am_by jP_calledFrom) 23 = .ok (.iconst 0, 1) := by decide +kernel
theorem dP_calledFrom_24 : decode (am_by jP_calledFrom) 24 = .ok (.istore 5, 2) := by decide +kernel
theorem dP_calledFrom_26 : decode (am_by jP_calledFrom) 26 = .ok (.iload 5, 2) := by decide +kernel
theorem dP_calledFrom_28 : decode (am_by jP_calledFrom) 28 = .ok (.bipush 6, 2) := by decide +kernel
theorem dP_calledFrom_30 : decode (am_by jP_calledFrom) 30 = .ok (.if_icmp .ge 31, 3) := by decide +kernel
theorem dP_calledFrom_33 : decode (am_by jP_calledFrom) 33 = .ok (.iload_n 2, 1) := by decide +kernel
theorem dP_calledFrom_34 : decode (am_by jP_calledFrom) 34 = .ok (.iload 5, 2) := by decide +kernel
theorem dP_calledFrom_36 : decode (am_by jP_calledFrom) 36 = .ok (.invokestatic 26, 3) := by decide +kernel
theorem dP_calledFrom_39 : decode (am_by jP_calledFrom) 39 = .ok (.ifCond .eq 16, 3) := by decide +kernel
theorem dP_calledFrom_42 : decode (am_by jP_calledFrom) 42 = .ok (.iload_n 3, 1) := by decide +kernel
theorem dP_calledFrom_43 : decode (am_by jP_calledFrom) 43 = .ok (.aload_n 0, 1) := by decide +kernel
theorem dP_calledFrom_44 : decode (am_by jP_calledFrom) 44 = .ok (.getfield 11, 3) := by decide +kernel
theorem dP_calledFrom_47 : decode (am_by jP_calledFrom) 47 = .ok (.iload 5, 2) := by decide +kernel
theorem dP_calledFrom_49 : decode (am_by jP_calledFrom) 49 = .ok (.aaload, 1) := by decide +kernel
theorem dP_calledFrom_50 : decode (am_by jP_calledFrom) 50 = .ok (.invokevirtual 30, 3) := by decide +kernel
theorem dP_calledFrom_53 : decode (am_by jP_calledFrom) 53 = .ok (.ior, 1) := by decide +kernel
theorem dP_calledFrom_54 : decode (am_by jP_calledFrom) 54 = .ok (.istore_n 3, 1) := by decide +kernel
theorem dP_calledFrom_55 : decode (am_by jP_calledFrom) 55 = .ok (.iinc 5 1, 3) := by decide +kernel
theorem dP_calledFrom_58 : decode (am_by jP_calledFrom) 58 = .ok (.goto (-32), 3) := by decide +kernel
theorem dP_calledFrom_61 : decode (am_by jP_calledFrom) 61 = .ok (.iinc 4 1, 3) := by decide +kernel
theorem dP_calledFrom_64 : decode (am_by jP_calledFrom) 64 = .ok (.goto (-55), 3) := by decide +kernel
theorem dP_calledFrom_67 : decode (am_by jP_calledFrom) 67 = .ok (.iload_n 3, 1) := by decide +kernel
theorem dP_calledFrom_68 : decode (am_by jP_calledFrom) 68 = .ok (.ireturn, 1) := by decide +kernel
