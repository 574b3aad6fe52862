theorem dA_init_0 : decode (am_by jA_init) 0 = .ok (.aload_n 0, 1) := by decide +kernel
theorem dA_init_1 : decode (am_by jA_init) 1 = .ok (.invokespecial 3, 3) := by decide +kernel
theorem dA_init_4 : decode (am_by jA_init) 4 = .ok (.aload_n 0, 1) := by decide +kernel
theorem dA_init_5 : decode (am_by jA_init) 5 = .ok (.bipush 8, 2) := by decide +kernel
theorem dA_init_7 : decode (am_by jA_init) 7 = .ok (.newarray .int, 2) := by decide +kernel
theorem dA_init_9 : decode (am_by jA_init) 9 = .ok (.putfield 9, 3) := by decide +kernel
theorem dA_init_12 : decode (am_by jA_init) 12 = .ok (.aload_n 0, 1) := by decide +kernel
theorem dA_init_13 : decode (am_by jA_init) 13 = .ok (.bipush 8, 2) := by decide +kernel
theorem dA_init_15 : decode (am_by jA_init) 15 = .ok (.newarray .int, 2) := by decide +kernel
theorem dA_init_17 : decode (am_by jA_init) 17 = .ok (.putfield 15, 3) := by decide +kernel
theorem dA_init_20 : decode (am_by jA_init) 20 = .ok (.return_, 1) := by decide +kernel
theorem dA_begin_0 : decode (am_by jA_begin) 0 = .ok (.aload_n 0, 1) := by decide +kernel
theorem dA_begin_1 : decode (am_by jA_begin) 1 = .ok (.iload_n 1, 1) := by decide +kernel
theorem dA_begin_2 : decode (am_by jA_begin) 2 = .ok (.putfield 18, 3) := by decide +kernel
theorem dA_begin_5 : decode (am_by jA_begin) 5 = .ok (.aload_n 0, 1) := by decide +kernel
theorem dA_begin_6 : decode (am_by jA_begin) 6 = .ok (.iload_n 2, 1) := by decide +kernel
theorem dA_begin_7 : decode (am_by jA_begin) 7 = .ok (.putfield 22, 3) := by decide +kernel
theorem dA_begin_10 : decode (am_by jA_begin) 10 = .ok (.aload_n 0, 1) := by decide +kernel
theorem dA_begin_11 : decode (am_by jA_begin) 11 = .ok (.iconst 0, 1) := by decide +kernel
theorem dA_begin_12 : decode (am_by jA_begin) 12 = .ok (.putfield 25, 3) := by decide +kernel
theorem dA_begin_15 : decode (am_by jA_begin) 15 = .ok (.aload_n 0, 1) := by decide +kernel
theorem dA_begin_16 : decode (am_by jA_begin) 16 = .ok (.iconst 0, 1) := by decide +kernel
theorem dA_begin_17 : decode (am_by jA_begin) 17 = .ok (.putfield 28, 3) := by decide +kernel
theorem dA_begin_20 : decode (am_by jA_begin) 20 = .ok (.aload_n 0, 1) := by decide +kernel
theorem dA_begin_21 : decode (am_by jA_begin) 21 = .ok (.iconst 0, 1) := by decide +kernel
theorem dA_begin_22 : decode (am_by jA_begin) 22 = .ok (.putfield 31, 3) := by decide +kernel
theorem dA_begin_25 : decode (am_by jA_begin) 25 = .ok (.return_, 1) := by decide +kernel
theorem dA_goOnWith_0 : decode (am_by jA_goOnWith) 0 = .ok (.aload_n 0, 1) := by decide +kernel
theorem dA_goOnWith_1 : decode (am_by jA_goOnWith) 1 = .ok (.iconst 0, 1) := by decide +kernel
theorem dA_goOnWith_2 : decode (am_by jA_goOnWith) 2 = .ok (.putfield 31, 3) := by decide +kernel
theorem dA_goOnWith_5 : decode (am_by jA_goOnWith) 5 = .ok (.aload_n 0, 1) := by decide +kernel
theorem dA_goOnWith_6 : decode (am_by jA_goOnWith) 6 = .ok (.iload_n 1, 1) := by decide +kernel
theorem dA_goOnWith_7 : decode (am_by jA_goOnWith) 7 = .ok (.invokevirtual 34, 3) := by decide +kernel
theorem dA_goOnWith_10 : decode (am_by jA_goOnWith) 10 = .ok (.aload_n 0, 1) := by decide +kernel
theorem dA_goOnWith_11 : decode (am_by jA_goOnWith) 11 = .ok (.iload_n 2, 1) := by decide +kernel
theorem dA_goOnWith_12 : decode (am_by jA_goOnWith) 12 = .ok (.putfield 28, 3) := by decide +kernel
theorem dA_goOnWith_15 : decode (am_by jA_goOnWith) 15 = .ok (.return_, 1) := by decide +kernel
theorem dA_push_0 : decode (am_by jA_push) 0 = .ok (.aload_n 0, 1) := by decide +kernel
theorem dA_push_1 : decode (am_by jA_push) 1 = .ok (.getfield 31, 3) := by decide +kernel
theorem dA_push_4 : decode (am_by jA_push) 4 = .ok (.bipush 8, 2) := by decide +kernel
theorem dA_push_6 : decode (am_by jA_push) 6 = .ok (.if_icmp .ge 23, 3) := by decide +kernel
theorem dA_push_9 : decode (am_by jA_push) 9 = .ok (.aload_n 0, 1) := by decide +kernel
theorem dA_push_10 : decode (am_by jA_push) 10 = .ok (.getfield 15, 3) := by decide +kernel
theorem dA_push_13 : decode (am_by jA_push) 13 = .ok (.aload_n 0, 1) := by decide +kernel
theorem dA_push_14 : decode (am_by jA_push) 14 = .ok (.getfield 31, 3) := by decide +kernel
theorem dA_push_17 : decode (am_by jA_push) 17 = .ok (.iload_n 1, 1) := by decide +kernel
theorem dA_push_18 : decode (am_by jA_push) 18 = .ok (.iastore, 1) := by decide +kernel
theorem dA_push_19 : decode (am_by jA_push) 19 = .ok (.aload_n 0, 1) := by decide +kernel
theorem dA_push_20 : decode (am_by jA_push) 20 = .ok (.dup, 1) := by decide +kernel
theorem dA_push_21 : decode (am_by jA_push) 21 = .ok (.getfield 31, 3) := by decide +kernel
theorem dA_push_24 : decode (am_by jA_push) 24 = .ok (.iconst 1, 1) := by decide +kernel
theorem dA_push_25 : decode (am_by jA_push) 25 = .ok (.iadd, 1) := by decide +kernel
theorem dA_push_26 : decode (am_by jA_push) 26 = .ok (.putfield 31, 3) := by decide +kernel
theorem dA_push_29 : decode (am_by jA_push) 29 = .ok (.return_, 1) := by decide +kernel
theorem dA_pop_0 : decode (am_by jA_pop) 0 = .ok (.aload_n 0, 1) := by decide +kernel
theorem dA_pop_1 : decode (am_by jA_pop) 1 = .ok (.getfield 31, 3) := by decide +kernel
theorem dA_pop_4 : decode (am_by jA_pop) 4 = .ok (.ifCond .ne 5, 3) := by decide +kernel
theorem dA_pop_7 : decode (am_by jA_pop) 7 = .ok (.iconst 0, 1) := by decide +kernel
theorem dA_pop_8 : decode (am_by jA_pop) 8 = .ok (.ireturn, 1) := by decide +kernel
theorem dA_pop_9 : decode (am_by jA_pop) 9 = .ok (.aload_n 0, 1) := by decide +kernel
theorem dA_pop_10 : decode (am_by jA_pop) 10 = .ok (.dup, 1) := by decide +kernel
theorem dA_pop_11 : decode (am_by jA_pop) 11 = .ok (.getfield 31, 3) := by decide +kernel
theorem dA_pop_14 : decode (am_by jA_pop) 14 = .ok (.iconst 1, 1) := by decide +kernel
theorem dA_pop_15 : decode (am_by jA_pop) 15 = .ok (.isub, 1) := by decide +kernel
theorem dA_pop_16 : decode (am_by jA_pop) 16 = .ok (.putfield 31, 3) := by decide +kernel
theorem dA_pop_19 : decode (am_by jA_pop) 19 = .ok (.aload_n 0, 1) := by decide +kernel
theorem dA_pop_20 : decode (am_by jA_pop) 20 = .ok (.getfield 15, 3) := by decide +kernel
theorem dA_pop_23 : decode (am_by jA_pop) 23 = .ok (.aload_n 0, 1) := by decide +kernel
theorem dA_pop_24 : decode (am_by jA_pop) 24 = .ok (.getfield 31, 3) := by decide +kernel
theorem dA_pop_27 : decode (am_by jA_pop) 27 = .ok (.iaload, 1) := by decide +kernel
theorem dA_pop_28 : decode (am_by jA_pop) 28 = .ok (.ireturn, 1) := by decide +kernel
