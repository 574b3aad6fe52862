theorem dL_init_0 : decode (am_by jL_init) 0 = .ok (.aload_n 0, 1) := by decide +kernel
theorem dL_init_1 : decode (am_by jL_init) 1 = .ok (.invokespecial 3, 3) := by decide +kernel
theorem dL_init_4 : decode (am_by jL_init) 4 = .ok (.aload_n 0, 1) := by decide +kernel
theorem dL_init_5 : decode (am_by jL_init) 5 = .ok (.bipush 120, 2) := by decide +kernel
theorem dL_init_7 : decode (am_by jL_init) 7 = .ok (.newarray .int, 2) := by decide +kernel
theorem dL_init_9 : decode (am_by jL_init) 9 = .ok (.putfield 9, 3) := by decide +kernel
theorem dL_init_12 : decode (am_by jL_init) 12 = .ok (.return_, 1) := by decide +kernel
theorem dL_clear_0 : decode (am_by jL_clear) 0 = .ok (.aload_n 0, 1) := by decide +kernel
theorem dL_clear_1 : decode (am_by jL_clear) 1 = .ok (.bipush (-5), 2) := by decide +kernel
theorem dL_clear_3 : decode (am_by jL_clear) 3 = .ok (.putfield 15, 3) := by decide +kernel
theorem dL_clear_6 : decode (am_by jL_clear) 6 = .ok (.aload_n 0, 1) := by decide +kernel
theorem dL_clear_7 : decode (am_by jL_clear) 7 = .ok (.iconst 0, 1) := by decide +kernel
theorem dL_clear_8 : decode (am_by jL_clear) 8 = .ok (.putfield 19, 3) := by decide +kernel
theorem dL_clear_11 : decode (am_by jL_clear) 11 = .ok (.aload_n 0, 1) := by decide +kernel
theorem dL_clear_12 : decode (am_by jL_clear) 12 = .ok (.iconst 0, 1) := by decide +kernel
theorem dL_clear_13 : decode (am_by jL_clear) 13 = .ok (.putfield 22, 3) := by decide +kernel
theorem dL_clear_16 : decode (am_by jL_clear) 16 = .ok (.aload_n 0, 1) := by decide +kernel
theorem dL_clear_17 : decode (am_by jL_clear) 17 = .ok (.iconst 0, 1) := by decide +kernel
theorem dL_clear_18 : decode (am_by jL_clear) 18 = .ok (.putfield 25, 3) := by decide +kernel
theorem dL_clear_21 : decode (am_by jL_clear) 21 = .ok (.aload_n 0, 1) := by decide +kernel
theorem dL_clear_22 : decode (am_by jL_clear) 22 = .ok (.iconst 0, 1) := by decide +kernel
theorem dL_clear_23 : decode (am_by jL_clear) 23 = .ok (.putfield 28, 3) := by decide +kernel
theorem dL_clear_26 : decode (am_by jL_clear) 26 = .ok (.aload_n 0, 1) := by decide +kernel
theorem dL_clear_27 : decode (am_by jL_clear) 27 = .ok (.iconst 0, 1) := by decide +kernel
theorem dL_clear_28 : decode (am_by jL_clear) 28 = .ok (.putfield 31, 3) := by decide +kernel
theorem dL_clear_31 : decode (am_by jL_clear) 31 = .ok (.aload_n 0, 1) := by decide +kernel
theorem dL_clear_32 : decode (am_by jL_clear) 32 = .ok (.iconst 0, 1) := by decide +kernel
theorem dL_clear_33 : decode (am_by jL_clear) 33 = .ok (.putfield 34, 3) := by decide +kernel
theorem dL_clear_36 : decode (am_by jL_clear) 36 = .ok (.return_, 1) := by decide +kernel
theorem dL_note_0 : decode (am_by jL_note) 0 = .ok (.aload_n 0, 1) := by decide +kernel
theorem dL_note_1 : decode (am_by jL_note) 1 = .ok (.getfield 31, 3) := by decide +kernel
theorem dL_note_4 : decode (am_by jL_note) 4 = .ok (.bipush 120, 2) := by decide +kernel
theorem dL_note_6 : decode (am_by jL_note) 6 = .ok (.if_icmp .ge 18, 3) := by decide +kernel
theorem dL_note_9 : decode (am_by jL_note) 9 = .ok (.aload_n 0, 1) := by decide +kernel
theorem dL_note_10 : decode (am_by jL_note) 10 = .ok (.getfield 9, 3) := by decide +kernel
theorem dL_note_13 : decode (am_by jL_note) 13 = .ok (.aload_n 0, 1) := by decide +kernel
theorem dL_note_14 : decode (am_by jL_note) 14 = .ok (.getfield 31, 3) := by decide +kernel
theorem dL_note_17 : decode (am_by jL_note) 17 = .ok (.bipush 16, 2) := by decide +kernel
theorem dL_note_19 : decode (am_by jL_note) 19 = .ok (.iload_n 2, 1) := by decide +kernel
theorem dL_note_20 : decode (am_by jL_note) 20 = .ok (.imul, 1) := by decide +kernel
theorem dL_note_21 : decode (am_by jL_note) 21 = .ok (.iload_n 1, 1) := by decide +kernel
theorem dL_note_22 : decode (am_by jL_note) 22 = .ok (.iadd, 1) := by decide +kernel
theorem dL_note_23 : decode (am_by jL_note) 23 = .ok (.iastore, 1) := by decide +kernel
theorem dL_note_24 : decode (am_by jL_note) 24 = .ok (.aload_n 0, 1) := by decide +kernel
theorem dL_note_25 : decode (am_by jL_note) 25 = .ok (.dup, 1) := by decide +kernel
theorem dL_note_26 : decode (am_by jL_note) 26 = .ok (.getfield 31, 3) := by decide +kernel
theorem dL_note_29 : decode (am_by jL_note) 29 = .ok (.iconst 1, 1) := by decide +kernel
theorem dL_note_30 : decode (am_by jL_note) 30 = .ok (.iadd, 1) := by decide +kernel
theorem dL_note_31 : decode (am_by jL_note) 31 = .ok (.putfield 31, 3) := by decide +kernel
theorem dL_note_34 : decode (am_by jL_note) 34 = .ok (.return_, 1) := by decide +kernel
theorem dL_entriesKept_0 : decode (am_by jL_entriesKept) 0 = .ok (.aload_n 0, 1) := by decide +kernel
theorem dL_entriesKept_1 : decode (am_by jL_entriesKept) 1 = .ok (.getfield 31, 3) := by decide +kernel
theorem dL_entriesKept_4 : decode (am_by jL_entriesKept) 4 = .ok (.bipush 120, 2) := by decide +kernel
theorem dL_entriesKept_6 : decode (am_by jL_entriesKept) 6 = .ok (.invokestatic 37, 3) := by decide +kernel
theorem dL_entriesKept_9 : decode (am_by jL_entriesKept) 9 = .ok (.ireturn, 1) := by decide +kernel
theorem dL_sameEntries_0 : decode (am_by jL_sameEntries) 0 = .ok (.aload_n 0, 1) := by decide +kernel
theorem dL_sameEntries_1 : decode (am_by jL_sameEntries) 1 = .ok (.getfield 31, 3) := by decide +kernel
theorem dL_sameEntries_4 : decode (am_by jL_sameEntries) 4 = .ok (.aload_n 1, 1) := by decide +kernel
theorem dL_sameEntries_5 : decode (am_by jL_sameEntries) 5 = .ok (.getfield 31, 3) := by decide +kernel
theorem dL_sameEntries_8 : decode (am_by jL_sameEntries) 8 = .ok (.if_icmp .eq 5, 3) := by decide +kernel
theorem dL_sameEntries_11 : decode (am_by jL_sameEntries) 11 = .ok (.iconst 0, 1) := by decide +kernel
theorem dL_sameEntries_12 : decode (am_by jL_sameEntries) 12 = .ok (.ireturn, 1) := by decide +kernel
theorem dL_sameEntries_13 : decode (am_by jL_sameEntries) 13 = .ok (.iconst 0, 1) := by decide +kernel
theorem dL_sameEntries_14 : decode (am_by jL_sameEntries) 14 = .ok (.istore_n 2, 1) := by decide +kernel
theorem dL_sameEntries_15 : decode (am_by jL_sameEntries) 15 = .ok (.iload_n 2, 1) := by decide +kernel
theorem dL_sameEntries_16 : decode (am_by jL_sameEntries) 16 = .ok (.aload_n 0, 1) := by decide +kernel
theorem dL_sameEntries_17 : decode (am_by jL_sameEntries) 17 = .ok (.invokevirtual 43, 3) := by decide +kernel
theorem dL_sameEntries_20 : decode (am_by jL_sameEntries) 20 = .ok (.if_icmp .ge 26, 3) := by decide +kernel
theorem dL_sameEntries_23 : decode (am_by jL_sameEntries) 23 = .ok (.aload_n 0, 1) := by decide +kernel
theorem dL_sameEntries_24 : decode (am_by jL_sameEntries) 24 = .ok (.getfield 9, 3) := by decide +kernel
theorem dL_sameEntries_27 : decode (am_by jL_sameEntries) 27 = .ok (.iload_n 2, 1) := by decide +kernel
theorem dL_sameEntries_28 : decode (am_by jL_sameEntries) 28 = .ok (.iaload, 1) := by decide +kernel
theorem dL_sameEntries_29 : decode (am_by jL_sameEntries) 29 = .ok (.aload_n 1, 1) := by decide +kernel
theorem dL_sameEntries_30 : decode (am_by jL_sameEntries) 30 = .ok (.getfield 9, 3) := by decide +kernel
theorem dL_sameEntries_33 : decode (am_by jL_sameEntries) 33 = .ok (.iload_n 2, 1) := by decide +kernel
theorem dL_sameEntries_34 : decode (am_by jL_sameEntries) 34 = .ok (.iaload, 1) := by decide +kernel
theorem dL_sameEntries_35 : decode (am_by jL_sameEntries) 35 = .ok (.if_icmp .eq 5, 3) := by decide +kernel
theorem dL_sameEntries_38 : decode (am_by jL_sameEntries) 38 = .ok (.iconst 0, 1) := by decide +kernel
theorem dL_sameEntries_39 : decode (am_by jL_sameEntries) 39 = .ok (.ireturn, 1) := by decide +kernel
theorem dL_sameEntries_40 : decode (am_by jL_sameEntries) 40 = .ok (.iinc 2 1, 3) := by decide +kernel
theorem dL_sameEntries_43 : decode (am_by jL_sameEntries) 43 = .ok (.goto (-28), 3) := by decide +kernel
theorem dL_sameEntries_46 : decode (am_by jL_sameEntries) 46 = .ok (.iconst 1, 1) := by decide +kernel
theorem dL_sameEntries_47 : decode (am_by jL_sameEntries) 47 = .ok (.ireturn, 1) := by decide +kernel
