theorem dC_init_0 : decode (am_by jC_init) 0 = .ok (.aload_n 0, 1) := by decide +kernel
theorem dC_init_1 : decode (am_by jC_init) 1 = .ok (.invokespecial 3, 3) := by decide +kernel
theorem dC_init_4 : decode (am_by jC_init) 4 = .ok (.aload_n 0, 1) := by decide +kernel
theorem dC_init_5 : decode (am_by jC_init) 5 = .ok (.bipush 60, 2) := by decide +kernel
theorem dC_init_7 : decode (am_by jC_init) 7 = .ok (.newarray .int, 2) := by decide +kernel
theorem dC_init_9 : decode (am_by jC_init) 9 = .ok (.putfield 9, 3) := by decide +kernel
theorem dC_init_12 : decode (am_by jC_init) 12 = .ok (.aload_n 0, 1) := by decide +kernel
theorem dC_init_13 : decode (am_by jC_init) 13 = .ok (.sipush 960, 3) := by decide +kernel
theorem dC_init_16 : decode (am_by jC_init) 16 = .ok (.newarray .int, 2) := by decide +kernel
theorem dC_init_18 : decode (am_by jC_init) 18 = .ok (.putfield 15, 3) := by decide +kernel
theorem dC_init_21 : decode (am_by jC_init) 21 = .ok (.aload_n 0, 1) := by decide +kernel
theorem dC_init_22 : decode (am_by jC_init) 22 = .ok (.bipush 60, 2) := by decide +kernel
theorem dC_init_24 : decode (am_by jC_init) 24 = .ok (.newarray .boolean, 2) := by decide +kernel
theorem dC_init_26 : decode (am_by jC_init) 26 = .ok (.putfield 18, 3) := by decide +kernel
theorem dC_init_29 : decode (am_by jC_init) 29 = .ok (.aload_n 0, 1) := by decide +kernel
theorem dC_init_30 : decode (am_by jC_init) 30 = .ok (.bipush 60, 2) := by decide +kernel
theorem dC_init_32 : decode (am_by jC_init) 32 = .ok (.newarray .boolean, 2) := by decide +kernel
theorem dC_init_34 : decode (am_by jC_init) 34 = .ok (.putfield 22, 3) := by decide +kernel
theorem dC_init_37 : decode (am_by jC_init) 37 = .ok (.aload_n 0, 1) := by decide +kernel
theorem dC_init_38 : decode (am_by jC_init) 38 = .ok (.bipush 16, 2) := by decide +kernel
theorem dC_init_40 : decode (am_by jC_init) 40 = .ok (.newarray .int, 2) := by decide +kernel
theorem dC_init_42 : decode (am_by jC_init) 42 = .ok (.putfield 25, 3) := by decide +kernel
theorem dC_init_45 : decode (am_by jC_init) 45 = .ok (.aload_n 0, 1) := by decide +kernel
theorem dC_init_46 : decode (am_by jC_init) 46 = .ok (.bipush 16, 2) := by decide +kernel
theorem dC_init_48 : decode (am_by jC_init) 48 = .ok (.newarray .int, 2) := by decide +kernel
theorem dC_init_50 : decode (am_by jC_init) 50 = .ok (.putfield 28, 3) := by decide +kernel
theorem dC_init_53 : decode (am_by jC_init) 53 = .ok (.return_, 1) := by decide +kernel
theorem dC_follow_0 : decode (am_by jC_follow) 0 = .ok (.aload_n 1, 1) := by decide +kernel
theorem dC_follow_1 : decode (am_by jC_follow) 1 = .ok (.getfield 31, 3) := by decide +kernel
theorem dC_follow_4 : decode (am_by jC_follow) 4 = .ok (.iload_n 2, 1) := by decide +kernel
theorem dC_follow_5 : decode (am_by jC_follow) 5 = .ok (.aaload, 1) := by decide +kernel
theorem dC_follow_6 : decode (am_by jC_follow) 6 = .ok (.astore_n 3, 1) := by decide +kernel
theorem dC_follow_7 : decode (am_by jC_follow) 7 = .ok (.aload_n 0, 1) := by decide +kernel
theorem dC_follow_8 : decode (am_by jC_follow) 8 = .ok (.aload_n 3, 1) := by decide +kernel
theorem dC_follow_9 : decode (am_by jC_follow) 9 = .ok (.invokevirtual 37, 3) := by decide +kernel
theorem dC_follow_12 : decode (am_by jC_follow) 12 = .ok (.aload_n 0, 1) := by decide +kernel
theorem dC_follow_13 : decode (am_by jC_follow) 13 = .ok (.getfield 41, 3) := by decide +kernel
theorem dC_follow_16 : decode (am_by jC_follow) 16 = .ok (.ifCond .ne 7, 3) := by decide +kernel
theorem dC_follow_19 : decode (am_by jC_follow) 19 = .ok (.iconst 1, 1) := by decide +kernel
theorem dC_follow_20 : decode (am_by jC_follow) 20 = .ok (.goto 4, 3) := by decide +kernel
theorem dC_follow_23 : decode (am_by jC_follow) 23 = .ok (.iconst 0, 1) := by decide +kernel
theorem dC_follow_24 : decode (am_by jC_follow) 24 = .ok (.istore 4, 2) := by decide +kernel
theorem dC_follow_26 : decode (am_by jC_follow) 26 = .ok (.iconst 0, 1) := by decide +kernel
theorem dC_follow_27 : decode (am_by jC_follow) 27 = .ok (.istore 5, 2) := by decide +kernel
theorem dC_follow_29 : decode (am_by jC_follow) 29 = .ok (.iload 4, 2) := by decide +kernel
theorem dC_follow_31 : decode (am_by jC_follow) 31 = .ok (.ifCond .eq 74, 3) := by decide +kernel
theorem dC_follow_34 : decode (am_by jC_follow) 34 = .ok (.iload 5, 2) := by decide +kernel
theorem dC_follow_36 : decode (am_by jC_follow) 36 = .ok (.sipush 10000, 3) := by decide +kernel
theorem dC_follow_39 : decode (am_by jC_follow) 39 = .ok (.if_icmp .ge 66, 3) := by decide +kernel
theorem dC_follow_42 : decode (am_by jC_follow) 42 = .ok (.iconst 0, 1) := by decide +kernel
theorem dC_follow_43 : decode (am_by jC_follow) 43 = .ok (.istore 4, 2) := by decide +kernel
theorem dC_follow_45 : decode (am_by jC_follow) 45 = .ok (.iconst 0, 1) := by decide +kernel
theorem dC_follow_46 : decode (am_by jC_follow) 46 = .ok (.istore 6, 2) := by decide +kernel
theorem dC_follow_48 : decode (am_by jC_follow) 48 = .ok (.iload 6, 2) := by decide +kernel
theorem dC_follow_50 : decode (am_by jC_follow) 50 = .ok (.aload_n 0, 1) := by decide +kernel
theorem dC_follow_51 : decode (am_by jC_follow) 51 = .ok (.getfield 45, 3) := by decide +kernel
theorem dC_follow_54 : decode (am_by jC_follow) 54 = .ok (.if_icmp .ge 45, 3) := by decide +kernel
theorem dC_follow_57 : decode (am_by jC_follow) 57 = .ok (.aload_n 0, 1) := by decide +kernel
theorem dC_follow_58 : decode (am_by jC_follow) 58 = .ok (.getfield 41, 3) := by decide +kernel
theorem dC_follow_61 : decode (am_by jC_follow) 61 = .ok (.ifCond .ne 38, 3) := by decide +kernel
theorem dC_follow_64 : decode (am_by jC_follow) 64 = .ok (.aload_n 0, 1) := by decide +kernel
theorem dC_follow_65 : decode (am_by jC_follow) 65 = .ok (.getfield 22, 3) := by decide +kernel
theorem dC_follow_68 : decode (am_by jC_follow) 68 = .ok (.iload 6, 2) := by decide +kernel
theorem dC_follow_70 : decode (am_by jC_follow) 70 = .ok (.baload, 1) := by decide +kernel
theorem dC_follow_71 : decode (am_by jC_follow) 71 = .ok (.ifCond .eq 22, 3) := by decide +kernel
theorem dC_follow_74 : decode (am_by jC_follow) 74 = .ok (.aload_n 0, 1) := by decide +kernel
theorem dC_follow_75 : decode (am_by jC_follow) 75 = .ok (.getfield 22, 3) := by decide +kernel
theorem dC_follow_78 : decode (am_by jC_follow) 78 = .ok (.iload 6, 2) := by decide +kernel
theorem dC_follow_80 : decode (am_by jC_follow) 80 = .ok (.iconst 0, 1) := by decide +kernel
theorem dC_follow_81 : decode (am_by jC_follow) 81 = .ok (.bastore, 1) := by decide +kernel
theorem dC_follow_82 : decode (am_by jC_follow) 82 = .ok (.iconst 1, 1) := by decide +kernel
theorem dC_follow_83 : decode (am_by jC_follow) 83 = .ok (.istore 4, 2) := by decide +kernel
theorem dC_follow_85 : decode (am_by jC_follow) 85 = .ok (.aload_n 0, 1) := by decide +kernel
theorem dC_follow_86 : decode (am_by jC_follow) 86 = .ok (.aload_n 1, 1) := by decide +kernel
theorem dC_follow_87 : decode (am_by jC_follow) 87 = .ok (.aload_n 3, 1) := by decide +kernel
theorem dC_follow_88 : decode (am_by jC_follow) 88 = .ok (.iload 6, 2) := by decide +kernel
theorem dC_follow_90 : decode (am_by jC_follow) 90 = .ok (.invokevirtual 49, 3) := by decide +kernel
theorem dC_follow_93 : decode (am_by jC_follow) 93 = .ok (.iinc 6 1, 3) := by decide +kernel
theorem dC_follow_96 : decode (am_by jC_follow) 96 = .ok (.goto (-48), 3) := by decide +kernel
theorem dC_follow_99 : decode (am_by jC_follow) 99 = .ok (.iinc 5 1, 3) := by decide +kernel
theorem dC_follow_102 : decode (am_by jC_follow) 102 = .ok (.goto (-73), 3) := by decide +kernel
theorem dC_follow_105 : decode (am_by jC_follow) 105 = .ok (.aload_n 0, 1) := by decide +kernel
theorem dC_follow_106 : decode (am_by jC_follow) 106 = .ok (.getfield 41, 3) := by decide +kernel
theorem dC_follow_109 : decode (am_by jC_follow) 109 = .ok (.ifCond .ne 7, 3) := by decide +kernel
theorem dC_follow_112 : decode (am_by jC_follow) 112 = .ok (.iconst 1, 1) := by decide +kernel
theorem dC_follow_113 : decode (am_by jC_follow) 113 = .ok (.goto 4, 3) := by decide +kernel
theorem dC_follow_116 : decode (am_by jC_follow) 116 = .ok (.iconst 0, 1) := by decide +kernel
theorem dC_follow_117 : decode (am_by jC_follow) 117 = .ok (.ireturn, 1) := by decide +kernel
theorem dC_comesTo_0 : decode (am_by jC_comesTo) 0 = .ok (.aload_n 0, 1) := by decide +kernel
theorem dC_comesTo_1 : decode (am_by jC_comesTo) 1 = .ok (.getfield 41, 3) := by decide +kernel
theorem dC_comesTo_4 : decode (am_by jC_comesTo) 4 = .ok (.ifCond .ne 27, 3) := by decide +kernel
theorem dC_comesTo_7 : decode (am_by jC_comesTo) 7 = .ok (.iload_n 1, 1) := by decide +kernel
theorem dC_comesTo_8 : decode (am_by jC_comesTo) 8 = .ok (.aload_n 0, 1) := by decide +kernel
theorem dC_comesTo_9 : decode (am_by jC_comesTo) 9 = .ok (.getfield 45, 3) := by decide +kernel
theorem dC_comesTo_12 : decode (am_by jC_comesTo) 12 = .ok (.invokestatic 53, 3) := by decide +kernel
theorem dC_comesTo_15 : decode (am_by jC_comesTo) 15 = .ok (.ifCond .eq 16, 3) := by decide +kernel
theorem dC_comesTo_18 : decode (am_by jC_comesTo) 18 = .ok (.aload_n 0, 1) := by decide +kernel
theorem dC_comesTo_19 : decode (am_by jC_comesTo) 19 = .ok (.getfield 18, 3) := by decide +kernel
theorem dC_comesTo_22 : decode (am_by jC_comesTo) 22 = .ok (.iload_n 1, 1) := by decide +kernel
theorem dC_comesTo_23 : decode (am_by jC_comesTo) 23 = .ok (.baload, 1) := by decide +kernel
theorem dC_comesTo_24 : decode (am_by jC_comesTo) 24 = .ok (.ifCond .eq 7, 3) := by decide +kernel
theorem dC_comesTo_27 : decode (am_by jC_comesTo) 27 = .ok (.iconst 1, 1) := by decide +kernel
theorem dC_comesTo_28 : decode (am_by jC_comesTo) 28 = .ok (.goto 4, 3) := by decide +kernel
theorem dC_comesTo_31 : decode (am_by jC_comesTo) 31 = .ok (.iconst 0, 1) := by decide +kernel
theorem dC_comesTo_32 : decode (am_by jC_comesTo) 32 = .ok (.ireturn, 1) := by decide +kernel
theorem dC_stackKind_0 : decode (am_by jC_stackKind) 0 = .ok (.iload_n 2, 1) := by decide +kernel
theorem dC_stackKind_1 : decode (am_by jC_stackKind) 1 = .ok (.aload_n 0, 1) := by decide +kernel
theorem dC_stackKind_2 : decode (am_by jC_stackKind) 2 = .ok (.getfield 9, 3) := by decide +kernel
theorem dC_stackKind_5 : decode (am_by jC_stackKind) 5 = .ok (.iload_n 1, 1) := by decide +kernel
theorem dC_stackKind_6 : decode (am_by jC_stackKind) 6 = .ok (.iaload, 1) := by decide +kernel
theorem dC_stackKind_7 : decode (am_by jC_stackKind) 7 = .ok (.if_icmp .ge 17, 3) := by decide +kernel
theorem dC_stackKind_10 : decode (am_by jC_stackKind) 10 = .ok (.aload_n 0, 1) := by decide +kernel
theorem dC_stackKind_11 : decode (am_by jC_stackKind) 11 = .ok (.getfield 15, 3) := by decide +kernel
theorem dC_stackKind_14 : decode (am_by jC_stackKind) 14 = .ok (.iload_n 1, 1) := by decide +kernel
theorem dC_stackKind_15 : decode (am_by jC_stackKind) 15 = .ok (.bipush 16, 2) := by decide +kernel
theorem dC_stackKind_17 : decode (am_by jC_stackKind) 17 = .ok (.imul, 1) := by decide +kernel
theorem dC_stackKind_18 : decode (am_by jC_stackKind) 18 = .ok (.iload_n 2, 1) := by decide +kernel
theorem dC_stackKind_19 : decode (am_by jC_stackKind) 19 = .ok (.iadd, 1) := by decide +kernel
theorem dC_stackKind_20 : decode (am_by jC_stackKind) 20 = .ok (.iaload, 1) := by decide +kernel
theorem dC_stackKind_21 : decode (am_by jC_stackKind) 21 = .ok (.goto 5, 3) := by decide +kernel
theorem dC_stackKind_24 : decode (am_by jC_stackKind) 24 = .ok (.bipush (-2), 2) := by decide +kernel
theorem dC_stackKind_26 : decode (am_by jC_stackKind) 26 = .ok (.ireturn, 1) := by decide +kernel
theorem dC_localKind_0 : decode (am_by jC_localKind) 0 = .ok (.aload_n 0, 1) := by decide +kernel
theorem dC_localKind_1 : decode (am_by jC_localKind) 1 = .ok (.getfield 15, 3) := by decide +kernel
theorem dC_localKind_4 : decode (am_by jC_localKind) 4 = .ok (.iload_n 1, 1) := by decide +kernel
theorem dC_localKind_5 : decode (am_by jC_localKind) 5 = .ok (.bipush 16, 2) := by decide +kernel
theorem dC_localKind_7 : decode (am_by jC_localKind) 7 = .ok (.imul, 1) := by decide +kernel
theorem dC_localKind_8 : decode (am_by jC_localKind) 8 = .ok (.bipush 8, 2) := by decide +kernel
theorem dC_localKind_10 : decode (am_by jC_localKind) 10 = .ok (.iadd, 1) := by decide +kernel
theorem dC_localKind_11 : decode (am_by jC_localKind) 11 = .ok (.iload_n 2, 1) := by decide +kernel
theorem dC_localKind_12 : decode (am_by jC_localKind) 12 = .ok (.iadd, 1) := by decide +kernel
theorem dC_localKind_13 : decode (am_by jC_localKind) 13 = .ok (.iaload, 1) := by decide +kernel
theorem dC_localKind_14 : decode (am_by jC_localKind) 14 = .ok (.ireturn, 1) := by decide +kernel
theorem dC_returnsAlone_0 : decode (am_by jC_returnsAlone) 0 = .ok (.iconst 0, 1) := by decide +kernel
theorem dC_returnsAlone_1 : decode (am_by jC_returnsAlone) 1 = .ok (.istore_n 2, 1) := by decide +kernel
theorem dC_returnsAlone_2 : decode (am_by jC_returnsAlone) 2 = .ok (.iload_n 2, 1) := by decide +kernel
theorem dC_returnsAlone_3 : decode (am_by jC_returnsAlone) 3 = .ok (.aload_n 0, 1) := by decide +kernel
theorem dC_returnsAlone_4 : decode (am_by jC_returnsAlone) 4 = .ok (.getfield 45, 3) := by decide +kernel
theorem dC_returnsAlone_7 : decode (am_by jC_returnsAlone) 7 = .ok (.if_icmp .ge 40, 3) := by decide +kernel
theorem dC_returnsAlone_10 : decode (am_by jC_returnsAlone) 10 = .ok (.aload_n 0, 1) := by decide +kernel
theorem dC_returnsAlone_11 : decode (am_by jC_returnsAlone) 11 = .ok (.getfield 18, 3) := by decide +kernel
theorem dC_returnsAlone_14 : decode (am_by jC_returnsAlone) 14 = .ok (.iload_n 2, 1) := by decide +kernel
theorem dC_returnsAlone_15 : decode (am_by jC_returnsAlone) 15 = .ok (.baload, 1) := by decide +kernel
theorem dC_returnsAlone_16 : decode (am_by jC_returnsAlone) 16 = .ok (.ifCond .eq 25, 3) := by decide +kernel
theorem dC_returnsAlone_19 : decode (am_by jC_returnsAlone) 19 = .ok (.aload_n 1, 1) := by decide +kernel
theorem dC_returnsAlone_20 : decode (am_by jC_returnsAlone) 20 = .ok (.iload_n 2, 1) := by decide +kernel
theorem dC_returnsAlone_21 : decode (am_by jC_returnsAlone) 21 = .ok (.bipush 22, 2) := by decide +kernel
theorem dC_returnsAlone_23 : decode (am_by jC_returnsAlone) 23 = .ok (.invokevirtual 57, 3) := by decide +kernel
theorem dC_returnsAlone_26 : decode (am_by jC_returnsAlone) 26 = .ok (.ifCond .eq 15, 3) := by decide +kernel
theorem dC_returnsAlone_29 : decode (am_by jC_returnsAlone) 29 = .ok (.aload_n 0, 1) := by decide +kernel
theorem dC_returnsAlone_30 : decode (am_by jC_returnsAlone) 30 = .ok (.getfield 9, 3) := by decide +kernel
theorem dC_returnsAlone_33 : decode (am_by jC_returnsAlone) 33 = .ok (.iload_n 2, 1) := by decide +kernel
theorem dC_returnsAlone_34 : decode (am_by jC_returnsAlone) 34 = .ok (.iaload, 1) := by decide +kernel
theorem dC_returnsAlone_35 : decode (am_by jC_returnsAlone) 35 = .ok (.iconst 1, 1) := by decide +kernel
theorem dC_returnsAlone_36 : decode (am_by jC_returnsAlone) 36 = .ok (.if_icmp .le 5, 3) := by decide +kernel
theorem dC_returnsAlone_39 : decode (am_by jC_returnsAlone) 39 = .ok (.iconst 0, 1) := by decide +kernel
theorem dC_returnsAlone_40 : decode (am_by jC_returnsAlone) 40 = .ok (.ireturn, 1) := by decide +kernel
theorem dC_returnsAlone_41 : decode (am_by jC_returnsAlone) 41 = .ok (.iinc 2 1, 3) := by decide +kernel
theorem dC_returnsAlone_44 : decode (am_by jC_returnsAlone) 44 = .ok (.goto (-42), 3) := by decide +kernel
theorem dC_returnsAlone_47 : decode (am_by jC_returnsAlone) 47 = .ok (.iconst 1, 1) := by decide +kernel
theorem dC_returnsAlone_48 : decode (am_by jC_returnsAlone) 48 = .ok (.ireturn, 1) := by decide +kernel
theorem dC_begin_0 : decode (am_by jC_begin) 0 = .ok (.aload_n 0, 1) := by decide +kernel
theorem dC_begin_1 : decode (am_by jC_begin) 1 = .ok (.aload_n 1, 1) := by decide +kernel
theorem dC_begin_2 : decode (am_by jC_begin) 2 = .ok (.getfield 62, 3) := by decide +kernel
theorem dC_begin_5 : decode (am_by jC_begin) 5 = .ok (.putfield 45, 3) := by decide +kernel
theorem dC_begin_8 : decode (am_by jC_begin) 8 = .ok (.aload_n 0, 1) := by decide +kernel
theorem dC_begin_9 : decode (am_by jC_begin) 9 = .ok (.iconst 0, 1) := by decide +kernel
theorem dC_begin_10 : decode (am_by jC_begin) 10 = .ok (.putfield 63, 3) := by decide +kernel
theorem dC_begin_13 : decode (am_by jC_begin) 13 = .ok (.aload_n 0, 1) := by decide +kernel
theorem dC_begin_14 : decode (am_by jC_begin) 14 = .ok (.iconst 0, 1) := by decide +kernel
theorem dC_begin_15 : decode (am_by jC_begin) 15 = .ok (.putfield 41, 3) := by decide +kernel
theorem dC_begin_18 : decode (am_by jC_begin) 18 = .ok (.iconst 0, 1) := by decide +kernel
theorem dC_begin_19 : decode (am_by jC_begin) 19 = .ok (.istore_n 2, 1) := by decide +kernel
theorem dC_begin_20 : decode (am_by jC_begin) 20 = .ok (.iload_n 2, 1) := by decide +kernel
theorem dC_begin_21 : decode (am_by jC_begin) 21 = .ok (.aload_n 0, 1) := by decide +kernel
theorem dC_begin_22 : decode (am_by jC_begin) 22 = .ok (.getfield 45, 3) := by decide +kernel
theorem dC_begin_25 : decode (am_by jC_begin) 25 = .ok (.if_icmp .ge 23, 3) := by decide +kernel
theorem dC_begin_28 : decode (am_by jC_begin) 28 = .ok (.aload_n 0, 1) := by decide +kernel
theorem dC_begin_29 : decode (am_by jC_begin) 29 = .ok (.getfield 18, 3) := by decide +kernel
theorem dC_begin_32 : decode (am_by jC_begin) 32 = .ok (.iload_n 2, 1) := by decide +kernel
theorem dC_begin_33 : decode (am_by jC_begin) 33 = .ok (.iconst 0, 1) := by decide +kernel
theorem dC_begin_34 : decode (am_by jC_begin) 34 = .ok (.bastore, 1) := by decide +kernel
theorem dC_begin_35 : decode (am_by jC_begin) 35 = .ok (.aload_n 0, 1) := by decide +kernel
theorem dC_begin_36 : decode (am_by jC_begin) 36 = .ok (.getfield 22, 3) := by decide +kernel
theorem dC_begin_39 : decode (am_by jC_begin) 39 = .ok (.iload_n 2, 1) := by decide +kernel
theorem dC_begin_40 : decode (am_by jC_begin) 40 = .ok (.iconst 0, 1) := by decide +kernel
theorem dC_begin_41 : decode (am_by jC_begin) 41 = .ok (.bastore, 1) := by decide +kernel
theorem dC_begin_42 : decode (am_by jC_begin) 42 = .ok (.iinc 2 1, 3) := by decide +kernel
theorem dC_begin_45 : decode (am_by jC_begin) 45 = .ok (.goto (-25), 3) := by decide +kernel
theorem dC_begin_48 : decode (am_by jC_begin) 48 = .ok (.iconst 0, 1) := by decide +kernel
theorem dC_begin_49 : decode (am_by jC_begin) 49 = .ok (.istore_n 2, 1) := by decide +kernel
theorem dC_begin_50 : decode (am_by jC_begin) 50 = .ok (.iload_n 2, 1) := by decide +kernel
theorem dC_begin_51 : decode (am_by jC_begin) 51 = .ok (.bipush 8, 2) := by decide +kernel
theorem dC_begin_53 : decode (am_by jC_begin) 53 = .ok (.if_icmp .ge 32, 3) := by decide +kernel
theorem dC_begin_56 : decode (am_by jC_begin) 56 = .ok (.aload_n 0, 1) := by decide +kernel
theorem dC_begin_57 : decode (am_by jC_begin) 57 = .ok (.getfield 25, 3) := by decide +kernel
theorem dC_begin_60 : decode (am_by jC_begin) 60 = .ok (.bipush 8, 2) := by decide +kernel
theorem dC_begin_62 : decode (am_by jC_begin) 62 = .ok (.iload_n 2, 1) := by decide +kernel
theorem dC_begin_63 : decode (am_by jC_begin) 63 = .ok (.iadd, 1) := by decide +kernel
theorem dC_begin_64 : decode (am_by jC_begin) 64 = .ok (.iload_n 2, 1) := by decide +kernel
theorem dC_begin_65 : decode (am_by jC_begin) 65 = .ok (.aload_n 1, 1) := by decide +kernel
theorem dC_begin_66 : decode (am_by jC_begin) 66 = .ok (.getfield 66, 3) := by decide +kernel
theorem dC_begin_69 : decode (am_by jC_begin) 69 = .ok (.if_icmp .ge 7, 3) := by decide +kernel
theorem dC_begin_72 : decode (am_by jC_begin) 72 = .ok (.iconst 0, 1) := by decide +kernel
theorem dC_begin_73 : decode (am_by jC_begin) 73 = .ok (.goto 5, 3) := by decide +kernel
theorem dC_begin_76 : decode (am_by jC_begin) 76 = .ok (.bipush (-2), 2) := by decide +kernel
theorem dC_begin_78 : decode (am_by jC_begin) 78 = .ok (.iastore, 1) := by decide +kernel
theorem dC_begin_79 : decode (am_by jC_begin) 79 = .ok (.iinc 2 1, 3) := by decide +kernel
theorem dC_begin_82 : decode (am_by jC_begin) 82 = .ok (.goto (-32), 3) := by decide +kernel
theorem dC_begin_85 : decode (am_by jC_begin) 85 = .ok (.aload_n 0, 1) := by decide +kernel
theorem dC_begin_86 : decode (am_by jC_begin) 86 = .ok (.aload_n 1, 1) := by decide +kernel
theorem dC_begin_87 : decode (am_by jC_begin) 87 = .ok (.iconst 0, 1) := by decide +kernel
theorem dC_begin_88 : decode (am_by jC_begin) 88 = .ok (.aload_n 0, 1) := by decide +kernel
theorem dC_begin_89 : decode (am_by jC_begin) 89 = .ok (.getfield 25, 3) := by decide +kernel
theorem dC_begin_92 : decode (am_by jC_begin) 92 = .ok (.iconst 0, 1) := by decide +kernel
theorem dC_begin_93 : decode (am_by jC_begin) 93 = .ok (.invokevirtual 69, 3) := by decide +kernel
theorem dC_begin_96 : decode (am_by jC_begin) 96 = .ok (.return_, 1) := by decide +kernel
theorem dC_goOnFrom_0 : decode (am_by jC_goOnFrom) 0 = .ok (.aload_n 0, 1) := by decide +kernel
theorem dC_goOnFrom_1 : decode (am_by jC_goOnFrom) 1 = .ok (.getfield 15, 3) := by decide +kernel
theorem dC_goOnFrom_4 : decode (am_by jC_goOnFrom) 4 = .ok (.iload_n 3, 1) := by decide +kernel
theorem dC_goOnFrom_5 : decode (am_by jC_goOnFrom) 5 = .ok (.bipush 16, 2) := by decide +kernel
theorem dC_goOnFrom_7 : decode (am_by jC_goOnFrom) 7 = .ok (.imul, 1) := by decide +kernel
theorem dC_goOnFrom_8 : decode (am_by jC_goOnFrom) 8 = .ok (.aload_n 0, 1) := by decide +kernel
theorem dC_goOnFrom_9 : decode (am_by jC_goOnFrom) 9 = .ok (.getfield 25, 3) := by decide +kernel
theorem dC_goOnFrom_12 : decode (am_by jC_goOnFrom) 12 = .ok (.iconst 0, 1) := by decide +kernel
theorem dC_goOnFrom_13 : decode (am_by jC_goOnFrom) 13 = .ok (.bipush 16, 2) := by decide +kernel
theorem dC_goOnFrom_15 : decode (am_by jC_goOnFrom) 15 = .ok (.invokestatic 73, 3) := by decide +kernel
theorem dC_goOnFrom_18 : decode (am_by jC_goOnFrom) 18 = .ok (.aload_n 0, 1) := by decide +kernel
theorem dC_goOnFrom_19 : decode (am_by jC_goOnFrom) 19 = .ok (.aload_n 0, 1) := by decide +kernel
theorem dC_goOnFrom_20 : decode (am_by jC_goOnFrom) 20 = .ok (.getfield 9, 3) := by decide +kernel
theorem dC_goOnFrom_23 : decode (am_by jC_goOnFrom) 23 = .ok (.iload_n 3, 1) := by decide +kernel
theorem dC_goOnFrom_24 : decode (am_by jC_goOnFrom) 24 = .ok (.iaload, 1) := by decide +kernel
theorem dC_goOnFrom_25 : decode (am_by jC_goOnFrom) 25 = .ok (.putfield 79, 3) := by decide +kernel
theorem dC_goOnFrom_28 : decode (am_by jC_goOnFrom) 28 = .ok (.aload_n 0, 1) := by decide +kernel
theorem dC_goOnFrom_29 : decode (am_by jC_goOnFrom) 29 = .ok (.getfield 25, 3) := by decide +kernel
theorem dC_goOnFrom_32 : decode (am_by jC_goOnFrom) 32 = .ok (.bipush 8, 2) := by decide +kernel
theorem dC_goOnFrom_34 : decode (am_by jC_goOnFrom) 34 = .ok (.aload_n 0, 1) := by decide +kernel
theorem dC_goOnFrom_35 : decode (am_by jC_goOnFrom) 35 = .ok (.getfield 28, 3) := by decide +kernel
theorem dC_goOnFrom_38 : decode (am_by jC_goOnFrom) 38 = .ok (.bipush 8, 2) := by decide +kernel
theorem dC_goOnFrom_40 : decode (am_by jC_goOnFrom) 40 = .ok (.bipush 8, 2) := by decide +kernel
theorem dC_goOnFrom_42 : decode (am_by jC_goOnFrom) 42 = .ok (.invokestatic 73, 3) := by decide +kernel
theorem dC_goOnFrom_45 : decode (am_by jC_goOnFrom) 45 = .ok (.aload_n 0, 1) := by decide +kernel
theorem dC_goOnFrom_46 : decode (am_by jC_goOnFrom) 46 = .ok (.getfield 28, 3) := by decide +kernel
theorem dC_goOnFrom_49 : decode (am_by jC_goOnFrom) 49 = .ok (.iconst 0, 1) := by decide +kernel
theorem dC_goOnFrom_50 : decode (am_by jC_goOnFrom) 50 = .ok (.iconst 1, 1) := by decide +kernel
theorem dC_goOnFrom_51 : decode (am_by jC_goOnFrom) 51 = .ok (.iastore, 1) := by decide +kernel
theorem dC_goOnFrom_52 : decode (am_by jC_goOnFrom) 52 = .ok (.iconst 0, 1) := by decide +kernel
theorem dC_goOnFrom_53 : decode (am_by jC_goOnFrom) 53 = .ok (.istore 4, 2) := by decide +kernel
theorem dC_goOnFrom_55 : decode (am_by jC_goOnFrom) 55 = .ok (.iload 4, 2) := by decide +kernel
theorem dC_goOnFrom_57 : decode (am_by jC_goOnFrom) 57 = .ok (.aload_n 2, 1) := by decide +kernel
theorem dC_goOnFrom_58 : decode (am_by jC_goOnFrom) 58 = .ok (.getfield 82, 3) := by decide +kernel
theorem dC_goOnFrom_61 : decode (am_by jC_goOnFrom) 61 = .ok (.if_icmp .ge 36, 3) := by decide +kernel
theorem dC_goOnFrom_64 : decode (am_by jC_goOnFrom) 64 = .ok (.aload_n 2, 1) := by decide +kernel
theorem dC_goOnFrom_65 : decode (am_by jC_goOnFrom) 65 = .ok (.iload 4, 2) := by decide +kernel
theorem dC_goOnFrom_67 : decode (am_by jC_goOnFrom) 67 = .ok (.iload_n 3, 1) := by decide +kernel
theorem dC_goOnFrom_68 : decode (am_by jC_goOnFrom) 68 = .ok (.invokevirtual 85, 3) := by decide +kernel
theorem dC_goOnFrom_71 : decode (am_by jC_goOnFrom) 71 = .ok (.ifCond .eq 20, 3) := by decide +kernel
theorem dC_goOnFrom_74 : decode (am_by jC_goOnFrom) 74 = .ok (.aload_n 0, 1) := by decide +kernel
theorem dC_goOnFrom_75 : decode (am_by jC_goOnFrom) 75 = .ok (.aload_n 2, 1) := by decide +kernel
theorem dC_goOnFrom_76 : decode (am_by jC_goOnFrom) 76 = .ok (.aload_n 2, 1) := by decide +kernel
theorem dC_goOnFrom_77 : decode (am_by jC_goOnFrom) 77 = .ok (.getfield 88, 3) := by decide +kernel
theorem dC_goOnFrom_80 : decode (am_by jC_goOnFrom) 80 = .ok (.iload 4, 2) := by decide +kernel
theorem dC_goOnFrom_82 : decode (am_by jC_goOnFrom) 82 = .ok (.iaload, 1) := by decide +kernel
theorem dC_goOnFrom_83 : decode (am_by jC_goOnFrom) 83 = .ok (.aload_n 0, 1) := by decide +kernel
theorem dC_goOnFrom_84 : decode (am_by jC_goOnFrom) 84 = .ok (.getfield 28, 3) := by decide +kernel
theorem dC_goOnFrom_87 : decode (am_by jC_goOnFrom) 87 = .ok (.iconst 1, 1) := by decide +kernel
theorem dC_goOnFrom_88 : decode (am_by jC_goOnFrom) 88 = .ok (.invokevirtual 69, 3) := by decide +kernel
theorem dC_goOnFrom_91 : decode (am_by jC_goOnFrom) 91 = .ok (.iinc 4 1, 3) := by decide +kernel
theorem dC_goOnFrom_94 : decode (am_by jC_goOnFrom) 94 = .ok (.goto (-39), 3) := by decide +kernel
theorem dC_goOnFrom_97 : decode (am_by jC_goOnFrom) 97 = .ok (.aload_n 2, 1) := by decide +kernel
theorem dC_goOnFrom_98 : decode (am_by jC_goOnFrom) 98 = .ok (.getfield 91, 3) := by decide +kernel
theorem dC_goOnFrom_101 : decode (am_by jC_goOnFrom) 101 = .ok (.iload_n 3, 1) := by decide +kernel
theorem dC_goOnFrom_102 : decode (am_by jC_goOnFrom) 102 = .ok (.iaload, 1) := by decide +kernel
theorem dC_goOnFrom_103 : decode (am_by jC_goOnFrom) 103 = .ok (.bipush 21, 2) := by decide +kernel
theorem dC_goOnFrom_105 : decode (am_by jC_goOnFrom) 105 = .ok (.if_icmp .ne 24, 3) := by decide +kernel
theorem dC_goOnFrom_108 : decode (am_by jC_goOnFrom) 108 = .ok (.aload_n 0, 1) := by decide +kernel
theorem dC_goOnFrom_109 : decode (am_by jC_goOnFrom) 109 = .ok (.aload_n 1, 1) := by decide +kernel
theorem dC_goOnFrom_110 : decode (am_by jC_goOnFrom) 110 = .ok (.getfield 31, 3) := by decide +kernel
theorem dC_goOnFrom_113 : decode (am_by jC_goOnFrom) 113 = .ok (.aload_n 2, 1) := by decide +kernel
theorem dC_goOnFrom_114 : decode (am_by jC_goOnFrom) 114 = .ok (.getfield 94, 3) := by decide +kernel
theorem dC_goOnFrom_117 : decode (am_by jC_goOnFrom) 117 = .ok (.iload_n 3, 1) := by decide +kernel
theorem dC_goOnFrom_118 : decode (am_by jC_goOnFrom) 118 = .ok (.iaload, 1) := by decide +kernel
theorem dC_goOnFrom_119 : decode (am_by jC_goOnFrom) 119 = .ok (.aaload, 1) := by decide +kernel
theorem dC_goOnFrom_120 : decode (am_by jC_goOnFrom) 120 = .ok (.getfield 66, 3) := by decide +kernel
theorem dC_goOnFrom_123 : decode (am_by jC_goOnFrom) 123 = .ok (.invokevirtual 97, 3) := by decide +kernel
theorem dC_goOnFrom_126 : decode (am_by jC_goOnFrom) 126 = .ok (.goto 9, 3) := by decide +kernel
theorem dC_goOnFrom_129 : decode (am_by jC_goOnFrom) 129 = .ok (.aload_n 0, 1) := by decide +kernel
theorem dC_goOnFrom_130 : decode (am_by jC_goOnFrom) 130 = .ok (.aload_n 2, 1) := by decide +kernel
theorem dC_goOnFrom_131 : decode (am_by jC_goOnFrom) 131 = .ok (.iload_n 3, 1) := by decide +kernel
theorem dC_goOnFrom_132 : decode (am_by jC_goOnFrom) 132 = .ok (.invokevirtual 101, 3) := by decide +kernel
theorem dC_goOnFrom_135 : decode (am_by jC_goOnFrom) 135 = .ok (.aload_n 0, 1) := by decide +kernel
theorem dC_goOnFrom_136 : decode (am_by jC_goOnFrom) 136 = .ok (.getfield 41, 3) := by decide +kernel
theorem dC_goOnFrom_139 : decode (am_by jC_goOnFrom) 139 = .ok (.ifCond .ne 9, 3) := by decide +kernel
theorem dC_goOnFrom_142 : decode (am_by jC_goOnFrom) 142 = .ok (.aload_n 0, 1) := by decide +kernel
theorem dC_goOnFrom_143 : decode (am_by jC_goOnFrom) 143 = .ok (.aload_n 2, 1) := by decide +kernel
theorem dC_goOnFrom_144 : decode (am_by jC_goOnFrom) 144 = .ok (.iload_n 3, 1) := by decide +kernel
theorem dC_goOnFrom_145 : decode (am_by jC_goOnFrom) 145 = .ok (.invokevirtual 105, 3) := by decide +kernel
theorem dC_goOnFrom_148 : decode (am_by jC_goOnFrom) 148 = .ok (.return_, 1) := by decide +kernel
theorem dC_passArguments_0 : decode (am_by jC_passArguments) 0 = .ok (.iconst 0, 1) := by decide +kernel
theorem dC_passArguments_1 : decode (am_by jC_passArguments) 1 = .ok (.istore_n 2, 1) := by decide +kernel
theorem dC_passArguments_2 : decode (am_by jC_passArguments) 2 = .ok (.iload_n 2, 1) := by decide +kernel
theorem dC_passArguments_3 : decode (am_by jC_passArguments) 3 = .ok (.iload_n 1, 1) := by decide +kernel
theorem dC_passArguments_4 : decode (am_by jC_passArguments) 4 = .ok (.if_icmp .ge 14, 3) := by decide +kernel
theorem dC_passArguments_7 : decode (am_by jC_passArguments) 7 = .ok (.aload_n 0, 1) := by decide +kernel
theorem dC_passArguments_8 : decode (am_by jC_passArguments) 8 = .ok (.iconst 0, 1) := by decide +kernel
theorem dC_passArguments_9 : decode (am_by jC_passArguments) 9 = .ok (.invokevirtual 108, 3) := by decide +kernel
theorem dC_passArguments_12 : decode (am_by jC_passArguments) 12 = .ok (.iinc 2 1, 3) := by decide +kernel
theorem dC_passArguments_15 : decode (am_by jC_passArguments) 15 = .ok (.goto (-13), 3) := by decide +kernel
theorem dC_passArguments_18 : decode (am_by jC_passArguments) 18 = .ok (.aload_n 0, 1) := by decide +kernel
theorem dC_passArguments_19 : decode (am_by jC_passArguments) 19 = .ok (.iconst 0, 1) := by decide +kernel
theorem dC_passArguments_20 : decode (am_by jC_passArguments) 20 = .ok (.invokevirtual 111, 3) := by decide +kernel
theorem dC_passArguments_23 : decode (am_by jC_passArguments) 23 = .ok (.return_, 1) := by decide +kernel
theorem dC_takeAndGive_0 : decode (am_by jC_takeAndGive) 0 = .ok (.aload_n 1, 1) := by decide +kernel
theorem dC_takeAndGive_1 : decode (am_by jC_takeAndGive) 1 = .ok (.getfield 91, 3) := by decide +kernel
theorem dC_takeAndGive_4 : decode (am_by jC_takeAndGive) 4 = .ok (.iload_n 2, 1) := by decide +kernel
theorem dC_takeAndGive_5 : decode (am_by jC_takeAndGive) 5 = .ok (.iaload, 1) := by decide +kernel
theorem dC_takeAndGive_6 : decode (am_by jC_takeAndGive) 6 = .ok (.tableswitch 255 1 27 #[122, 233, 233, 138, 146, 164, 191, 191, 191, 191, 255, 209, 130, 130, 255, 255, 255, 255, 255, 255, 255, 209, 217, 233, 209, 255, 233], 122) := by decide +kernel
theorem dC_takeAndGive_128 : decode (am_by jC_takeAndGive) 128 = .ok (.aload_n 0, 1) := by decide +kernel
theorem dC_takeAndGive_129 : decode (am_by jC_takeAndGive) 129 = .ok (.iconst 0, 1) := by decide +kernel
theorem dC_takeAndGive_130 : decode (am_by jC_takeAndGive) 130 = .ok (.invokevirtual 111, 3) := by decide +kernel
theorem dC_takeAndGive_133 : decode (am_by jC_takeAndGive) 133 = .ok (.goto 138, 3) := by decide +kernel
theorem dC_takeAndGive_136 : decode (am_by jC_takeAndGive) 136 = .ok (.aload_n 0, 1) := by decide +kernel
theorem dC_takeAndGive_137 : decode (am_by jC_takeAndGive) 137 = .ok (.iconst 1, 1) := by decide +kernel
theorem dC_takeAndGive_138 : decode (am_by jC_takeAndGive) 138 = .ok (.invokevirtual 111, 3) := by decide +kernel
theorem dC_takeAndGive_141 : decode (am_by jC_takeAndGive) 141 = .ok (.goto 130, 3) := by decide +kernel
theorem dC_takeAndGive_144 : decode (am_by jC_takeAndGive) 144 = .ok (.aload_n 0, 1) := by decide +kernel
theorem dC_takeAndGive_145 : decode (am_by jC_takeAndGive) 145 = .ok (.invokevirtual 114, 3) := by decide +kernel
theorem dC_takeAndGive_148 : decode (am_by jC_takeAndGive) 148 = .ok (.pop, 1) := by decide +kernel
theorem dC_takeAndGive_149 : decode (am_by jC_takeAndGive) 149 = .ok (.goto 122, 3) := by decide +kernel
theorem dC_takeAndGive_152 : decode (am_by jC_takeAndGive) 152 = .ok (.aload_n 0, 1) := by decide +kernel
theorem dC_takeAndGive_153 : decode (am_by jC_takeAndGive) 153 = .ok (.invokevirtual 114, 3) := by decide +kernel
theorem dC_takeAndGive_156 : decode (am_by jC_takeAndGive) 156 = .ok (.istore_n 3, 1) := by decide +kernel
theorem dC_takeAndGive_157 : decode (am_by jC_takeAndGive) 157 = .ok (.aload_n 0, 1) := by decide +kernel
theorem dC_takeAndGive_158 : decode (am_by jC_takeAndGive) 158 = .ok (.iload_n 3, 1) := by decide +kernel
theorem dC_takeAndGive_159 : decode (am_by jC_takeAndGive) 159 = .ok (.invokevirtual 111, 3) := by decide +kernel
theorem dC_takeAndGive_162 : decode (am_by jC_takeAndGive) 162 = .ok (.aload_n 0, 1) := by decide +kernel
theorem dC_takeAndGive_163 : decode (am_by jC_takeAndGive) 163 = .ok (.iload_n 3, 1) := by decide +kernel
theorem dC_takeAndGive_164 : decode (am_by jC_takeAndGive) 164 = .ok (.invokevirtual 111, 3) := by decide +kernel
theorem dC_takeAndGive_167 : decode (am_by jC_takeAndGive) 167 = .ok (.goto 104, 3) := by decide +kernel
theorem dC_takeAndGive_170 : decode (am_by jC_takeAndGive) 170 = .ok (.aload_n 0, 1) := by decide +kernel
theorem dC_takeAndGive_171 : decode (am_by jC_takeAndGive) 171 = .ok (.invokevirtual 114, 3) := by decide +kernel
theorem dC_takeAndGive_174 : decode (am_by jC_takeAndGive) 174 = .ok (.istore 4, 2) := by decide +kernel
theorem dC_takeAndGive_176 : decode (am_by jC_takeAndGive) 176 = .ok (.aload_n 0, 1) := by decide +kernel
theorem dC_takeAndGive_177 : decode (am_by jC_takeAndGive) 177 = .ok (.invokevirtual 114, 3) := by decide +kernel
theorem dC_takeAndGive_180 : decode (am_by jC_takeAndGive) 180 = .ok (.istore 5, 2) := by decide +kernel
theorem dC_takeAndGive_182 : decode (am_by jC_takeAndGive) 182 = .ok (.aload_n 0, 1) := by decide +kernel
theorem dC_takeAndGive_183 : decode (am_by jC_takeAndGive) 183 = .ok (.iload 4, 2) := by decide +kernel
theorem dC_takeAndGive_185 : decode (am_by jC_takeAndGive) 185 = .ok (.invokevirtual 111, 3) := by decide +kernel
theorem dC_takeAndGive_188 : decode (am_by jC_takeAndGive) 188 = .ok (.aload_n 0, 1) := by decide +kernel
theorem dC_takeAndGive_189 : decode (am_by jC_takeAndGive) 189 = .ok (.iload 5, 2) := by decide +kernel
theorem dC_takeAndGive_191 : decode (am_by jC_takeAndGive) 191 = .ok (.invokevirtual 111, 3) := by decide +kernel
theorem dC_takeAndGive_194 : decode (am_by jC_takeAndGive) 194 = .ok (.goto 77, 3) := by decide +kernel
theorem dC_takeAndGive_197 : decode (am_by jC_takeAndGive) 197 = .ok (.aload_n 0, 1) := by decide +kernel
theorem dC_takeAndGive_198 : decode (am_by jC_takeAndGive) 198 = .ok (.iconst 0, 1) := by decide +kernel
theorem dC_takeAndGive_199 : decode (am_by jC_takeAndGive) 199 = .ok (.invokevirtual 108, 3) := by decide +kernel
theorem dC_takeAndGive_202 : decode (am_by jC_takeAndGive) 202 = .ok (.aload_n 0, 1) := by decide +kernel
theorem dC_takeAndGive_203 : decode (am_by jC_takeAndGive) 203 = .ok (.iconst 0, 1) := by decide +kernel
theorem dC_takeAndGive_204 : decode (am_by jC_takeAndGive) 204 = .ok (.invokevirtual 108, 3) := by decide +kernel
theorem dC_takeAndGive_207 : decode (am_by jC_takeAndGive) 207 = .ok (.aload_n 0, 1) := by decide +kernel
theorem dC_takeAndGive_208 : decode (am_by jC_takeAndGive) 208 = .ok (.iconst 0, 1) := by decide +kernel
theorem dC_takeAndGive_209 : decode (am_by jC_takeAndGive) 209 = .ok (.invokevirtual 111, 3) := by decide +kernel
theorem dC_takeAndGive_212 : decode (am_by jC_takeAndGive) 212 = .ok (.goto 59, 3) := by decide +kernel
theorem dC_takeAndGive_215 : decode (am_by jC_takeAndGive) 215 = .ok (.aload_n 0, 1) := by decide +kernel
theorem dC_takeAndGive_216 : decode (am_by jC_takeAndGive) 216 = .ok (.iconst 0, 1) := by decide +kernel
theorem dC_takeAndGive_217 : decode (am_by jC_takeAndGive) 217 = .ok (.invokevirtual 108, 3) := by decide +kernel
theorem dC_takeAndGive_220 : decode (am_by jC_takeAndGive) 220 = .ok (.goto 51, 3) := by decide +kernel
theorem dC_takeAndGive_223 : decode (am_by jC_takeAndGive) 223 = .ok (.aload_n 0, 1) := by decide +kernel
theorem dC_takeAndGive_224 : decode (am_by jC_takeAndGive) 224 = .ok (.bipush 10, 2) := by decide +kernel
theorem dC_takeAndGive_226 : decode (am_by jC_takeAndGive) 226 = .ok (.aload_n 1, 1) := by decide +kernel
theorem dC_takeAndGive_227 : decode (am_by jC_takeAndGive) 227 = .ok (.getfield 118, 3) := by decide +kernel
theorem dC_takeAndGive_230 : decode (am_by jC_takeAndGive) 230 = .ok (.iload_n 2, 1) := by decide +kernel
theorem dC_takeAndGive_231 : decode (am_by jC_takeAndGive) 231 = .ok (.iaload, 1) := by decide +kernel
theorem dC_takeAndGive_232 : decode (am_by jC_takeAndGive) 232 = .ok (.iadd, 1) := by decide +kernel
theorem dC_takeAndGive_233 : decode (am_by jC_takeAndGive) 233 = .ok (.invokevirtual 111, 3) := by decide +kernel
theorem dC_takeAndGive_236 : decode (am_by jC_takeAndGive) 236 = .ok (.goto 35, 3) := by decide +kernel
theorem dC_takeAndGive_239 : decode (am_by jC_takeAndGive) 239 = .ok (.aload_n 0, 1) := by decide +kernel
theorem dC_takeAndGive_240 : decode (am_by jC_takeAndGive) 240 = .ok (.aload_n 1, 1) := by decide +kernel
theorem dC_takeAndGive_241 : decode (am_by jC_takeAndGive) 241 = .ok (.getfield 91, 3) := by decide +kernel
theorem dC_takeAndGive_244 : decode (am_by jC_takeAndGive) 244 = .ok (.iload_n 2, 1) := by decide +kernel
theorem dC_takeAndGive_245 : decode (am_by jC_takeAndGive) 245 = .ok (.iaload, 1) := by decide +kernel
theorem dC_takeAndGive_246 : decode (am_by jC_takeAndGive) 246 = .ok (.bipush 8, 2) := by decide +kernel
theorem dC_takeAndGive_248 : decode (am_by jC_takeAndGive) 248 = .ok (.aload_n 1, 1) := by decide +kernel
theorem dC_takeAndGive_249 : decode (am_by jC_takeAndGive) 249 = .ok (.getfield 94, 3) := by decide +kernel
theorem dC_takeAndGive_252 : decode (am_by jC_takeAndGive) 252 = .ok (.iload_n 2, 1) := by decide +kernel
theorem dC_takeAndGive_253 : decode (am_by jC_takeAndGive) 253 = .ok (.iaload, 1) := by decide +kernel
theorem dC_takeAndGive_254 : decode (am_by jC_takeAndGive) 254 = .ok (.iadd, 1) := by decide +kernel
theorem dC_takeAndGive_255 : decode (am_by jC_takeAndGive) 255 = .ok (.invokevirtual 121, 3) := by decide +kernel
theorem dC_takeAndGive_258 : decode (am_by jC_takeAndGive) 258 = .ok (.goto 13, 3) := by decide +kernel
theorem dC_takeAndGive_261 : decode (am_by jC_takeAndGive) 261 = .ok (.aload_n 0, 1) := by decide +kernel
theorem dC_takeAndGive_262 : decode (am_by jC_takeAndGive) 262 = .ok (.aload_n 1, 1) := by decide +kernel
theorem dC_takeAndGive_263 : decode (am_by jC_takeAndGive) 263 = .ok (.getfield 91, 3) := by decide +kernel
theorem dC_takeAndGive_266 : decode (am_by jC_takeAndGive) 266 = .ok (.iload_n 2, 1) := by decide +kernel
theorem dC_takeAndGive_267 : decode (am_by jC_takeAndGive) 267 = .ok (.iaload, 1) := by decide +kernel
theorem dC_takeAndGive_268 : decode (am_by jC_takeAndGive) 268 = .ok (.invokevirtual 125, 3) := by decide +kernel
theorem dC_takeAndGive_271 : decode (am_by jC_takeAndGive) 271 = .ok (.return_, 1) := by decide +kernel
theorem dC_useLocal_0 : decode (am_by jC_useLocal) 0 = .ok (.iload_n 1, 1) := by decide +kernel
theorem dC_useLocal_1 : decode (am_by jC_useLocal) 1 = .ok (.iconst 3, 1) := by decide +kernel
theorem dC_useLocal_2 : decode (am_by jC_useLocal) 2 = .ok (.if_icmp .ne 14, 3) := by decide +kernel
theorem dC_useLocal_5 : decode (am_by jC_useLocal) 5 = .ok (.aload_n 0, 1) := by decide +kernel
theorem dC_useLocal_6 : decode (am_by jC_useLocal) 6 = .ok (.getfield 25, 3) := by decide +kernel
theorem dC_useLocal_9 : decode (am_by jC_useLocal) 9 = .ok (.iload_n 2, 1) := by decide +kernel
theorem dC_useLocal_10 : decode (am_by jC_useLocal) 10 = .ok (.aload_n 0, 1) := by decide +kernel
theorem dC_useLocal_11 : decode (am_by jC_useLocal) 11 = .ok (.invokevirtual 114, 3) := by decide +kernel
theorem dC_useLocal_14 : decode (am_by jC_useLocal) 14 = .ok (.iastore, 1) := by decide +kernel
theorem dC_useLocal_15 : decode (am_by jC_useLocal) 15 = .ok (.return_, 1) := by decide +kernel
theorem dC_useLocal_16 : decode (am_by jC_useLocal) 16 = .ok (.aload_n 0, 1) := by decide +kernel
theorem dC_useLocal_17 : decode (am_by jC_useLocal) 17 = .ok (.getfield 25, 3) := by decide +kernel
theorem dC_useLocal_20 : decode (am_by jC_useLocal) 20 = .ok (.iload_n 2, 1) := by decide +kernel
theorem dC_useLocal_21 : decode (am_by jC_useLocal) 21 = .ok (.iaload, 1) := by decide +kernel
theorem dC_useLocal_22 : decode (am_by jC_useLocal) 22 = .ok (.istore_n 3, 1) := by decide +kernel
theorem dC_useLocal_23 : decode (am_by jC_useLocal) 23 = .ok (.iload_n 1, 1) := by decide +kernel
theorem dC_useLocal_24 : decode (am_by jC_useLocal) 24 = .ok (.iconst 2, 1) := by decide +kernel
theorem dC_useLocal_25 : decode (am_by jC_useLocal) 25 = .ok (.if_icmp .ne 37, 3) := by decide +kernel
theorem dC_useLocal_28 : decode (am_by jC_useLocal) 28 = .ok (.aload_n 0, 1) := by decide +kernel
theorem dC_useLocal_29 : decode (am_by jC_useLocal) 29 = .ok (.dup, 1) := by decide +kernel
theorem dC_useLocal_30 : decode (am_by jC_useLocal) 30 = .ok (.getfield 41, 3) := by decide +kernel
theorem dC_useLocal_33 : decode (am_by jC_useLocal) 33 = .ok (.iload_n 3, 1) := by decide +kernel
theorem dC_useLocal_34 : decode (am_by jC_useLocal) 34 = .ok (.bipush (-2), 2) := by decide +kernel
theorem dC_useLocal_36 : decode (am_by jC_useLocal) 36 = .ok (.if_icmp .eq 9, 3) := by decide +kernel
theorem dC_useLocal_39 : decode (am_by jC_useLocal) 39 = .ok (.iload_n 3, 1) := by decide +kernel
theorem dC_useLocal_40 : decode (am_by jC_useLocal) 40 = .ok (.bipush 10, 2) := by decide +kernel
theorem dC_useLocal_42 : decode (am_by jC_useLocal) 42 = .ok (.if_icmp .lt 7, 3) := by decide +kernel
theorem dC_useLocal_45 : decode (am_by jC_useLocal) 45 = .ok (.iconst 1, 1) := by decide +kernel
theorem dC_useLocal_46 : decode (am_by jC_useLocal) 46 = .ok (.goto 4, 3) := by decide +kernel
theorem dC_useLocal_49 : decode (am_by jC_useLocal) 49 = .ok (.iconst 0, 1) := by decide +kernel
theorem dC_useLocal_50 : decode (am_by jC_useLocal) 50 = .ok (.ior, 1) := by decide +kernel
theorem dC_useLocal_51 : decode (am_by jC_useLocal) 51 = .ok (.putfield 41, 3) := by decide +kernel
theorem dC_useLocal_54 : decode (am_by jC_useLocal) 54 = .ok (.aload_n 0, 1) := by decide +kernel
theorem dC_useLocal_55 : decode (am_by jC_useLocal) 55 = .ok (.iload_n 3, 1) := by decide +kernel
theorem dC_useLocal_56 : decode (am_by jC_useLocal) 56 = .ok (.invokevirtual 111, 3) := by decide +kernel
theorem dC_useLocal_59 : decode (am_by jC_useLocal) 59 = .ok (.goto 50, 3) := by decide +kernel
theorem dC_useLocal_62 : decode (am_by jC_useLocal) 62 = .ok (.iload_n 1, 1) := by decide +kernel
theorem dC_useLocal_63 : decode (am_by jC_useLocal) 63 = .ok (.bipush 27, 2) := by decide +kernel
theorem dC_useLocal_65 : decode (am_by jC_useLocal) 65 = .ok (.if_icmp .ne 24, 3) := by decide +kernel
theorem dC_useLocal_68 : decode (am_by jC_useLocal) 68 = .ok (.aload_n 0, 1) := by decide +kernel
theorem dC_useLocal_69 : decode (am_by jC_useLocal) 69 = .ok (.dup, 1) := by decide +kernel
theorem dC_useLocal_70 : decode (am_by jC_useLocal) 70 = .ok (.getfield 41, 3) := by decide +kernel
theorem dC_useLocal_73 : decode (am_by jC_useLocal) 73 = .ok (.iload_n 3, 1) := by decide +kernel
theorem dC_useLocal_74 : decode (am_by jC_useLocal) 74 = .ok (.ifCond .eq 7, 3) := by decide +kernel
theorem dC_useLocal_77 : decode (am_by jC_useLocal) 77 = .ok (.iconst 1, 1) := by decide +kernel
theorem dC_useLocal_78 : decode (am_by jC_useLocal) 78 = .ok (.goto 4, 3) := by decide +kernel
theorem dC_useLocal_81 : decode (am_by jC_useLocal) 81 = .ok (.iconst 0, 1) := by decide +kernel
theorem dC_useLocal_82 : decode (am_by jC_useLocal) 82 = .ok (.ior, 1) := by decide +kernel
theorem dC_useLocal_83 : decode (am_by jC_useLocal) 83 = .ok (.putfield 41, 3) := by decide +kernel
theorem dC_useLocal_86 : decode (am_by jC_useLocal) 86 = .ok (.goto 23, 3) := by decide +kernel
theorem dC_useLocal_89 : decode (am_by jC_useLocal) 89 = .ok (.aload_n 0, 1) := by decide +kernel
theorem dC_useLocal_90 : decode (am_by jC_useLocal) 90 = .ok (.dup, 1) := by decide +kernel
theorem dC_useLocal_91 : decode (am_by jC_useLocal) 91 = .ok (.getfield 41, 3) := by decide +kernel
theorem dC_useLocal_94 : decode (am_by jC_useLocal) 94 = .ok (.iload_n 3, 1) := by decide +kernel
theorem dC_useLocal_95 : decode (am_by jC_useLocal) 95 = .ok (.bipush 10, 2) := by decide +kernel
theorem dC_useLocal_97 : decode (am_by jC_useLocal) 97 = .ok (.if_icmp .ge 7, 3) := by decide +kernel
theorem dC_useLocal_100 : decode (am_by jC_useLocal) 100 = .ok (.iconst 1, 1) := by decide +kernel
theorem dC_useLocal_101 : decode (am_by jC_useLocal) 101 = .ok (.goto 4, 3) := by decide +kernel
theorem dC_useLocal_104 : decode (am_by jC_useLocal) 104 = .ok (.iconst 0, 1) := by decide +kernel
theorem dC_useLocal_105 : decode (am_by jC_useLocal) 105 = .ok (.ior, 1) := by decide +kernel
theorem dC_useLocal_106 : decode (am_by jC_useLocal) 106 = .ok (.putfield 41, 3) := by decide +kernel
theorem dC_useLocal_109 : decode (am_by jC_useLocal) 109 = .ok (.return_, 1) := by decide +kernel
theorem dC_useObject_0 : decode (am_by jC_useObject) 0 = .ok (.iload_n 1, 1) := by decide +kernel
theorem dC_useObject_1 : decode (am_by jC_useObject) 1 = .ok (.tableswitch 97 15 26 #[63, 76, 89, 89, 89, 89, 97, 97, 97, 97, 97, 63], 63) := by decide +kernel
theorem dC_useObject_64 : decode (am_by jC_useObject) 64 = .ok (.aload_n 0, 1) := by decide +kernel
theorem dC_useObject_65 : decode (am_by jC_useObject) 65 = .ok (.iconst 1, 1) := by decide +kernel
theorem dC_useObject_66 : decode (am_by jC_useObject) 66 = .ok (.invokevirtual 108, 3) := by decide +kernel
theorem dC_useObject_69 : decode (am_by jC_useObject) 69 = .ok (.aload_n 0, 1) := by decide +kernel
theorem dC_useObject_70 : decode (am_by jC_useObject) 70 = .ok (.iconst 0, 1) := by decide +kernel
theorem dC_useObject_71 : decode (am_by jC_useObject) 71 = .ok (.invokevirtual 111, 3) := by decide +kernel
theorem dC_useObject_74 : decode (am_by jC_useObject) 74 = .ok (.goto 24, 3) := by decide +kernel
theorem dC_useObject_77 : decode (am_by jC_useObject) 77 = .ok (.aload_n 0, 1) := by decide +kernel
theorem dC_useObject_78 : decode (am_by jC_useObject) 78 = .ok (.iconst 0, 1) := by decide +kernel
theorem dC_useObject_79 : decode (am_by jC_useObject) 79 = .ok (.invokevirtual 108, 3) := by decide +kernel
theorem dC_useObject_82 : decode (am_by jC_useObject) 82 = .ok (.aload_n 0, 1) := by decide +kernel
theorem dC_useObject_83 : decode (am_by jC_useObject) 83 = .ok (.iconst 1, 1) := by decide +kernel
theorem dC_useObject_84 : decode (am_by jC_useObject) 84 = .ok (.invokevirtual 108, 3) := by decide +kernel
theorem dC_useObject_87 : decode (am_by jC_useObject) 87 = .ok (.goto 11, 3) := by decide +kernel
theorem dC_useObject_90 : decode (am_by jC_useObject) 90 = .ok (.aload_n 0, 1) := by decide +kernel
theorem dC_useObject_91 : decode (am_by jC_useObject) 91 = .ok (.iconst 1, 1) := by decide +kernel
theorem dC_useObject_92 : decode (am_by jC_useObject) 92 = .ok (.invokevirtual 108, 3) := by decide +kernel
theorem dC_useObject_95 : decode (am_by jC_useObject) 95 = .ok (.goto 3, 3) := by decide +kernel
theorem dC_useObject_98 : decode (am_by jC_useObject) 98 = .ok (.return_, 1) := by decide +kernel
theorem dC_give_0 : decode (am_by jC_give) 0 = .ok (.aload_n 0, 1) := by decide +kernel
theorem dC_give_1 : decode (am_by jC_give) 1 = .ok (.getfield 79, 3) := by decide +kernel
theorem dC_give_4 : decode (am_by jC_give) 4 = .ok (.bipush 8, 2) := by decide +kernel
theorem dC_give_6 : decode (am_by jC_give) 6 = .ok (.if_icmp .lt 9, 3) := by decide +kernel
theorem dC_give_9 : decode (am_by jC_give) 9 = .ok (.aload_n 0, 1) := by decide +kernel
theorem dC_give_10 : decode (am_by jC_give) 10 = .ok (.iconst 1, 1) := by decide +kernel
theorem dC_give_11 : decode (am_by jC_give) 11 = .ok (.putfield 41, 3) := by decide +kernel
theorem dC_give_14 : decode (am_by jC_give) 14 = .ok (.return_, 1) := by decide +kernel
theorem dC_give_15 : decode (am_by jC_give) 15 = .ok (.aload_n 0, 1) := by decide +kernel
theorem dC_give_16 : decode (am_by jC_give) 16 = .ok (.getfield 25, 3) := by decide +kernel
theorem dC_give_19 : decode (am_by jC_give) 19 = .ok (.aload_n 0, 1) := by decide +kernel
theorem dC_give_20 : decode (am_by jC_give) 20 = .ok (.getfield 79, 3) := by decide +kernel
theorem dC_give_23 : decode (am_by jC_give) 23 = .ok (.iload_n 1, 1) := by decide +kernel
theorem dC_give_24 : decode (am_by jC_give) 24 = .ok (.iastore, 1) := by decide +kernel
theorem dC_give_25 : decode (am_by jC_give) 25 = .ok (.aload_n 0, 1) := by decide +kernel
theorem dC_give_26 : decode (am_by jC_give) 26 = .ok (.dup, 1) := by decide +kernel
theorem dC_give_27 : decode (am_by jC_give) 27 = .ok (.getfield 79, 3) := by decide +kernel
theorem dC_give_30 : decode (am_by jC_give) 30 = .ok (.iconst 1, 1) := by decide +kernel
theorem dC_give_31 : decode (am_by jC_give) 31 = .ok (.iadd, 1) := by decide +kernel
theorem dC_give_32 : decode (am_by jC_give) 32 = .ok (.putfield 79, 3) := by decide +kernel
theorem dC_give_35 : decode (am_by jC_give) 35 = .ok (.return_, 1) := by decide +kernel
theorem dC_takeAny_0 : decode (am_by jC_takeAny) 0 = .ok (.aload_n 0, 1) := by decide +kernel
theorem dC_takeAny_1 : decode (am_by jC_takeAny) 1 = .ok (.getfield 79, 3) := by decide +kernel
theorem dC_takeAny_4 : decode (am_by jC_takeAny) 4 = .ok (.ifCond .ne 11, 3) := by decide +kernel
theorem dC_takeAny_7 : decode (am_by jC_takeAny) 7 = .ok (.aload_n 0, 1) := by decide +kernel
theorem dC_takeAny_8 : decode (am_by jC_takeAny) 8 = .ok (.iconst 1, 1) := by decide +kernel
theorem dC_takeAny_9 : decode (am_by jC_takeAny) 9 = .ok (.putfield 41, 3) := by decide +kernel
theorem dC_takeAny_12 : decode (am_by jC_takeAny) 12 = .ok (.bipush (-2), 2) := by decide +kernel
theorem dC_takeAny_14 : decode (am_by jC_takeAny) 14 = .ok (.ireturn, 1) := by decide +kernel
theorem dC_takeAny_15 : decode (am_by jC_takeAny) 15 = .ok (.aload_n 0, 1) := by decide +kernel
theorem dC_takeAny_16 : decode (am_by jC_takeAny) 16 = .ok (.dup, 1) := by decide +kernel
theorem dC_takeAny_17 : decode (am_by jC_takeAny) 17 = .ok (.getfield 79, 3) := by decide +kernel
theorem dC_takeAny_20 : decode (am_by jC_takeAny) 20 = .ok (.iconst 1, 1) := by decide +kernel
theorem dC_takeAny_21 : decode (am_by jC_takeAny) 21 = .ok (.isub, 1) := by decide +kernel
theorem dC_takeAny_22 : decode (am_by jC_takeAny) 22 = .ok (.putfield 79, 3) := by decide +kernel
theorem dC_takeAny_25 : decode (am_by jC_takeAny) 25 = .ok (.aload_n 0, 1) := by decide +kernel
theorem dC_takeAny_26 : decode (am_by jC_takeAny) 26 = .ok (.getfield 25, 3) := by decide +kernel
theorem dC_takeAny_29 : decode (am_by jC_takeAny) 29 = .ok (.aload_n 0, 1) := by decide +kernel
theorem dC_takeAny_30 : decode (am_by jC_takeAny) 30 = .ok (.getfield 79, 3) := by decide +kernel
theorem dC_takeAny_33 : decode (am_by jC_takeAny) 33 = .ok (.iaload, 1) := by decide +kernel
theorem dC_takeAny_34 : decode (am_by jC_takeAny) 34 = .ok (.ireturn, 1) := by decide +kernel
theorem dC_take_0 : decode (am_by jC_take) 0 = .ok (.aload_n 0, 1) := by decide +kernel
theorem dC_take_1 : decode (am_by jC_take) 1 = .ok (.invokevirtual 114, 3) := by decide +kernel
theorem dC_take_4 : decode (am_by jC_take) 4 = .ok (.iload_n 1, 1) := by decide +kernel
theorem dC_take_5 : decode (am_by jC_take) 5 = .ok (.if_icmp .eq 8, 3) := by decide +kernel
theorem dC_take_8 : decode (am_by jC_take) 8 = .ok (.aload_n 0, 1) := by decide +kernel
theorem dC_take_9 : decode (am_by jC_take) 9 = .ok (.iconst 1, 1) := by decide +kernel
theorem dC_take_10 : decode (am_by jC_take) 10 = .ok (.putfield 41, 3) := by decide +kernel
theorem dC_take_13 : decode (am_by jC_take) 13 = .ok (.return_, 1) := by decide +kernel
theorem dC_leadOn_0 : decode (am_by jC_leadOn) 0 = .ok (.aload_n 1, 1) := by decide +kernel
theorem dC_leadOn_1 : decode (am_by jC_leadOn) 1 = .ok (.getfield 91, 3) := by decide +kernel
theorem dC_leadOn_4 : decode (am_by jC_leadOn) 4 = .ok (.iload_n 2, 1) := by decide +kernel
theorem dC_leadOn_5 : decode (am_by jC_leadOn) 5 = .ok (.iaload, 1) := by decide +kernel
theorem dC_leadOn_6 : decode (am_by jC_leadOn) 6 = .ok (.istore_n 3, 1) := by decide +kernel
theorem dC_leadOn_7 : decode (am_by jC_leadOn) 7 = .ok (.iload_n 3, 1) := by decide +kernel
theorem dC_leadOn_8 : decode (am_by jC_leadOn) 8 = .ok (.invokestatic 128, 3) := by decide +kernel
theorem dC_leadOn_11 : decode (am_by jC_leadOn) 11 = .ok (.ifCond .ne 9, 3) := by decide +kernel
theorem dC_leadOn_14 : decode (am_by jC_leadOn) 14 = .ok (.iload_n 3, 1) := by decide +kernel
theorem dC_leadOn_15 : decode (am_by jC_leadOn) 15 = .ok (.bipush 23, 2) := by decide +kernel
theorem dC_leadOn_17 : decode (am_by jC_leadOn) 17 = .ok (.if_icmp .ne 22, 3) := by decide +kernel
theorem dC_leadOn_20 : decode (am_by jC_leadOn) 20 = .ok (.aload_n 0, 1) := by decide +kernel
theorem dC_leadOn_21 : decode (am_by jC_leadOn) 21 = .ok (.aload_n 1, 1) := by decide +kernel
theorem dC_leadOn_22 : decode (am_by jC_leadOn) 22 = .ok (.aload_n 1, 1) := by decide +kernel
theorem dC_leadOn_23 : decode (am_by jC_leadOn) 23 = .ok (.getfield 118, 3) := by decide +kernel
theorem dC_leadOn_26 : decode (am_by jC_leadOn) 26 = .ok (.iload_n 2, 1) := by decide +kernel
theorem dC_leadOn_27 : decode (am_by jC_leadOn) 27 = .ok (.iaload, 1) := by decide +kernel
theorem dC_leadOn_28 : decode (am_by jC_leadOn) 28 = .ok (.aload_n 0, 1) := by decide +kernel
theorem dC_leadOn_29 : decode (am_by jC_leadOn) 29 = .ok (.getfield 25, 3) := by decide +kernel
theorem dC_leadOn_32 : decode (am_by jC_leadOn) 32 = .ok (.aload_n 0, 1) := by decide +kernel
theorem dC_leadOn_33 : decode (am_by jC_leadOn) 33 = .ok (.getfield 79, 3) := by decide +kernel
theorem dC_leadOn_36 : decode (am_by jC_leadOn) 36 = .ok (.invokevirtual 69, 3) := by decide +kernel
theorem dC_leadOn_39 : decode (am_by jC_leadOn) 39 = .ok (.iload_n 3, 1) := by decide +kernel
theorem dC_leadOn_40 : decode (am_by jC_leadOn) 40 = .ok (.bipush 24, 2) := by decide +kernel
theorem dC_leadOn_42 : decode (am_by jC_leadOn) 42 = .ok (.if_icmp .ne 91, 3) := by decide +kernel
theorem dC_leadOn_45 : decode (am_by jC_leadOn) 45 = .ok (.aload_n 0, 1) := by decide +kernel
theorem dC_leadOn_46 : decode (am_by jC_leadOn) 46 = .ok (.getfield 25, 3) := by decide +kernel
theorem dC_leadOn_49 : decode (am_by jC_leadOn) 49 = .ok (.bipush 8, 2) := by decide +kernel
theorem dC_leadOn_51 : decode (am_by jC_leadOn) 51 = .ok (.aload_n 1, 1) := by decide +kernel
theorem dC_leadOn_52 : decode (am_by jC_leadOn) 52 = .ok (.getfield 94, 3) := by decide +kernel
theorem dC_leadOn_55 : decode (am_by jC_leadOn) 55 = .ok (.iload_n 2, 1) := by decide +kernel
theorem dC_leadOn_56 : decode (am_by jC_leadOn) 56 = .ok (.iaload, 1) := by decide +kernel
theorem dC_leadOn_57 : decode (am_by jC_leadOn) 57 = .ok (.iadd, 1) := by decide +kernel
theorem dC_leadOn_58 : decode (am_by jC_leadOn) 58 = .ok (.iaload, 1) := by decide +kernel
theorem dC_leadOn_59 : decode (am_by jC_leadOn) 59 = .ok (.bipush 10, 2) := by decide +kernel
theorem dC_leadOn_61 : decode (am_by jC_leadOn) 61 = .ok (.isub, 1) := by decide +kernel
theorem dC_leadOn_62 : decode (am_by jC_leadOn) 62 = .ok (.istore 4, 2) := by decide +kernel
theorem dC_leadOn_64 : decode (am_by jC_leadOn) 64 = .ok (.iconst 0, 1) := by decide +kernel
theorem dC_leadOn_65 : decode (am_by jC_leadOn) 65 = .ok (.istore 5, 2) := by decide +kernel
theorem dC_leadOn_67 : decode (am_by jC_leadOn) 67 = .ok (.iload 5, 2) := by decide +kernel
theorem dC_leadOn_69 : decode (am_by jC_leadOn) 69 = .ok (.aload_n 0, 1) := by decide +kernel
theorem dC_leadOn_70 : decode (am_by jC_leadOn) 70 = .ok (.getfield 45, 3) := by decide +kernel
theorem dC_leadOn_73 : decode (am_by jC_leadOn) 73 = .ok (.if_icmp .ge 60, 3) := by decide +kernel
theorem dC_leadOn_76 : decode (am_by jC_leadOn) 76 = .ok (.aload_n 0, 1) := by decide +kernel
theorem dC_leadOn_77 : decode (am_by jC_leadOn) 77 = .ok (.getfield 18, 3) := by decide +kernel
theorem dC_leadOn_80 : decode (am_by jC_leadOn) 80 = .ok (.iload 5, 2) := by decide +kernel
theorem dC_leadOn_82 : decode (am_by jC_leadOn) 82 = .ok (.baload, 1) := by decide +kernel
theorem dC_leadOn_83 : decode (am_by jC_leadOn) 83 = .ok (.ifCond .eq 44, 3) := by decide +kernel
theorem dC_leadOn_86 : decode (am_by jC_leadOn) 86 = .ok (.aload_n 1, 1) := by decide +kernel
theorem dC_leadOn_87 : decode (am_by jC_leadOn) 87 = .ok (.getfield 91, 3) := by decide +kernel
theorem dC_leadOn_90 : decode (am_by jC_leadOn) 90 = .ok (.iload 5, 2) := by decide +kernel
theorem dC_leadOn_92 : decode (am_by jC_leadOn) 92 = .ok (.iaload, 1) := by decide +kernel
theorem dC_leadOn_93 : decode (am_by jC_leadOn) 93 = .ok (.bipush 23, 2) := by decide +kernel
theorem dC_leadOn_95 : decode (am_by jC_leadOn) 95 = .ok (.if_icmp .ne 32, 3) := by decide +kernel
theorem dC_leadOn_98 : decode (am_by jC_leadOn) 98 = .ok (.aload_n 1, 1) := by decide +kernel
theorem dC_leadOn_99 : decode (am_by jC_leadOn) 99 = .ok (.getfield 118, 3) := by decide +kernel
theorem dC_leadOn_102 : decode (am_by jC_leadOn) 102 = .ok (.iload 5, 2) := by decide +kernel
theorem dC_leadOn_104 : decode (am_by jC_leadOn) 104 = .ok (.iaload, 1) := by decide +kernel
theorem dC_leadOn_105 : decode (am_by jC_leadOn) 105 = .ok (.iload 4, 2) := by decide +kernel
theorem dC_leadOn_107 : decode (am_by jC_leadOn) 107 = .ok (.if_icmp .ne 20, 3) := by decide +kernel
theorem dC_leadOn_110 : decode (am_by jC_leadOn) 110 = .ok (.aload_n 0, 1) := by decide +kernel
theorem dC_leadOn_111 : decode (am_by jC_leadOn) 111 = .ok (.aload_n 1, 1) := by decide +kernel
theorem dC_leadOn_112 : decode (am_by jC_leadOn) 112 = .ok (.iload 5, 2) := by decide +kernel
theorem dC_leadOn_114 : decode (am_by jC_leadOn) 114 = .ok (.iconst 1, 1) := by decide +kernel
theorem dC_leadOn_115 : decode (am_by jC_leadOn) 115 = .ok (.iadd, 1) := by decide +kernel
theorem dC_leadOn_116 : decode (am_by jC_leadOn) 116 = .ok (.aload_n 0, 1) := by decide +kernel
theorem dC_leadOn_117 : decode (am_by jC_leadOn) 117 = .ok (.getfield 25, 3) := by decide +kernel
theorem dC_leadOn_120 : decode (am_by jC_leadOn) 120 = .ok (.aload_n 0, 1) := by decide +kernel
theorem dC_leadOn_121 : decode (am_by jC_leadOn) 121 = .ok (.getfield 79, 3) := by decide +kernel
theorem dC_leadOn_124 : decode (am_by jC_leadOn) 124 = .ok (.invokevirtual 69, 3) := by decide +kernel
theorem dC_leadOn_127 : decode (am_by jC_leadOn) 127 = .ok (.iinc 5 1, 3) := by decide +kernel
theorem dC_leadOn_130 : decode (am_by jC_leadOn) 130 = .ok (.goto (-63), 3) := by decide +kernel
theorem dC_leadOn_133 : decode (am_by jC_leadOn) 133 = .ok (.iload_n 3, 1) := by decide +kernel
theorem dC_leadOn_134 : decode (am_by jC_leadOn) 134 = .ok (.bipush 11, 2) := by decide +kernel
theorem dC_leadOn_136 : decode (am_by jC_leadOn) 136 = .ok (.if_icmp .eq 15, 3) := by decide +kernel
theorem dC_leadOn_139 : decode (am_by jC_leadOn) 139 = .ok (.iload_n 3, 1) := by decide +kernel
theorem dC_leadOn_140 : decode (am_by jC_leadOn) 140 = .ok (.bipush 23, 2) := by decide +kernel
theorem dC_leadOn_142 : decode (am_by jC_leadOn) 142 = .ok (.if_icmp .eq 9, 3) := by decide +kernel
theorem dC_leadOn_145 : decode (am_by jC_leadOn) 145 = .ok (.iload_n 3, 1) := by decide +kernel
theorem dC_leadOn_146 : decode (am_by jC_leadOn) 146 = .ok (.bipush 24, 2) := by decide +kernel
theorem dC_leadOn_148 : decode (am_by jC_leadOn) 148 = .ok (.if_icmp .ne 7, 3) := by decide +kernel
theorem dC_leadOn_151 : decode (am_by jC_leadOn) 151 = .ok (.iconst 1, 1) := by decide +kernel
theorem dC_leadOn_152 : decode (am_by jC_leadOn) 152 = .ok (.goto 4, 3) := by decide +kernel
theorem dC_leadOn_155 : decode (am_by jC_leadOn) 155 = .ok (.iconst 0, 1) := by decide +kernel
theorem dC_leadOn_156 : decode (am_by jC_leadOn) 156 = .ok (.istore 4, 2) := by decide +kernel
theorem dC_leadOn_158 : decode (am_by jC_leadOn) 158 = .ok (.iload 4, 2) := by decide +kernel
theorem dC_leadOn_160 : decode (am_by jC_leadOn) 160 = .ok (.ifCond .ne 31, 3) := by decide +kernel
theorem dC_leadOn_163 : decode (am_by jC_leadOn) 163 = .ok (.iload_n 3, 1) := by decide +kernel
theorem dC_leadOn_164 : decode (am_by jC_leadOn) 164 = .ok (.bipush 20, 2) := by decide +kernel
theorem dC_leadOn_166 : decode (am_by jC_leadOn) 166 = .ok (.if_icmp .eq 25, 3) := by decide +kernel
theorem dC_leadOn_169 : decode (am_by jC_leadOn) 169 = .ok (.iload_n 3, 1) := by decide +kernel
theorem dC_leadOn_170 : decode (am_by jC_leadOn) 170 = .ok (.bipush 22, 2) := by decide +kernel
theorem dC_leadOn_172 : decode (am_by jC_leadOn) 172 = .ok (.if_icmp .eq 19, 3) := by decide +kernel
theorem dC_leadOn_175 : decode (am_by jC_leadOn) 175 = .ok (.aload_n 0, 1) := by decide +kernel
theorem dC_leadOn_176 : decode (am_by jC_leadOn) 176 = .ok (.aload_n 1, 1) := by decide +kernel
theorem dC_leadOn_177 : decode (am_by jC_leadOn) 177 = .ok (.iload_n 2, 1) := by decide +kernel
theorem dC_leadOn_178 : decode (am_by jC_leadOn) 178 = .ok (.iconst 1, 1) := by decide +kernel
theorem dC_leadOn_179 : decode (am_by jC_leadOn) 179 = .ok (.iadd, 1) := by decide +kernel
theorem dC_leadOn_180 : decode (am_by jC_leadOn) 180 = .ok (.aload_n 0, 1) := by decide +kernel
theorem dC_leadOn_181 : decode (am_by jC_leadOn) 181 = .ok (.getfield 25, 3) := by decide +kernel
theorem dC_leadOn_184 : decode (am_by jC_leadOn) 184 = .ok (.aload_n 0, 1) := by decide +kernel
theorem dC_leadOn_185 : decode (am_by jC_leadOn) 185 = .ok (.getfield 79, 3) := by decide +kernel
theorem dC_leadOn_188 : decode (am_by jC_leadOn) 188 = .ok (.invokevirtual 69, 3) := by decide +kernel
theorem dC_leadOn_191 : decode (am_by jC_leadOn) 191 = .ok (.return_, 1) := by decide +kernel
theorem dC_comeTo_0 : decode (am_by jC_comeTo) 0 = .ok (.iload_n 2, 1) := by decide +kernel
theorem dC_comeTo_1 : decode (am_by jC_comeTo) 1 = .ok (.aload_n 0, 1) := by decide +kernel
theorem dC_comeTo_2 : decode (am_by jC_comeTo) 2 = .ok (.getfield 45, 3) := by decide +kernel
theorem dC_comeTo_5 : decode (am_by jC_comeTo) 5 = .ok (.invokestatic 53, 3) := by decide +kernel
theorem dC_comeTo_8 : decode (am_by jC_comeTo) 8 = .ok (.ifCond .ne 11, 3) := by decide +kernel
theorem dC_comeTo_11 : decode (am_by jC_comeTo) 11 = .ok (.aload_n 0, 1) := by decide +kernel
theorem dC_comeTo_12 : decode (am_by jC_comeTo) 12 = .ok (.iconst 1, 1) := by decide +kernel
theorem dC_comeTo_13 : decode (am_by jC_comeTo) 13 = .ok (.putfield 41, 3) := by decide +kernel
theorem dC_comeTo_16 : decode (am_by jC_comeTo) 16 = .ok (.goto 86, 3) := by decide +kernel
theorem dC_comeTo_19 : decode (am_by jC_comeTo) 19 = .ok (.aload_n 0, 1) := by decide +kernel
theorem dC_comeTo_20 : decode (am_by jC_comeTo) 20 = .ok (.getfield 18, 3) := by decide +kernel
theorem dC_comeTo_23 : decode (am_by jC_comeTo) 23 = .ok (.iload_n 2, 1) := by decide +kernel
theorem dC_comeTo_24 : decode (am_by jC_comeTo) 24 = .ok (.baload, 1) := by decide +kernel
theorem dC_comeTo_25 : decode (am_by jC_comeTo) 25 = .ok (.ifCond .eq 14, 3) := by decide +kernel
theorem dC_comeTo_28 : decode (am_by jC_comeTo) 28 = .ok (.aload_n 0, 1) := by decide +kernel
theorem dC_comeTo_29 : decode (am_by jC_comeTo) 29 = .ok (.iload_n 2, 1) := by decide +kernel
theorem dC_comeTo_30 : decode (am_by jC_comeTo) 30 = .ok (.aload_n 3, 1) := by decide +kernel
theorem dC_comeTo_31 : decode (am_by jC_comeTo) 31 = .ok (.iload 4, 2) := by decide +kernel
theorem dC_comeTo_33 : decode (am_by jC_comeTo) 33 = .ok (.invokevirtual 132, 3) := by decide +kernel
theorem dC_comeTo_36 : decode (am_by jC_comeTo) 36 = .ok (.goto 66, 3) := by decide +kernel
theorem dC_comeTo_39 : decode (am_by jC_comeTo) 39 = .ok (.aload_n 3, 1) := by decide +kernel
theorem dC_comeTo_40 : decode (am_by jC_comeTo) 40 = .ok (.iconst 0, 1) := by decide +kernel
theorem dC_comeTo_41 : decode (am_by jC_comeTo) 41 = .ok (.aload_n 0, 1) := by decide +kernel
theorem dC_comeTo_42 : decode (am_by jC_comeTo) 42 = .ok (.getfield 15, 3) := by decide +kernel
theorem dC_comeTo_45 : decode (am_by jC_comeTo) 45 = .ok (.iload_n 2, 1) := by decide +kernel
theorem dC_comeTo_46 : decode (am_by jC_comeTo) 46 = .ok (.bipush 16, 2) := by decide +kernel
theorem dC_comeTo_48 : decode (am_by jC_comeTo) 48 = .ok (.imul, 1) := by decide +kernel
theorem dC_comeTo_49 : decode (am_by jC_comeTo) 49 = .ok (.bipush 16, 2) := by decide +kernel
theorem dC_comeTo_51 : decode (am_by jC_comeTo) 51 = .ok (.invokestatic 73, 3) := by decide +kernel
theorem dC_comeTo_54 : decode (am_by jC_comeTo) 54 = .ok (.aload_n 0, 1) := by decide +kernel
theorem dC_comeTo_55 : decode (am_by jC_comeTo) 55 = .ok (.getfield 9, 3) := by decide +kernel
theorem dC_comeTo_58 : decode (am_by jC_comeTo) 58 = .ok (.iload_n 2, 1) := by decide +kernel
theorem dC_comeTo_59 : decode (am_by jC_comeTo) 59 = .ok (.iload 4, 2) := by decide +kernel
theorem dC_comeTo_61 : decode (am_by jC_comeTo) 61 = .ok (.iastore, 1) := by decide +kernel
theorem dC_comeTo_62 : decode (am_by jC_comeTo) 62 = .ok (.aload_n 0, 1) := by decide +kernel
theorem dC_comeTo_63 : decode (am_by jC_comeTo) 63 = .ok (.getfield 18, 3) := by decide +kernel
theorem dC_comeTo_66 : decode (am_by jC_comeTo) 66 = .ok (.iload_n 2, 1) := by decide +kernel
theorem dC_comeTo_67 : decode (am_by jC_comeTo) 67 = .ok (.iconst 1, 1) := by decide +kernel
theorem dC_comeTo_68 : decode (am_by jC_comeTo) 68 = .ok (.bastore, 1) := by decide +kernel
theorem dC_comeTo_69 : decode (am_by jC_comeTo) 69 = .ok (.aload_n 0, 1) := by decide +kernel
theorem dC_comeTo_70 : decode (am_by jC_comeTo) 70 = .ok (.getfield 22, 3) := by decide +kernel
theorem dC_comeTo_73 : decode (am_by jC_comeTo) 73 = .ok (.iload_n 2, 1) := by decide +kernel
theorem dC_comeTo_74 : decode (am_by jC_comeTo) 74 = .ok (.iconst 1, 1) := by decide +kernel
theorem dC_comeTo_75 : decode (am_by jC_comeTo) 75 = .ok (.bastore, 1) := by decide +kernel
theorem dC_comeTo_76 : decode (am_by jC_comeTo) 76 = .ok (.aload_n 0, 1) := by decide +kernel
theorem dC_comeTo_77 : decode (am_by jC_comeTo) 77 = .ok (.dup, 1) := by decide +kernel
theorem dC_comeTo_78 : decode (am_by jC_comeTo) 78 = .ok (.getfield 63, 3) := by decide +kernel
theorem dC_comeTo_81 : decode (am_by jC_comeTo) 81 = .ok (.iconst 1, 1) := by decide +kernel
theorem dC_comeTo_82 : decode (am_by jC_comeTo) 82 = .ok (.iadd, 1) := by decide +kernel
theorem dC_comeTo_83 : decode (am_by jC_comeTo) 83 = .ok (.putfield 63, 3) := by decide +kernel
theorem dC_comeTo_86 : decode (am_by jC_comeTo) 86 = .ok (.aload_n 1, 1) := by decide +kernel
theorem dC_comeTo_87 : decode (am_by jC_comeTo) 87 = .ok (.getfield 91, 3) := by decide +kernel
theorem dC_comeTo_90 : decode (am_by jC_comeTo) 90 = .ok (.iload_n 2, 1) := by decide +kernel
theorem dC_comeTo_91 : decode (am_by jC_comeTo) 91 = .ok (.iaload, 1) := by decide +kernel
theorem dC_comeTo_92 : decode (am_by jC_comeTo) 92 = .ok (.bipush 23, 2) := by decide +kernel
theorem dC_comeTo_94 : decode (am_by jC_comeTo) 94 = .ok (.if_icmp .ne 8, 3) := by decide +kernel
theorem dC_comeTo_97 : decode (am_by jC_comeTo) 97 = .ok (.aload_n 0, 1) := by decide +kernel
theorem dC_comeTo_98 : decode (am_by jC_comeTo) 98 = .ok (.aload_n 1, 1) := by decide +kernel
theorem dC_comeTo_99 : decode (am_by jC_comeTo) 99 = .ok (.invokevirtual 136, 3) := by decide +kernel
theorem dC_comeTo_102 : decode (am_by jC_comeTo) 102 = .ok (.return_, 1) := by decide +kernel
theorem dC_meet_0 : decode (am_by jC_meet) 0 = .ok (.iload_n 1, 1) := by decide +kernel
theorem dC_meet_1 : decode (am_by jC_meet) 1 = .ok (.bipush 16, 2) := by decide +kernel
theorem dC_meet_3 : decode (am_by jC_meet) 3 = .ok (.imul, 1) := by decide +kernel
theorem dC_meet_4 : decode (am_by jC_meet) 4 = .ok (.istore 4, 2) := by decide +kernel
theorem dC_meet_6 : decode (am_by jC_meet) 6 = .ok (.aload_n 0, 1) := by decide +kernel
theorem dC_meet_7 : decode (am_by jC_meet) 7 = .ok (.dup, 1) := by decide +kernel
theorem dC_meet_8 : decode (am_by jC_meet) 8 = .ok (.getfield 41, 3) := by decide +kernel
theorem dC_meet_11 : decode (am_by jC_meet) 11 = .ok (.aload_n 0, 1) := by decide +kernel
theorem dC_meet_12 : decode (am_by jC_meet) 12 = .ok (.getfield 9, 3) := by decide +kernel
theorem dC_meet_15 : decode (am_by jC_meet) 15 = .ok (.iload_n 1, 1) := by decide +kernel
theorem dC_meet_16 : decode (am_by jC_meet) 16 = .ok (.iaload, 1) := by decide +kernel
theorem dC_meet_17 : decode (am_by jC_meet) 17 = .ok (.iload_n 3, 1) := by decide +kernel
theorem dC_meet_18 : decode (am_by jC_meet) 18 = .ok (.if_icmp .eq 7, 3) := by decide +kernel
theorem dC_meet_21 : decode (am_by jC_meet) 21 = .ok (.iconst 1, 1) := by decide +kernel
theorem dC_meet_22 : decode (am_by jC_meet) 22 = .ok (.goto 4, 3) := by decide +kernel
theorem dC_meet_25 : decode (am_by jC_meet) 25 = .ok (.iconst 0, 1) := by decide +kernel
theorem dC_meet_26 : decode (am_by jC_meet) 26 = .ok (.ior, 1) := by decide +kernel
theorem dC_meet_27 : decode (am_by jC_meet) 27 = .ok (.putfield 41, 3) := by decide +kernel
theorem dC_meet_30 : decode (am_by jC_meet) 30 = .ok (.iconst 0, 1) := by decide +kernel
theorem dC_meet_31 : decode (am_by jC_meet) 31 = .ok (.istore 5, 2) := by decide +kernel
theorem dC_meet_33 : decode (am_by jC_meet) 33 = .ok (.iload 5, 2) := by decide +kernel
theorem dC_meet_35 : decode (am_by jC_meet) 35 = .ok (.iload_n 3, 1) := by decide +kernel
theorem dC_meet_36 : decode (am_by jC_meet) 36 = .ok (.if_icmp .ge 42, 3) := by decide +kernel
theorem dC_meet_39 : decode (am_by jC_meet) 39 = .ok (.aload_n 0, 1) := by decide +kernel
theorem dC_meet_40 : decode (am_by jC_meet) 40 = .ok (.getfield 41, 3) := by decide +kernel
theorem dC_meet_43 : decode (am_by jC_meet) 43 = .ok (.ifCond .ne 35, 3) := by decide +kernel
theorem dC_meet_46 : decode (am_by jC_meet) 46 = .ok (.aload_n 0, 1) := by decide +kernel
theorem dC_meet_47 : decode (am_by jC_meet) 47 = .ok (.aload_n 0, 1) := by decide +kernel
theorem dC_meet_48 : decode (am_by jC_meet) 48 = .ok (.getfield 15, 3) := by decide +kernel
theorem dC_meet_51 : decode (am_by jC_meet) 51 = .ok (.iload 4, 2) := by decide +kernel
theorem dC_meet_53 : decode (am_by jC_meet) 53 = .ok (.iload 5, 2) := by decide +kernel
theorem dC_meet_55 : decode (am_by jC_meet) 55 = .ok (.iadd, 1) := by decide +kernel
theorem dC_meet_56 : decode (am_by jC_meet) 56 = .ok (.iaload, 1) := by decide +kernel
theorem dC_meet_57 : decode (am_by jC_meet) 57 = .ok (.aload_n 2, 1) := by decide +kernel
theorem dC_meet_58 : decode (am_by jC_meet) 58 = .ok (.iload 5, 2) := by decide +kernel
theorem dC_meet_60 : decode (am_by jC_meet) 60 = .ok (.iaload, 1) := by decide +kernel
theorem dC_meet_61 : decode (am_by jC_meet) 61 = .ok (.if_icmp .eq 7, 3) := by decide +kernel
theorem dC_meet_64 : decode (am_by jC_meet) 64 = .ok (.iconst 1, 1) := by decide +kernel
theorem dC_meet_65 : decode (am_by jC_meet) 65 = .ok (.goto 4, 3) := by decide +kernel
theorem dC_meet_68 : decode (am_by jC_meet) 68 = .ok (.iconst 0, 1) := by decide +kernel
theorem dC_meet_69 : decode (am_by jC_meet) 69 = .ok (.putfield 41, 3) := by decide +kernel
theorem dC_meet_72 : decode (am_by jC_meet) 72 = .ok (.iinc 5 1, 3) := by decide +kernel
theorem dC_meet_75 : decode (am_by jC_meet) 75 = .ok (.goto (-42), 3) := by decide +kernel
theorem dC_meet_78 : decode (am_by jC_meet) 78 = .ok (.bipush 8, 2) := by decide +kernel
theorem dC_meet_80 : decode (am_by jC_meet) 80 = .ok (.istore 5, 2) := by decide +kernel
theorem dC_meet_82 : decode (am_by jC_meet) 82 = .ok (.iload 5, 2) := by decide +kernel
theorem dC_meet_84 : decode (am_by jC_meet) 84 = .ok (.bipush 16, 2) := by decide +kernel
theorem dC_meet_86 : decode (am_by jC_meet) 86 = .ok (.if_icmp .ge 60, 3) := by decide +kernel
theorem dC_meet_89 : decode (am_by jC_meet) 89 = .ok (.aload_n 0, 1) := by decide +kernel
theorem dC_meet_90 : decode (am_by jC_meet) 90 = .ok (.getfield 15, 3) := by decide +kernel
theorem dC_meet_93 : decode (am_by jC_meet) 93 = .ok (.iload 4, 2) := by decide +kernel
theorem dC_meet_95 : decode (am_by jC_meet) 95 = .ok (.iload 5, 2) := by decide +kernel
theorem dC_meet_97 : decode (am_by jC_meet) 97 = .ok (.iadd, 1) := by decide +kernel
theorem dC_meet_98 : decode (am_by jC_meet) 98 = .ok (.iaload, 1) := by decide +kernel
theorem dC_meet_99 : decode (am_by jC_meet) 99 = .ok (.bipush (-2), 2) := by decide +kernel
theorem dC_meet_101 : decode (am_by jC_meet) 101 = .ok (.if_icmp .eq 39, 3) := by decide +kernel
theorem dC_meet_104 : decode (am_by jC_meet) 104 = .ok (.aload_n 0, 1) := by decide +kernel
theorem dC_meet_105 : decode (am_by jC_meet) 105 = .ok (.getfield 15, 3) := by decide +kernel
theorem dC_meet_108 : decode (am_by jC_meet) 108 = .ok (.iload 4, 2) := by decide +kernel
theorem dC_meet_110 : decode (am_by jC_meet) 110 = .ok (.iload 5, 2) := by decide +kernel
theorem dC_meet_112 : decode (am_by jC_meet) 112 = .ok (.iadd, 1) := by decide +kernel
theorem dC_meet_113 : decode (am_by jC_meet) 113 = .ok (.iaload, 1) := by decide +kernel
theorem dC_meet_114 : decode (am_by jC_meet) 114 = .ok (.aload_n 2, 1) := by decide +kernel
theorem dC_meet_115 : decode (am_by jC_meet) 115 = .ok (.iload 5, 2) := by decide +kernel
theorem dC_meet_117 : decode (am_by jC_meet) 117 = .ok (.iaload, 1) := by decide +kernel
theorem dC_meet_118 : decode (am_by jC_meet) 118 = .ok (.if_icmp .eq 22, 3) := by decide +kernel
theorem dC_meet_121 : decode (am_by jC_meet) 121 = .ok (.aload_n 0, 1) := by decide +kernel
theorem dC_meet_122 : decode (am_by jC_meet) 122 = .ok (.getfield 15, 3) := by decide +kernel
theorem dC_meet_125 : decode (am_by jC_meet) 125 = .ok (.iload 4, 2) := by decide +kernel
theorem dC_meet_127 : decode (am_by jC_meet) 127 = .ok (.iload 5, 2) := by decide +kernel
theorem dC_meet_129 : decode (am_by jC_meet) 129 = .ok (.iadd, 1) := by decide +kernel
theorem dC_meet_130 : decode (am_by jC_meet) 130 = .ok (.bipush (-2), 2) := by decide +kernel
theorem dC_meet_132 : decode (am_by jC_meet) 132 = .ok (.iastore, 1) := by decide +kernel
theorem dC_meet_133 : decode (am_by jC_meet) 133 = .ok (.aload_n 0, 1) := by decide +kernel
theorem dC_meet_134 : decode (am_by jC_meet) 134 = .ok (.getfield 22, 3) := by decide +kernel
theorem dC_meet_137 : decode (am_by jC_meet) 137 = .ok (.iload_n 1, 1) := by decide +kernel
theorem dC_meet_138 : decode (am_by jC_meet) 138 = .ok (.iconst 1, 1) := by decide +kernel
theorem dC_meet_139 : decode (am_by jC_meet) 139 = .ok (.bastore, 1) := by decide +kernel
theorem dC_meet_140 : decode (am_by jC_meet) 140 = .ok (.iinc 5 1, 3) := by decide +kernel
theorem dC_meet_143 : decode (am_by jC_meet) 143 = .ok (.goto (-61), 3) := by decide +kernel
theorem dC_meet_146 : decode (am_by jC_meet) 146 = .ok (.return_, 1) := by decide +kernel
theorem dC_followBacksAgain_0 : decode (am_by jC_followBacksAgain) 0 = .ok (.iconst 0, 1) := by decide +kernel
theorem dC_followBacksAgain_1 : decode (am_by jC_followBacksAgain) 1 = .ok (.istore_n 2, 1) := by decide +kernel
theorem dC_followBacksAgain_2 : decode (am_by jC_followBacksAgain) 2 = .ok (.iload_n 2, 1) := by decide +kernel
theorem dC_followBacksAgain_3 : decode (am_by jC_followBacksAgain) 3 = .ok (.aload_n 0, 1) := by decide +kernel
theorem dC_followBacksAgain_4 : decode (am_by jC_followBacksAgain) 4 = .ok (.getfield 45, 3) := by decide +kernel
theorem dC_followBacksAgain_7 : decode (am_by jC_followBacksAgain) 7 = .ok (.if_icmp .ge 36, 3) := by decide +kernel
theorem dC_followBacksAgain_10 : decode (am_by jC_followBacksAgain) 10 = .ok (.aload_n 0, 1) := by decide +kernel
theorem dC_followBacksAgain_11 : decode (am_by jC_followBacksAgain) 11 = .ok (.getfield 18, 3) := by decide +kernel
theorem dC_followBacksAgain_14 : decode (am_by jC_followBacksAgain) 14 = .ok (.iload_n 2, 1) := by decide +kernel
theorem dC_followBacksAgain_15 : decode (am_by jC_followBacksAgain) 15 = .ok (.baload, 1) := by decide +kernel
theorem dC_followBacksAgain_16 : decode (am_by jC_followBacksAgain) 16 = .ok (.ifCond .eq 21, 3) := by decide +kernel
theorem dC_followBacksAgain_19 : decode (am_by jC_followBacksAgain) 19 = .ok (.aload_n 1, 1) := by decide +kernel
theorem dC_followBacksAgain_20 : decode (am_by jC_followBacksAgain) 20 = .ok (.getfield 91, 3) := by decide +kernel
theorem dC_followBacksAgain_23 : decode (am_by jC_followBacksAgain) 23 = .ok (.iload_n 2, 1) := by decide +kernel
theorem dC_followBacksAgain_24 : decode (am_by jC_followBacksAgain) 24 = .ok (.iaload, 1) := by decide +kernel
theorem dC_followBacksAgain_25 : decode (am_by jC_followBacksAgain) 25 = .ok (.bipush 24, 2) := by decide +kernel
theorem dC_followBacksAgain_27 : decode (am_by jC_followBacksAgain) 27 = .ok (.if_icmp .ne 10, 3) := by decide +kernel
theorem dC_followBacksAgain_30 : decode (am_by jC_followBacksAgain) 30 = .ok (.aload_n 0, 1) := by decide +kernel
theorem dC_followBacksAgain_31 : decode (am_by jC_followBacksAgain) 31 = .ok (.getfield 22, 3) := by decide +kernel
theorem dC_followBacksAgain_34 : decode (am_by jC_followBacksAgain) 34 = .ok (.iload_n 2, 1) := by decide +kernel
theorem dC_followBacksAgain_35 : decode (am_by jC_followBacksAgain) 35 = .ok (.iconst 1, 1) := by decide +kernel
theorem dC_followBacksAgain_36 : decode (am_by jC_followBacksAgain) 36 = .ok (.bastore, 1) := by decide +kernel
theorem dC_followBacksAgain_37 : decode (am_by jC_followBacksAgain) 37 = .ok (.iinc 2 1, 3) := by decide +kernel
theorem dC_followBacksAgain_40 : decode (am_by jC_followBacksAgain) 40 = .ok (.goto (-38), 3) := by decide +kernel
theorem dC_followBacksAgain_43 : decode (am_by jC_followBacksAgain) 43 = .ok (.return_, 1) := by decide +kernel
