theorem dM_init_0 : decode (am_by jM_init) 0 = .ok (.aload_n 0, 1) := by decide +kernel
theorem dM_init_1 : decode (am_by jM_init) 1 = .ok (.invokespecial 3, 3) := by decide +kernel
theorem dM_init_4 : decode (am_by jM_init) 4 = .ok (.aload_n 0, 1) := by decide +kernel
theorem dM_init_5 : decode (am_by jM_init) 5 = .ok (.bipush 12, 2) := by decide +kernel
theorem dM_init_7 : decode (am_by jM_init) 7 = .ok (.anewarray 9, 3) := by decide +kernel
theorem dM_init_10 : decode (am_by jM_init) 10 = .ok (.putfield 11, 3) := by decide +kernel
theorem dM_init_13 : decode (am_by jM_init) 13 = .ok (.aload_n 0, 1) := by decide +kernel
theorem dM_init_14 : decode (am_by jM_init) 14 = .ok (.sipush 1001, 3) := by decide +kernel
theorem dM_init_17 : decode (am_by jM_init) 17 = .ok (.newarray .int, 2) := by decide +kernel
theorem dM_init_19 : decode (am_by jM_init) 19 = .ok (.putfield 17, 3) := by decide +kernel
theorem dM_init_22 : decode (am_by jM_init) 22 = .ok (.aload_n 0, 1) := by decide +kernel
theorem dM_init_23 : decode (am_by jM_init) 23 = .ok (.sipush 1001, 3) := by decide +kernel
theorem dM_init_26 : decode (am_by jM_init) 26 = .ok (.newarray .int, 2) := by decide +kernel
theorem dM_init_28 : decode (am_by jM_init) 28 = .ok (.putfield 21, 3) := by decide +kernel
theorem dM_init_31 : decode (am_by jM_init) 31 = .ok (.aload_n 0, 1) := by decide +kernel
theorem dM_init_32 : decode (am_by jM_init) 32 = .ok (.sipush 1000, 3) := by decide +kernel
theorem dM_init_35 : decode (am_by jM_init) 35 = .ok (.newarray .int, 2) := by decide +kernel
theorem dM_init_37 : decode (am_by jM_init) 37 = .ok (.putfield 24, 3) := by decide +kernel
theorem dM_init_40 : decode (am_by jM_init) 40 = .ok (.iconst 0, 1) := by decide +kernel
theorem dM_init_41 : decode (am_by jM_init) 41 = .ok (.istore_n 1, 1) := by decide +kernel
theorem dM_init_42 : decode (am_by jM_init) 42 = .ok (.iload_n 1, 1) := by decide +kernel
theorem dM_init_43 : decode (am_by jM_init) 43 = .ok (.bipush 12, 2) := by decide +kernel
theorem dM_init_45 : decode (am_by jM_init) 45 = .ok (.if_icmp .ge 22, 3) := by decide +kernel
theorem dM_init_48 : decode (am_by jM_init) 48 = .ok (.aload_n 0, 1) := by decide +kernel
theorem dM_init_49 : decode (am_by jM_init) 49 = .ok (.getfield 11, 3) := by decide +kernel
theorem dM_init_52 : decode (am_by jM_init) 52 = .ok (.iload_n 1, 1) := by decide +kernel
theorem dM_init_53 : decode (am_by jM_init) 53 = .ok (.new 9, 3) := by decide +kernel
theorem dM_init_56 : decode (am_by jM_init) 56 = .ok (.dup, 1) := by decide +kernel
theorem dM_init_57 : decode (am_by jM_init) 57 = .ok (.invokespecial 27, 3) := by decide +kernel
theorem dM_init_60 : decode (am_by jM_init) 60 = .ok (.aastore, 1) := by decide +kernel
theorem dM_init_61 : decode (am_by jM_init) 61 = .ok (.iinc 1 1, 3) := by decide +kernel
theorem dM_init_64 : decode (am_by jM_init) 64 = .ok (.goto (-22), 3) := by decide +kernel
theorem dM_init_67 : decode (am_by jM_init) 67 = .ok (.return_, 1) := by decide +kernel
theorem dM_play_0 : decode (am_by jM_play) 0 = .ok (.aload_n 0, 1) := by decide +kernel
theorem dM_play_1 : decode (am_by jM_play) 1 = .ok (.aload_n 1, 1) := by decide +kernel
theorem dM_play_2 : decode (am_by jM_play) 2 = .ok (.putfield 28, 3) := by decide +kernel
theorem dM_play_5 : decode (am_by jM_play) 5 = .ok (.aload_n 0, 1) := by decide +kernel
theorem dM_play_6 : decode (am_by jM_play) 6 = .ok (.aload 7, 2) := by decide +kernel
theorem dM_play_8 : decode (am_by jM_play) 8 = .ok (.putfield 32, 3) := by decide +kernel
theorem dM_play_11 : decode (am_by jM_play) 11 = .ok (.aload_n 0, 1) := by decide +kernel
theorem dM_play_12 : decode (am_by jM_play) 12 = .ok (.getfield 32, 3) := by decide +kernel
theorem dM_play_15 : decode (am_by jM_play) 15 = .ok (.invokevirtual 36, 3) := by decide +kernel
theorem dM_play_18 : decode (am_by jM_play) 18 = .ok (.aload_n 0, 1) := by decide +kernel
theorem dM_play_19 : decode (am_by jM_play) 19 = .ok (.iconst 0, 1) := by decide +kernel
theorem dM_play_20 : decode (am_by jM_play) 20 = .ok (.putfield 41, 3) := by decide +kernel
theorem dM_play_23 : decode (am_by jM_play) 23 = .ok (.aload_n 0, 1) := by decide +kernel
theorem dM_play_24 : decode (am_by jM_play) 24 = .ok (.iconst 0, 1) := by decide +kernel
theorem dM_play_25 : decode (am_by jM_play) 25 = .ok (.putfield 45, 3) := by decide +kernel
theorem dM_play_28 : decode (am_by jM_play) 28 = .ok (.aload_n 0, 1) := by decide +kernel
theorem dM_play_29 : decode (am_by jM_play) 29 = .ok (.iconst 0, 1) := by decide +kernel
theorem dM_play_30 : decode (am_by jM_play) 30 = .ok (.putfield 48, 3) := by decide +kernel
theorem dM_play_33 : decode (am_by jM_play) 33 = .ok (.aload_n 0, 1) := by decide +kernel
theorem dM_play_34 : decode (am_by jM_play) 34 = .ok (.iload_n 2, 1) := by decide +kernel
theorem dM_play_35 : decode (am_by jM_play) 35 = .ok (.invokevirtual 51, 3) := by decide +kernel
theorem dM_play_38 : decode (am_by jM_play) 38 = .ok (.astore 8, 2) := by decide +kernel
theorem dM_play_40 : decode (am_by jM_play) 40 = .ok (.aload 8, 2) := by decide +kernel
theorem dM_play_42 : decode (am_by jM_play) 42 = .ok (.getfield 55, 3) := by decide +kernel
theorem dM_play_45 : decode (am_by jM_play) 45 = .ok (.iconst 0, 1) := by decide +kernel
theorem dM_play_46 : decode (am_by jM_play) 46 = .ok (.iload 4, 2) := by decide +kernel
theorem dM_play_48 : decode (am_by jM_play) 48 = .ok (.iastore, 1) := by decide +kernel
theorem dM_play_49 : decode (am_by jM_play) 49 = .ok (.aload 8, 2) := by decide +kernel
theorem dM_play_51 : decode (am_by jM_play) 51 = .ok (.getfield 55, 3) := by decide +kernel
theorem dM_play_54 : decode (am_by jM_play) 54 = .ok (.iconst 1, 1) := by decide +kernel
theorem dM_play_55 : decode (am_by jM_play) 55 = .ok (.iload 5, 2) := by decide +kernel
theorem dM_play_57 : decode (am_by jM_play) 57 = .ok (.iastore, 1) := by decide +kernel
theorem dM_play_58 : decode (am_by jM_play) 58 = .ok (.aload 8, 2) := by decide +kernel
theorem dM_play_60 : decode (am_by jM_play) 60 = .ok (.getfield 55, 3) := by decide +kernel
theorem dM_play_63 : decode (am_by jM_play) 63 = .ok (.iconst 2, 1) := by decide +kernel
theorem dM_play_64 : decode (am_by jM_play) 64 = .ok (.iload 6, 2) := by decide +kernel
theorem dM_play_66 : decode (am_by jM_play) 66 = .ok (.iastore, 1) := by decide +kernel
theorem dM_play_67 : decode (am_by jM_play) 67 = .ok (.iload_n 3, 1) := by decide +kernel
theorem dM_play_68 : decode (am_by jM_play) 68 = .ok (.istore 9, 2) := by decide +kernel
theorem dM_play_70 : decode (am_by jM_play) 70 = .ok (.iload 9, 2) := by decide +kernel
theorem dM_play_72 : decode (am_by jM_play) 72 = .ok (.ifCond .le 60, 3) := by decide +kernel
theorem dM_play_75 : decode (am_by jM_play) 75 = .ok (.aload_n 0, 1) := by decide +kernel
theorem dM_play_76 : decode (am_by jM_play) 76 = .ok (.getfield 32, 3) := by decide +kernel
theorem dM_play_79 : decode (am_by jM_play) 79 = .ok (.getfield 58, 3) := by decide +kernel
theorem dM_play_82 : decode (am_by jM_play) 82 = .ok (.bipush (-5), 2) := by decide +kernel
theorem dM_play_84 : decode (am_by jM_play) 84 = .ok (.if_icmp .ne 48, 3) := by decide +kernel
theorem dM_play_87 : decode (am_by jM_play) 87 = .ok (.aload_n 0, 1) := by decide +kernel
theorem dM_play_88 : decode (am_by jM_play) 88 = .ok (.getfield 32, 3) := by decide +kernel
theorem dM_play_91 : decode (am_by jM_play) 91 = .ok (.dup, 1) := by decide +kernel
theorem dM_play_92 : decode (am_by jM_play) 92 = .ok (.getfield 61, 3) := by decide +kernel
theorem dM_play_95 : decode (am_by jM_play) 95 = .ok (.iconst 1, 1) := by decide +kernel
theorem dM_play_96 : decode (am_by jM_play) 96 = .ok (.iadd, 1) := by decide +kernel
theorem dM_play_97 : decode (am_by jM_play) 97 = .ok (.putfield 61, 3) := by decide +kernel
theorem dM_play_100 : decode (am_by jM_play) 100 = .ok (.aload_n 0, 1) := by decide +kernel
theorem dM_play_101 : decode (am_by jM_play) 101 = .ok (.aload_n 0, 1) := by decide +kernel
theorem dM_play_102 : decode (am_by jM_play) 102 = .ok (.getfield 11, 3) := by decide +kernel
theorem dM_play_105 : decode (am_by jM_play) 105 = .ok (.aload_n 0, 1) := by decide +kernel
theorem dM_play_106 : decode (am_by jM_play) 106 = .ok (.getfield 41, 3) := by decide +kernel
theorem dM_play_109 : decode (am_by jM_play) 109 = .ok (.iconst 1, 1) := by decide +kernel
theorem dM_play_110 : decode (am_by jM_play) 110 = .ok (.isub, 1) := by decide +kernel
theorem dM_play_111 : decode (am_by jM_play) 111 = .ok (.aaload, 1) := by decide +kernel
theorem dM_play_112 : decode (am_by jM_play) 112 = .ok (.invokevirtual 64, 3) := by decide +kernel
theorem dM_play_115 : decode (am_by jM_play) 115 = .ok (.aload_n 0, 1) := by decide +kernel
theorem dM_play_116 : decode (am_by jM_play) 116 = .ok (.getfield 48, 3) := by decide +kernel
theorem dM_play_119 : decode (am_by jM_play) 119 = .ok (.ifCond .eq 7, 3) := by decide +kernel
theorem dM_play_122 : decode (am_by jM_play) 122 = .ok (.aload_n 0, 1) := by decide +kernel
theorem dM_play_123 : decode (am_by jM_play) 123 = .ok (.invokevirtual 68, 3) := by decide +kernel
theorem dM_play_126 : decode (am_by jM_play) 126 = .ok (.iinc 9 (-1), 3) := by decide +kernel
theorem dM_play_129 : decode (am_by jM_play) 129 = .ok (.goto (-59), 3) := by decide +kernel
theorem dM_play_132 : decode (am_by jM_play) 132 = .ok (.return_, 1) := by decide +kernel
theorem dM_openFrame_0 : decode (am_by jM_openFrame) 0 = .ok (.aload_n 0, 1) := by decide +kernel
theorem dM_openFrame_1 : decode (am_by jM_openFrame) 1 = .ok (.getfield 11, 3) := by decide +kernel
theorem dM_openFrame_4 : decode (am_by jM_openFrame) 4 = .ok (.aload_n 0, 1) := by decide +kernel
theorem dM_openFrame_5 : decode (am_by jM_openFrame) 5 = .ok (.getfield 41, 3) := by decide +kernel
theorem dM_openFrame_8 : decode (am_by jM_openFrame) 8 = .ok (.aaload, 1) := by decide +kernel
theorem dM_openFrame_9 : decode (am_by jM_openFrame) 9 = .ok (.astore_n 2, 1) := by decide +kernel
theorem dM_openFrame_10 : decode (am_by jM_openFrame) 10 = .ok (.aload_n 0, 1) := by decide +kernel
theorem dM_openFrame_11 : decode (am_by jM_openFrame) 11 = .ok (.dup, 1) := by decide +kernel
theorem dM_openFrame_12 : decode (am_by jM_openFrame) 12 = .ok (.getfield 41, 3) := by decide +kernel
theorem dM_openFrame_15 : decode (am_by jM_openFrame) 15 = .ok (.iconst 1, 1) := by decide +kernel
theorem dM_openFrame_16 : decode (am_by jM_openFrame) 16 = .ok (.iadd, 1) := by decide +kernel
theorem dM_openFrame_17 : decode (am_by jM_openFrame) 17 = .ok (.putfield 41, 3) := by decide +kernel
theorem dM_openFrame_20 : decode (am_by jM_openFrame) 20 = .ok (.aload_n 0, 1) := by decide +kernel
theorem dM_openFrame_21 : decode (am_by jM_openFrame) 21 = .ok (.getfield 32, 3) := by decide +kernel
theorem dM_openFrame_24 : decode (am_by jM_openFrame) 24 = .ok (.aload_n 0, 1) := by decide +kernel
theorem dM_openFrame_25 : decode (am_by jM_openFrame) 25 = .ok (.getfield 32, 3) := by decide +kernel
theorem dM_openFrame_28 : decode (am_by jM_openFrame) 28 = .ok (.getfield 71, 3) := by decide +kernel
theorem dM_openFrame_31 : decode (am_by jM_openFrame) 31 = .ok (.aload_n 0, 1) := by decide +kernel
theorem dM_openFrame_32 : decode (am_by jM_openFrame) 32 = .ok (.getfield 41, 3) := by decide +kernel
theorem dM_openFrame_35 : decode (am_by jM_openFrame) 35 = .ok (.invokestatic 74, 3) := by decide +kernel
theorem dM_openFrame_38 : decode (am_by jM_openFrame) 38 = .ok (.putfield 71, 3) := by decide +kernel
theorem dM_openFrame_41 : decode (am_by jM_openFrame) 41 = .ok (.aload_n 2, 1) := by decide +kernel
theorem dM_openFrame_42 : decode (am_by jM_openFrame) 42 = .ok (.iload_n 1, 1) := by decide +kernel
theorem dM_openFrame_43 : decode (am_by jM_openFrame) 43 = .ok (.aload_n 0, 1) := by decide +kernel
theorem dM_openFrame_44 : decode (am_by jM_openFrame) 44 = .ok (.getfield 45, 3) := by decide +kernel
theorem dM_openFrame_47 : decode (am_by jM_openFrame) 47 = .ok (.invokevirtual 80, 3) := by decide +kernel
theorem dM_openFrame_50 : decode (am_by jM_openFrame) 50 = .ok (.aload_n 0, 1) := by decide +kernel
theorem dM_openFrame_51 : decode (am_by jM_openFrame) 51 = .ok (.getfield 28, 3) := by decide +kernel
theorem dM_openFrame_54 : decode (am_by jM_openFrame) 54 = .ok (.getfield 84, 3) := by decide +kernel
theorem dM_openFrame_57 : decode (am_by jM_openFrame) 57 = .ok (.iload_n 1, 1) := by decide +kernel
theorem dM_openFrame_58 : decode (am_by jM_openFrame) 58 = .ok (.aaload, 1) := by decide +kernel
theorem dM_openFrame_59 : decode (am_by jM_openFrame) 59 = .ok (.getfield 90, 3) := by decide +kernel
theorem dM_openFrame_62 : decode (am_by jM_openFrame) 62 = .ok (.ifCond .eq 16, 3) := by decide +kernel
theorem dM_openFrame_65 : decode (am_by jM_openFrame) 65 = .ok (.aload_n 0, 1) := by decide +kernel
theorem dM_openFrame_66 : decode (am_by jM_openFrame) 66 = .ok (.getfield 32, 3) := by decide +kernel
theorem dM_openFrame_69 : decode (am_by jM_openFrame) 69 = .ok (.iconst 2, 1) := by decide +kernel
theorem dM_openFrame_70 : decode (am_by jM_openFrame) 70 = .ok (.sipush 4000, 3) := by decide +kernel
theorem dM_openFrame_73 : decode (am_by jM_openFrame) 73 = .ok (.iload_n 1, 1) := by decide +kernel
theorem dM_openFrame_74 : decode (am_by jM_openFrame) 74 = .ok (.iadd, 1) := by decide +kernel
theorem dM_openFrame_75 : decode (am_by jM_openFrame) 75 = .ok (.invokevirtual 96, 3) := by decide +kernel
theorem dM_openFrame_78 : decode (am_by jM_openFrame) 78 = .ok (.aload_n 2, 1) := by decide +kernel
theorem dM_openFrame_79 : decode (am_by jM_openFrame) 79 = .ok (.areturn, 1) := by decide +kernel
theorem dM_step_0 : decode (am_by jM_step) 0 = .ok (.aload_n 0, 1) := by decide +kernel
theorem dM_step_1 : decode (am_by jM_step) 1 = .ok (.getfield 28, 3) := by decide +kernel
theorem dM_step_4 : decode (am_by jM_step) 4 = .ok (.getfield 84, 3) := by decide +kernel
theorem dM_step_7 : decode (am_by jM_step) 7 = .ok (.aload_n 1, 1) := by decide +kernel
theorem dM_step_8 : decode (am_by jM_step) 8 = .ok (.getfield 99, 3) := by decide +kernel
theorem dM_step_11 : decode (am_by jM_step) 11 = .ok (.aaload, 1) := by decide +kernel
theorem dM_step_12 : decode (am_by jM_step) 12 = .ok (.astore_n 2, 1) := by decide +kernel
theorem dM_step_13 : decode (am_by jM_step) 13 = .ok (.aload_n 1, 1) := by decide +kernel
theorem dM_step_14 : decode (am_by jM_step) 14 = .ok (.getfield 102, 3) := by decide +kernel
theorem dM_step_17 : decode (am_by jM_step) 17 = .ok (.istore_n 3, 1) := by decide +kernel
theorem dM_step_18 : decode (am_by jM_step) 18 = .ok (.aload_n 1, 1) := by decide +kernel
theorem dM_step_19 : decode (am_by jM_step) 19 = .ok (.iload_n 3, 1) := by decide +kernel
theorem dM_step_20 : decode (am_by jM_step) 20 = .ok (.putfield 105, 3) := by decide +kernel
theorem dM_step_23 : decode (am_by jM_step) 23 = .ok (.aload_n 1, 1) := by decide +kernel
theorem dM_step_24 : decode (am_by jM_step) 24 = .ok (.iload_n 3, 1) := by decide +kernel
theorem dM_step_25 : decode (am_by jM_step) 25 = .ok (.iconst 1, 1) := by decide +kernel
theorem dM_step_26 : decode (am_by jM_step) 26 = .ok (.iadd, 1) := by decide +kernel
theorem dM_step_27 : decode (am_by jM_step) 27 = .ok (.putfield 102, 3) := by decide +kernel
theorem dM_step_30 : decode (am_by jM_step) 30 = .ok (.aload_n 2, 1) := by decide +kernel
theorem dM_step_31 : decode (am_by jM_step) 31 = .ok (.getfield 108, 3) := by decide +kernel
theorem dM_step_34 : decode (am_by jM_step) 34 = .ok (.iload_n 3, 1) := by decide +kernel
theorem dM_step_35 : decode (am_by jM_step) 35 = .ok (.iaload, 1) := by decide +kernel
theorem dM_step_36 : decode (am_by jM_step) 36 = .ok (.istore 4, 2) := by decide +kernel
theorem dM_step_38 : decode (am_by jM_step) 38 = .ok (.aload_n 2, 1) := by decide +kernel
theorem dM_step_39 : decode (am_by jM_step) 39 = .ok (.getfield 111, 3) := by decide +kernel
theorem dM_step_42 : decode (am_by jM_step) 42 = .ok (.iload_n 3, 1) := by decide +kernel
theorem dM_step_43 : decode (am_by jM_step) 43 = .ok (.iaload, 1) := by decide +kernel
theorem dM_step_44 : decode (am_by jM_step) 44 = .ok (.istore 5, 2) := by decide +kernel
theorem dM_step_46 : decode (am_by jM_step) 46 = .ok (.aload_n 2, 1) := by decide +kernel
theorem dM_step_47 : decode (am_by jM_step) 47 = .ok (.getfield 114, 3) := by decide +kernel
theorem dM_step_50 : decode (am_by jM_step) 50 = .ok (.iload_n 3, 1) := by decide +kernel
theorem dM_step_51 : decode (am_by jM_step) 51 = .ok (.iaload, 1) := by decide +kernel
theorem dM_step_52 : decode (am_by jM_step) 52 = .ok (.tableswitch 279 1 27 #[124, 133, 147, 265, 265, 265, 251, 251, 251, 251, 186, 186, 165, 173, 279, 279, 186, 279, 279, 279, 204, 214, 186, 147, 233, 279, 147], 124) := by decide +kernel
theorem dM_step_176 : decode (am_by jM_step) 176 = .ok (.aload_n 1, 1) := by decide +kernel
theorem dM_step_177 : decode (am_by jM_step) 177 = .ok (.iload 4, 2) := by decide +kernel
theorem dM_step_179 : decode (am_by jM_step) 179 = .ok (.invokevirtual 117, 3) := by decide +kernel
theorem dM_step_182 : decode (am_by jM_step) 182 = .ok (.goto 160, 3) := by decide +kernel
theorem dM_step_185 : decode (am_by jM_step) 185 = .ok (.aload_n 1, 1) := by decide +kernel
theorem dM_step_186 : decode (am_by jM_step) 186 = .ok (.aload_n 1, 1) := by decide +kernel
theorem dM_step_187 : decode (am_by jM_step) 187 = .ok (.getfield 55, 3) := by decide +kernel
theorem dM_step_190 : decode (am_by jM_step) 190 = .ok (.iload 4, 2) := by decide +kernel
theorem dM_step_192 : decode (am_by jM_step) 192 = .ok (.iaload, 1) := by decide +kernel
theorem dM_step_193 : decode (am_by jM_step) 193 = .ok (.invokevirtual 117, 3) := by decide +kernel
theorem dM_step_196 : decode (am_by jM_step) 196 = .ok (.goto 146, 3) := by decide +kernel
theorem dM_step_199 : decode (am_by jM_step) 199 = .ok (.aload_n 0, 1) := by decide +kernel
theorem dM_step_200 : decode (am_by jM_step) 200 = .ok (.aload_n 1, 1) := by decide +kernel
theorem dM_step_201 : decode (am_by jM_step) 201 = .ok (.aload_n 2, 1) := by decide +kernel
theorem dM_step_202 : decode (am_by jM_step) 202 = .ok (.getfield 114, 3) := by decide +kernel
theorem dM_step_205 : decode (am_by jM_step) 205 = .ok (.iload_n 3, 1) := by decide +kernel
theorem dM_step_206 : decode (am_by jM_step) 206 = .ok (.iaload, 1) := by decide +kernel
theorem dM_step_207 : decode (am_by jM_step) 207 = .ok (.iload 4, 2) := by decide +kernel
theorem dM_step_209 : decode (am_by jM_step) 209 = .ok (.iload 5, 2) := by decide +kernel
theorem dM_step_211 : decode (am_by jM_step) 211 = .ok (.invokevirtual 121, 3) := by decide +kernel
theorem dM_step_214 : decode (am_by jM_step) 214 = .ok (.goto 128, 3) := by decide +kernel
theorem dM_step_217 : decode (am_by jM_step) 217 = .ok (.aload_n 1, 1) := by decide +kernel
theorem dM_step_218 : decode (am_by jM_step) 218 = .ok (.iconst 0, 1) := by decide +kernel
theorem dM_step_219 : decode (am_by jM_step) 219 = .ok (.invokevirtual 117, 3) := by decide +kernel
theorem dM_step_222 : decode (am_by jM_step) 222 = .ok (.goto 120, 3) := by decide +kernel
theorem dM_step_225 : decode (am_by jM_step) 225 = .ok (.aload_n 1, 1) := by decide +kernel
theorem dM_step_226 : decode (am_by jM_step) 226 = .ok (.aload_n 0, 1) := by decide +kernel
theorem dM_step_227 : decode (am_by jM_step) 227 = .ok (.iload 4, 2) := by decide +kernel
theorem dM_step_229 : decode (am_by jM_step) 229 = .ok (.invokevirtual 125, 3) := by decide +kernel
theorem dM_step_232 : decode (am_by jM_step) 232 = .ok (.invokevirtual 117, 3) := by decide +kernel
theorem dM_step_235 : decode (am_by jM_step) 235 = .ok (.goto 107, 3) := by decide +kernel
theorem dM_step_238 : decode (am_by jM_step) 238 = .ok (.aload_n 0, 1) := by decide +kernel
theorem dM_step_239 : decode (am_by jM_step) 239 = .ok (.aload_n 1, 1) := by decide +kernel
theorem dM_step_240 : decode (am_by jM_step) 240 = .ok (.aload_n 2, 1) := by decide +kernel
theorem dM_step_241 : decode (am_by jM_step) 241 = .ok (.getfield 114, 3) := by decide +kernel
theorem dM_step_244 : decode (am_by jM_step) 244 = .ok (.iload_n 3, 1) := by decide +kernel
theorem dM_step_245 : decode (am_by jM_step) 245 = .ok (.iaload, 1) := by decide +kernel
theorem dM_step_246 : decode (am_by jM_step) 246 = .ok (.iload 4, 2) := by decide +kernel
theorem dM_step_248 : decode (am_by jM_step) 248 = .ok (.iload 5, 2) := by decide +kernel
theorem dM_step_250 : decode (am_by jM_step) 250 = .ok (.invokevirtual 129, 3) := by decide +kernel
theorem dM_step_253 : decode (am_by jM_step) 253 = .ok (.goto 89, 3) := by decide +kernel
theorem dM_step_256 : decode (am_by jM_step) 256 = .ok (.aload_n 0, 1) := by decide +kernel
theorem dM_step_257 : decode (am_by jM_step) 257 = .ok (.aload_n 1, 1) := by decide +kernel
theorem dM_step_258 : decode (am_by jM_step) 258 = .ok (.iload 4, 2) := by decide +kernel
theorem dM_step_260 : decode (am_by jM_step) 260 = .ok (.invokevirtual 132, 3) := by decide +kernel
theorem dM_step_263 : decode (am_by jM_step) 263 = .ok (.goto 79, 3) := by decide +kernel
theorem dM_step_266 : decode (am_by jM_step) 266 = .ok (.aload_n 1, 1) := by decide +kernel
theorem dM_step_267 : decode (am_by jM_step) 267 = .ok (.invokevirtual 136, 3) := by decide +kernel
theorem dM_step_270 : decode (am_by jM_step) 270 = .ok (.istore 6, 2) := by decide +kernel
theorem dM_step_272 : decode (am_by jM_step) 272 = .ok (.aload_n 0, 1) := by decide +kernel
theorem dM_step_273 : decode (am_by jM_step) 273 = .ok (.invokevirtual 140, 3) := by decide +kernel
theorem dM_step_276 : decode (am_by jM_step) 276 = .ok (.aload_n 0, 1) := by decide +kernel
theorem dM_step_277 : decode (am_by jM_step) 277 = .ok (.iload 6, 2) := by decide +kernel
theorem dM_step_279 : decode (am_by jM_step) 279 = .ok (.invokevirtual 143, 3) := by decide +kernel
theorem dM_step_282 : decode (am_by jM_step) 282 = .ok (.goto 60, 3) := by decide +kernel
theorem dM_step_285 : decode (am_by jM_step) 285 = .ok (.aload_n 0, 1) := by decide +kernel
theorem dM_step_286 : decode (am_by jM_step) 286 = .ok (.getfield 32, 3) := by decide +kernel
theorem dM_step_289 : decode (am_by jM_step) 289 = .ok (.iconst 0, 1) := by decide +kernel
theorem dM_step_290 : decode (am_by jM_step) 290 = .ok (.aload_n 1, 1) := by decide +kernel
theorem dM_step_291 : decode (am_by jM_step) 291 = .ok (.invokevirtual 136, 3) := by decide +kernel
theorem dM_step_294 : decode (am_by jM_step) 294 = .ok (.ldc 146, 2) := by decide +kernel
theorem dM_step_296 : decode (am_by jM_step) 296 = .ok (.iand, 1) := by decide +kernel
theorem dM_step_297 : decode (am_by jM_step) 297 = .ok (.invokevirtual 96, 3) := by decide +kernel
theorem dM_step_300 : decode (am_by jM_step) 300 = .ok (.goto 42, 3) := by decide +kernel
theorem dM_step_303 : decode (am_by jM_step) 303 = .ok (.aload_n 0, 1) := by decide +kernel
theorem dM_step_304 : decode (am_by jM_step) 304 = .ok (.aload_n 1, 1) := by decide +kernel
theorem dM_step_305 : decode (am_by jM_step) 305 = .ok (.aload_n 2, 1) := by decide +kernel
theorem dM_step_306 : decode (am_by jM_step) 306 = .ok (.getfield 114, 3) := by decide +kernel
theorem dM_step_309 : decode (am_by jM_step) 309 = .ok (.iload_n 3, 1) := by decide +kernel
theorem dM_step_310 : decode (am_by jM_step) 310 = .ok (.iaload, 1) := by decide +kernel
theorem dM_step_311 : decode (am_by jM_step) 311 = .ok (.invokevirtual 147, 3) := by decide +kernel
theorem dM_step_314 : decode (am_by jM_step) 314 = .ok (.goto 28, 3) := by decide +kernel
theorem dM_step_317 : decode (am_by jM_step) 317 = .ok (.aload_n 0, 1) := by decide +kernel
theorem dM_step_318 : decode (am_by jM_step) 318 = .ok (.aload_n 1, 1) := by decide +kernel
theorem dM_step_319 : decode (am_by jM_step) 319 = .ok (.aload_n 2, 1) := by decide +kernel
theorem dM_step_320 : decode (am_by jM_step) 320 = .ok (.getfield 114, 3) := by decide +kernel
theorem dM_step_323 : decode (am_by jM_step) 323 = .ok (.iload_n 3, 1) := by decide +kernel
theorem dM_step_324 : decode (am_by jM_step) 324 = .ok (.iaload, 1) := by decide +kernel
theorem dM_step_325 : decode (am_by jM_step) 325 = .ok (.invokevirtual 150, 3) := by decide +kernel
theorem dM_step_328 : decode (am_by jM_step) 328 = .ok (.goto 14, 3) := by decide +kernel
theorem dM_step_331 : decode (am_by jM_step) 331 = .ok (.aload_n 0, 1) := by decide +kernel
theorem dM_step_332 : decode (am_by jM_step) 332 = .ok (.aload_n 1, 1) := by decide +kernel
theorem dM_step_333 : decode (am_by jM_step) 333 = .ok (.aload_n 2, 1) := by decide +kernel
theorem dM_step_334 : decode (am_by jM_step) 334 = .ok (.getfield 114, 3) := by decide +kernel
theorem dM_step_337 : decode (am_by jM_step) 337 = .ok (.iload_n 3, 1) := by decide +kernel
theorem dM_step_338 : decode (am_by jM_step) 338 = .ok (.iaload, 1) := by decide +kernel
theorem dM_step_339 : decode (am_by jM_step) 339 = .ok (.invokevirtual 153, 3) := by decide +kernel
theorem dM_step_342 : decode (am_by jM_step) 342 = .ok (.return_, 1) := by decide +kernel
theorem dM_useLocal_0 : decode (am_by jM_useLocal) 0 = .ok (.iload_n 2, 1) := by decide +kernel
theorem dM_useLocal_1 : decode (am_by jM_useLocal) 1 = .ok (.iconst 3, 1) := by decide +kernel
theorem dM_useLocal_2 : decode (am_by jM_useLocal) 2 = .ok (.if_icmp .ne 16, 3) := by decide +kernel
theorem dM_useLocal_5 : decode (am_by jM_useLocal) 5 = .ok (.aload_n 1, 1) := by decide +kernel
theorem dM_useLocal_6 : decode (am_by jM_useLocal) 6 = .ok (.getfield 55, 3) := by decide +kernel
theorem dM_useLocal_9 : decode (am_by jM_useLocal) 9 = .ok (.iload_n 3, 1) := by decide +kernel
theorem dM_useLocal_10 : decode (am_by jM_useLocal) 10 = .ok (.aload_n 1, 1) := by decide +kernel
theorem dM_useLocal_11 : decode (am_by jM_useLocal) 11 = .ok (.invokevirtual 136, 3) := by decide +kernel
theorem dM_useLocal_14 : decode (am_by jM_useLocal) 14 = .ok (.iastore, 1) := by decide +kernel
theorem dM_useLocal_15 : decode (am_by jM_useLocal) 15 = .ok (.goto 33, 3) := by decide +kernel
theorem dM_useLocal_18 : decode (am_by jM_useLocal) 18 = .ok (.iload_n 2, 1) := by decide +kernel
theorem dM_useLocal_19 : decode (am_by jM_useLocal) 19 = .ok (.bipush 27, 2) := by decide +kernel
theorem dM_useLocal_21 : decode (am_by jM_useLocal) 21 = .ok (.if_icmp .ne 17, 3) := by decide +kernel
theorem dM_useLocal_24 : decode (am_by jM_useLocal) 24 = .ok (.aload_n 1, 1) := by decide +kernel
theorem dM_useLocal_25 : decode (am_by jM_useLocal) 25 = .ok (.getfield 55, 3) := by decide +kernel
theorem dM_useLocal_28 : decode (am_by jM_useLocal) 28 = .ok (.iload_n 3, 1) := by decide +kernel
theorem dM_useLocal_29 : decode (am_by jM_useLocal) 29 = .ok (.dup2, 1) := by decide +kernel
theorem dM_useLocal_30 : decode (am_by jM_useLocal) 30 = .ok (.iaload, 1) := by decide +kernel
theorem dM_useLocal_31 : decode (am_by jM_useLocal) 31 = .ok (.iload 4, 2) := by decide +kernel
theorem dM_useLocal_33 : decode (am_by jM_useLocal) 33 = .ok (.iadd, 1) := by decide +kernel
theorem dM_useLocal_34 : decode (am_by jM_useLocal) 34 = .ok (.iastore, 1) := by decide +kernel
theorem dM_useLocal_35 : decode (am_by jM_useLocal) 35 = .ok (.goto 13, 3) := by decide +kernel
theorem dM_useLocal_38 : decode (am_by jM_useLocal) 38 = .ok (.aload_n 1, 1) := by decide +kernel
theorem dM_useLocal_39 : decode (am_by jM_useLocal) 39 = .ok (.aload_n 1, 1) := by decide +kernel
theorem dM_useLocal_40 : decode (am_by jM_useLocal) 40 = .ok (.getfield 55, 3) := by decide +kernel
theorem dM_useLocal_43 : decode (am_by jM_useLocal) 43 = .ok (.iload_n 3, 1) := by decide +kernel
theorem dM_useLocal_44 : decode (am_by jM_useLocal) 44 = .ok (.iaload, 1) := by decide +kernel
theorem dM_useLocal_45 : decode (am_by jM_useLocal) 45 = .ok (.putfield 102, 3) := by decide +kernel
theorem dM_useLocal_48 : decode (am_by jM_useLocal) 48 = .ok (.return_, 1) := by decide +kernel
theorem dM_shuffle_0 : decode (am_by jM_shuffle) 0 = .ok (.aload_n 1, 1) := by decide +kernel
theorem dM_shuffle_1 : decode (am_by jM_shuffle) 1 = .ok (.invokevirtual 136, 3) := by decide +kernel
theorem dM_shuffle_4 : decode (am_by jM_shuffle) 4 = .ok (.istore_n 3, 1) := by decide +kernel
theorem dM_shuffle_5 : decode (am_by jM_shuffle) 5 = .ok (.iload_n 2, 1) := by decide +kernel
theorem dM_shuffle_6 : decode (am_by jM_shuffle) 6 = .ok (.iconst 5, 1) := by decide +kernel
theorem dM_shuffle_7 : decode (am_by jM_shuffle) 7 = .ok (.if_icmp .ne 16, 3) := by decide +kernel
theorem dM_shuffle_10 : decode (am_by jM_shuffle) 10 = .ok (.aload_n 1, 1) := by decide +kernel
theorem dM_shuffle_11 : decode (am_by jM_shuffle) 11 = .ok (.iload_n 3, 1) := by decide +kernel
theorem dM_shuffle_12 : decode (am_by jM_shuffle) 12 = .ok (.invokevirtual 117, 3) := by decide +kernel
theorem dM_shuffle_15 : decode (am_by jM_shuffle) 15 = .ok (.aload_n 1, 1) := by decide +kernel
theorem dM_shuffle_16 : decode (am_by jM_shuffle) 16 = .ok (.iload_n 3, 1) := by decide +kernel
theorem dM_shuffle_17 : decode (am_by jM_shuffle) 17 = .ok (.invokevirtual 117, 3) := by decide +kernel
theorem dM_shuffle_20 : decode (am_by jM_shuffle) 20 = .ok (.goto 26, 3) := by decide +kernel
theorem dM_shuffle_23 : decode (am_by jM_shuffle) 23 = .ok (.iload_n 2, 1) := by decide +kernel
theorem dM_shuffle_24 : decode (am_by jM_shuffle) 24 = .ok (.bipush 6, 2) := by decide +kernel
theorem dM_shuffle_26 : decode (am_by jM_shuffle) 26 = .ok (.if_icmp .ne 20, 3) := by decide +kernel
theorem dM_shuffle_29 : decode (am_by jM_shuffle) 29 = .ok (.aload_n 1, 1) := by decide +kernel
theorem dM_shuffle_30 : decode (am_by jM_shuffle) 30 = .ok (.invokevirtual 136, 3) := by decide +kernel
theorem dM_shuffle_33 : decode (am_by jM_shuffle) 33 = .ok (.istore 4, 2) := by decide +kernel
theorem dM_shuffle_35 : decode (am_by jM_shuffle) 35 = .ok (.aload_n 1, 1) := by decide +kernel
theorem dM_shuffle_36 : decode (am_by jM_shuffle) 36 = .ok (.iload_n 3, 1) := by decide +kernel
theorem dM_shuffle_37 : decode (am_by jM_shuffle) 37 = .ok (.invokevirtual 117, 3) := by decide +kernel
theorem dM_shuffle_40 : decode (am_by jM_shuffle) 40 = .ok (.aload_n 1, 1) := by decide +kernel
theorem dM_shuffle_41 : decode (am_by jM_shuffle) 41 = .ok (.iload 4, 2) := by decide +kernel
theorem dM_shuffle_43 : decode (am_by jM_shuffle) 43 = .ok (.invokevirtual 117, 3) := by decide +kernel
theorem dM_shuffle_46 : decode (am_by jM_shuffle) 46 = .ok (.return_, 1) := by decide +kernel
theorem dM_reckon_0 : decode (am_by jM_reckon) 0 = .ok (.aload_n 1, 1) := by decide +kernel
theorem dM_reckon_1 : decode (am_by jM_reckon) 1 = .ok (.invokevirtual 136, 3) := by decide +kernel
theorem dM_reckon_4 : decode (am_by jM_reckon) 4 = .ok (.istore_n 3, 1) := by decide +kernel
theorem dM_reckon_5 : decode (am_by jM_reckon) 5 = .ok (.aload_n 1, 1) := by decide +kernel
theorem dM_reckon_6 : decode (am_by jM_reckon) 6 = .ok (.invokevirtual 136, 3) := by decide +kernel
theorem dM_reckon_9 : decode (am_by jM_reckon) 9 = .ok (.istore 4, 2) := by decide +kernel
theorem dM_reckon_11 : decode (am_by jM_reckon) 11 = .ok (.iload_n 2, 1) := by decide +kernel
theorem dM_reckon_12 : decode (am_by jM_reckon) 12 = .ok (.bipush 7, 2) := by decide +kernel
theorem dM_reckon_14 : decode (am_by jM_reckon) 14 = .ok (.if_icmp .ne 14, 3) := by decide +kernel
theorem dM_reckon_17 : decode (am_by jM_reckon) 17 = .ok (.aload_n 1, 1) := by decide +kernel
theorem dM_reckon_18 : decode (am_by jM_reckon) 18 = .ok (.iload 4, 2) := by decide +kernel
theorem dM_reckon_20 : decode (am_by jM_reckon) 20 = .ok (.iload_n 3, 1) := by decide +kernel
theorem dM_reckon_21 : decode (am_by jM_reckon) 21 = .ok (.iadd, 1) := by decide +kernel
theorem dM_reckon_22 : decode (am_by jM_reckon) 22 = .ok (.invokevirtual 117, 3) := by decide +kernel
theorem dM_reckon_25 : decode (am_by jM_reckon) 25 = .ok (.goto 57, 3) := by decide +kernel
theorem dM_reckon_28 : decode (am_by jM_reckon) 28 = .ok (.iload_n 2, 1) := by decide +kernel
theorem dM_reckon_29 : decode (am_by jM_reckon) 29 = .ok (.bipush 8, 2) := by decide +kernel
theorem dM_reckon_31 : decode (am_by jM_reckon) 31 = .ok (.if_icmp .ne 14, 3) := by decide +kernel
theorem dM_reckon_34 : decode (am_by jM_reckon) 34 = .ok (.aload_n 1, 1) := by decide +kernel
theorem dM_reckon_35 : decode (am_by jM_reckon) 35 = .ok (.iload 4, 2) := by decide +kernel
theorem dM_reckon_37 : decode (am_by jM_reckon) 37 = .ok (.iload_n 3, 1) := by decide +kernel
theorem dM_reckon_38 : decode (am_by jM_reckon) 38 = .ok (.isub, 1) := by decide +kernel
theorem dM_reckon_39 : decode (am_by jM_reckon) 39 = .ok (.invokevirtual 117, 3) := by decide +kernel
theorem dM_reckon_42 : decode (am_by jM_reckon) 42 = .ok (.goto 40, 3) := by decide +kernel
theorem dM_reckon_45 : decode (am_by jM_reckon) 45 = .ok (.iload_n 2, 1) := by decide +kernel
theorem dM_reckon_46 : decode (am_by jM_reckon) 46 = .ok (.bipush 9, 2) := by decide +kernel
theorem dM_reckon_48 : decode (am_by jM_reckon) 48 = .ok (.if_icmp .ne 14, 3) := by decide +kernel
theorem dM_reckon_51 : decode (am_by jM_reckon) 51 = .ok (.aload_n 1, 1) := by decide +kernel
theorem dM_reckon_52 : decode (am_by jM_reckon) 52 = .ok (.iload 4, 2) := by decide +kernel
theorem dM_reckon_54 : decode (am_by jM_reckon) 54 = .ok (.iload_n 3, 1) := by decide +kernel
theorem dM_reckon_55 : decode (am_by jM_reckon) 55 = .ok (.imul, 1) := by decide +kernel
theorem dM_reckon_56 : decode (am_by jM_reckon) 56 = .ok (.invokevirtual 117, 3) := by decide +kernel
theorem dM_reckon_59 : decode (am_by jM_reckon) 59 = .ok (.goto 23, 3) := by decide +kernel
theorem dM_reckon_62 : decode (am_by jM_reckon) 62 = .ok (.iload_n 3, 1) := by decide +kernel
theorem dM_reckon_63 : decode (am_by jM_reckon) 63 = .ok (.ifCond .eq 14, 3) := by decide +kernel
theorem dM_reckon_66 : decode (am_by jM_reckon) 66 = .ok (.aload_n 1, 1) := by decide +kernel
theorem dM_reckon_67 : decode (am_by jM_reckon) 67 = .ok (.iload 4, 2) := by decide +kernel
theorem dM_reckon_69 : decode (am_by jM_reckon) 69 = .ok (.iload_n 3, 1) := by decide +kernel
theorem dM_reckon_70 : decode (am_by jM_reckon) 70 = .ok (.idiv, 1) := by decide +kernel
theorem dM_reckon_71 : decode (am_by jM_reckon) 71 = .ok (.invokevirtual 117, 3) := by decide +kernel
theorem dM_reckon_74 : decode (am_by jM_reckon) 74 = .ok (.goto 8, 3) := by decide +kernel
theorem dM_reckon_77 : decode (am_by jM_reckon) 77 = .ok (.aload_n 0, 1) := by decide +kernel
theorem dM_reckon_78 : decode (am_by jM_reckon) 78 = .ok (.iconst 1, 1) := by decide +kernel
theorem dM_reckon_79 : decode (am_by jM_reckon) 79 = .ok (.invokevirtual 156, 3) := by decide +kernel
theorem dM_reckon_82 : decode (am_by jM_reckon) 82 = .ok (.return_, 1) := by decide +kernel
theorem dM_turn_0 : decode (am_by jM_turn) 0 = .ok (.iconst 1, 1) := by decide +kernel
theorem dM_turn_1 : decode (am_by jM_turn) 1 = .ok (.istore 5, 2) := by decide +kernel
theorem dM_turn_3 : decode (am_by jM_turn) 3 = .ok (.iload_n 2, 1) := by decide +kernel
theorem dM_turn_4 : decode (am_by jM_turn) 4 = .ok (.bipush 12, 2) := by decide +kernel
theorem dM_turn_6 : decode (am_by jM_turn) 6 = .ok (.if_icmp .ne 16, 3) := by decide +kernel
theorem dM_turn_9 : decode (am_by jM_turn) 9 = .ok (.iload_n 3, 1) := by decide +kernel
theorem dM_turn_10 : decode (am_by jM_turn) 10 = .ok (.aload_n 1, 1) := by decide +kernel
theorem dM_turn_11 : decode (am_by jM_turn) 11 = .ok (.invokevirtual 136, 3) := by decide +kernel
theorem dM_turn_14 : decode (am_by jM_turn) 14 = .ok (.invokestatic 159, 3) := by decide +kernel
theorem dM_turn_17 : decode (am_by jM_turn) 17 = .ok (.istore 5, 2) := by decide +kernel
theorem dM_turn_19 : decode (am_by jM_turn) 19 = .ok (.goto 40, 3) := by decide +kernel
theorem dM_turn_22 : decode (am_by jM_turn) 22 = .ok (.iload_n 2, 1) := by decide +kernel
theorem dM_turn_23 : decode (am_by jM_turn) 23 = .ok (.bipush 17, 2) := by decide +kernel
theorem dM_turn_25 : decode (am_by jM_turn) 25 = .ok (.if_icmp .ne 20, 3) := by decide +kernel
theorem dM_turn_28 : decode (am_by jM_turn) 28 = .ok (.aload_n 1, 1) := by decide +kernel
theorem dM_turn_29 : decode (am_by jM_turn) 29 = .ok (.invokevirtual 136, 3) := by decide +kernel
theorem dM_turn_32 : decode (am_by jM_turn) 32 = .ok (.ifCond .ne 7, 3) := by decide +kernel
theorem dM_turn_35 : decode (am_by jM_turn) 35 = .ok (.iconst 1, 1) := by decide +kernel
theorem dM_turn_36 : decode (am_by jM_turn) 36 = .ok (.goto 4, 3) := by decide +kernel
theorem dM_turn_39 : decode (am_by jM_turn) 39 = .ok (.iconst 0, 1) := by decide +kernel
theorem dM_turn_40 : decode (am_by jM_turn) 40 = .ok (.istore 5, 2) := by decide +kernel
theorem dM_turn_42 : decode (am_by jM_turn) 42 = .ok (.goto 17, 3) := by decide +kernel
theorem dM_turn_45 : decode (am_by jM_turn) 45 = .ok (.iload_n 2, 1) := by decide +kernel
theorem dM_turn_46 : decode (am_by jM_turn) 46 = .ok (.bipush 23, 2) := by decide +kernel
theorem dM_turn_48 : decode (am_by jM_turn) 48 = .ok (.if_icmp .ne 11, 3) := by decide +kernel
theorem dM_turn_51 : decode (am_by jM_turn) 51 = .ok (.aload_n 1, 1) := by decide +kernel
theorem dM_turn_52 : decode (am_by jM_turn) 52 = .ok (.aload_n 1, 1) := by decide +kernel
theorem dM_turn_53 : decode (am_by jM_turn) 53 = .ok (.getfield 102, 3) := by decide +kernel
theorem dM_turn_56 : decode (am_by jM_turn) 56 = .ok (.invokevirtual 117, 3) := by decide +kernel
theorem dM_turn_59 : decode (am_by jM_turn) 59 = .ok (.iload 5, 2) := by decide +kernel
theorem dM_turn_61 : decode (am_by jM_turn) 61 = .ok (.ifCond .eq 9, 3) := by decide +kernel
theorem dM_turn_64 : decode (am_by jM_turn) 64 = .ok (.aload_n 1, 1) := by decide +kernel
theorem dM_turn_65 : decode (am_by jM_turn) 65 = .ok (.iload 4, 2) := by decide +kernel
theorem dM_turn_67 : decode (am_by jM_turn) 67 = .ok (.putfield 102, 3) := by decide +kernel
theorem dM_turn_70 : decode (am_by jM_turn) 70 = .ok (.return_, 1) := by decide +kernel
theorem dM_holds_0 : decode (am_by jM_holds) 0 = .ok (.iload_n 0, 1) := by decide +kernel
theorem dM_holds_1 : decode (am_by jM_holds) 1 = .ok (.ifCond .ne 13, 3) := by decide +kernel
theorem dM_holds_4 : decode (am_by jM_holds) 4 = .ok (.iload_n 1, 1) := by decide +kernel
theorem dM_holds_5 : decode (am_by jM_holds) 5 = .ok (.ifCond .ne 7, 3) := by decide +kernel
theorem dM_holds_8 : decode (am_by jM_holds) 8 = .ok (.iconst 1, 1) := by decide +kernel
theorem dM_holds_9 : decode (am_by jM_holds) 9 = .ok (.goto 4, 3) := by decide +kernel
theorem dM_holds_12 : decode (am_by jM_holds) 12 = .ok (.iconst 0, 1) := by decide +kernel
theorem dM_holds_13 : decode (am_by jM_holds) 13 = .ok (.ireturn, 1) := by decide +kernel
theorem dM_holds_14 : decode (am_by jM_holds) 14 = .ok (.iload_n 0, 1) := by decide +kernel
theorem dM_holds_15 : decode (am_by jM_holds) 15 = .ok (.iconst 1, 1) := by decide +kernel
theorem dM_holds_16 : decode (am_by jM_holds) 16 = .ok (.if_icmp .ne 15, 3) := by decide +kernel
theorem dM_holds_19 : decode (am_by jM_holds) 19 = .ok (.iload_n 1, 1) := by decide +kernel
theorem dM_holds_20 : decode (am_by jM_holds) 20 = .ok (.ifCond .eq 7, 3) := by decide +kernel
theorem dM_holds_23 : decode (am_by jM_holds) 23 = .ok (.iconst 1, 1) := by decide +kernel
theorem dM_holds_24 : decode (am_by jM_holds) 24 = .ok (.goto 16, 3) := by decide +kernel
theorem dM_holds_27 : decode (am_by jM_holds) 27 = .ok (.iconst 0, 1) := by decide +kernel
theorem dM_holds_28 : decode (am_by jM_holds) 28 = .ok (.goto 12, 3) := by decide +kernel
theorem dM_holds_31 : decode (am_by jM_holds) 31 = .ok (.iload_n 1, 1) := by decide +kernel
theorem dM_holds_32 : decode (am_by jM_holds) 32 = .ok (.ifCond .ge 7, 3) := by decide +kernel
theorem dM_holds_35 : decode (am_by jM_holds) 35 = .ok (.iconst 1, 1) := by decide +kernel
theorem dM_holds_36 : decode (am_by jM_holds) 36 = .ok (.goto 4, 3) := by decide +kernel
theorem dM_holds_39 : decode (am_by jM_holds) 39 = .ok (.iconst 0, 1) := by decide +kernel
theorem dM_holds_40 : decode (am_by jM_holds) 40 = .ok (.ireturn, 1) := by decide +kernel
theorem dM_useObject_0 : decode (am_by jM_useObject) 0 = .ok (.iload_n 2, 1) := by decide +kernel
theorem dM_useObject_1 : decode (am_by jM_useObject) 1 = .ok (.bipush 15, 2) := by decide +kernel
theorem dM_useObject_3 : decode (am_by jM_useObject) 3 = .ok (.if_icmp .lt 9, 3) := by decide +kernel
theorem dM_useObject_6 : decode (am_by jM_useObject) 6 = .ok (.iload_n 2, 1) := by decide +kernel
theorem dM_useObject_7 : decode (am_by jM_useObject) 7 = .ok (.bipush 20, 2) := by decide +kernel
theorem dM_useObject_9 : decode (am_by jM_useObject) 9 = .ok (.if_icmp .le 9, 3) := by decide +kernel
theorem dM_useObject_12 : decode (am_by jM_useObject) 12 = .ok (.iload_n 2, 1) := by decide +kernel
theorem dM_useObject_13 : decode (am_by jM_useObject) 13 = .ok (.bipush 26, 2) := by decide +kernel
theorem dM_useObject_15 : decode (am_by jM_useObject) 15 = .ok (.if_icmp .ne 7, 3) := by decide +kernel
theorem dM_useObject_18 : decode (am_by jM_useObject) 18 = .ok (.iconst 1, 1) := by decide +kernel
theorem dM_useObject_19 : decode (am_by jM_useObject) 19 = .ok (.goto 4, 3) := by decide +kernel
theorem dM_useObject_22 : decode (am_by jM_useObject) 22 = .ok (.iconst 0, 1) := by decide +kernel
theorem dM_useObject_23 : decode (am_by jM_useObject) 23 = .ok (.istore_n 3, 1) := by decide +kernel
theorem dM_useObject_24 : decode (am_by jM_useObject) 24 = .ok (.iload_n 3, 1) := by decide +kernel
theorem dM_useObject_25 : decode (am_by jM_useObject) 25 = .ok (.ifCond .ne 4, 3) := by decide +kernel
theorem dM_useObject_28 : decode (am_by jM_useObject) 28 = .ok (.return_, 1) := by decide +kernel
theorem dM_useObject_29 : decode (am_by jM_useObject) 29 = .ok (.iload_n 2, 1) := by decide +kernel
theorem dM_useObject_30 : decode (am_by jM_useObject) 30 = .ok (.bipush 16, 2) := by decide +kernel
theorem dM_useObject_32 : decode (am_by jM_useObject) 32 = .ok (.if_icmp .ne 10, 3) := by decide +kernel
theorem dM_useObject_35 : decode (am_by jM_useObject) 35 = .ok (.aload_n 1, 1) := by decide +kernel
theorem dM_useObject_36 : decode (am_by jM_useObject) 36 = .ok (.invokevirtual 136, 3) := by decide +kernel
theorem dM_useObject_39 : decode (am_by jM_useObject) 39 = .ok (.goto 4, 3) := by decide +kernel
theorem dM_useObject_42 : decode (am_by jM_useObject) 42 = .ok (.iconst 0, 1) := by decide +kernel
theorem dM_useObject_43 : decode (am_by jM_useObject) 43 = .ok (.istore 4, 2) := by decide +kernel
theorem dM_useObject_45 : decode (am_by jM_useObject) 45 = .ok (.aload_n 1, 1) := by decide +kernel
theorem dM_useObject_46 : decode (am_by jM_useObject) 46 = .ok (.invokevirtual 136, 3) := by decide +kernel
theorem dM_useObject_49 : decode (am_by jM_useObject) 49 = .ok (.istore 5, 2) := by decide +kernel
theorem dM_useObject_51 : decode (am_by jM_useObject) 51 = .ok (.iload 5, 2) := by decide +kernel
theorem dM_useObject_53 : decode (am_by jM_useObject) 53 = .ok (.ifCond .ne 11, 3) := by decide +kernel
theorem dM_useObject_56 : decode (am_by jM_useObject) 56 = .ok (.aload_n 0, 1) := by decide +kernel
theorem dM_useObject_57 : decode (am_by jM_useObject) 57 = .ok (.iconst 2, 1) := by decide +kernel
theorem dM_useObject_58 : decode (am_by jM_useObject) 58 = .ok (.invokevirtual 156, 3) := by decide +kernel
theorem dM_useObject_61 : decode (am_by jM_useObject) 61 = .ok (.goto 106, 3) := by decide +kernel
theorem dM_useObject_64 : decode (am_by jM_useObject) 64 = .ok (.iload_n 2, 1) := by decide +kernel
theorem dM_useObject_65 : decode (am_by jM_useObject) 65 = .ok (.bipush 15, 2) := by decide +kernel
theorem dM_useObject_67 : decode (am_by jM_useObject) 67 = .ok (.if_icmp .ne 17, 3) := by decide +kernel
theorem dM_useObject_70 : decode (am_by jM_useObject) 70 = .ok (.aload_n 1, 1) := by decide +kernel
theorem dM_useObject_71 : decode (am_by jM_useObject) 71 = .ok (.aload_n 0, 1) := by decide +kernel
theorem dM_useObject_72 : decode (am_by jM_useObject) 72 = .ok (.getfield 21, 3) := by decide +kernel
theorem dM_useObject_75 : decode (am_by jM_useObject) 75 = .ok (.iload 5, 2) := by decide +kernel
theorem dM_useObject_77 : decode (am_by jM_useObject) 77 = .ok (.iaload, 1) := by decide +kernel
theorem dM_useObject_78 : decode (am_by jM_useObject) 78 = .ok (.invokevirtual 117, 3) := by decide +kernel
theorem dM_useObject_81 : decode (am_by jM_useObject) 81 = .ok (.goto 86, 3) := by decide +kernel
theorem dM_useObject_84 : decode (am_by jM_useObject) 84 = .ok (.iload_n 2, 1) := by decide +kernel
theorem dM_useObject_85 : decode (am_by jM_useObject) 85 = .ok (.bipush 16, 2) := by decide +kernel
theorem dM_useObject_87 : decode (am_by jM_useObject) 87 = .ok (.if_icmp .ne 15, 3) := by decide +kernel
theorem dM_useObject_90 : decode (am_by jM_useObject) 90 = .ok (.aload_n 0, 1) := by decide +kernel
theorem dM_useObject_91 : decode (am_by jM_useObject) 91 = .ok (.getfield 21, 3) := by decide +kernel
theorem dM_useObject_94 : decode (am_by jM_useObject) 94 = .ok (.iload 5, 2) := by decide +kernel
theorem dM_useObject_96 : decode (am_by jM_useObject) 96 = .ok (.iload 4, 2) := by decide +kernel
theorem dM_useObject_98 : decode (am_by jM_useObject) 98 = .ok (.iastore, 1) := by decide +kernel
theorem dM_useObject_99 : decode (am_by jM_useObject) 99 = .ok (.goto 68, 3) := by decide +kernel
theorem dM_useObject_102 : decode (am_by jM_useObject) 102 = .ok (.iload_n 2, 1) := by decide +kernel
theorem dM_useObject_103 : decode (am_by jM_useObject) 103 = .ok (.bipush 26, 2) := by decide +kernel
theorem dM_useObject_105 : decode (am_by jM_useObject) 105 = .ok (.if_icmp .ne 17, 3) := by decide +kernel
theorem dM_useObject_108 : decode (am_by jM_useObject) 108 = .ok (.aload_n 1, 1) := by decide +kernel
theorem dM_useObject_109 : decode (am_by jM_useObject) 109 = .ok (.aload_n 0, 1) := by decide +kernel
theorem dM_useObject_110 : decode (am_by jM_useObject) 110 = .ok (.getfield 17, 3) := by decide +kernel
theorem dM_useObject_113 : decode (am_by jM_useObject) 113 = .ok (.iload 5, 2) := by decide +kernel
theorem dM_useObject_115 : decode (am_by jM_useObject) 115 = .ok (.iaload, 1) := by decide +kernel
theorem dM_useObject_116 : decode (am_by jM_useObject) 116 = .ok (.invokevirtual 117, 3) := by decide +kernel
theorem dM_useObject_119 : decode (am_by jM_useObject) 119 = .ok (.goto 48, 3) := by decide +kernel
theorem dM_useObject_122 : decode (am_by jM_useObject) 122 = .ok (.iload_n 2, 1) := by decide +kernel
theorem dM_useObject_123 : decode (am_by jM_useObject) 123 = .ok (.bipush 18, 2) := by decide +kernel
theorem dM_useObject_125 : decode (am_by jM_useObject) 125 = .ok (.if_icmp .ne 12, 3) := by decide +kernel
theorem dM_useObject_128 : decode (am_by jM_useObject) 128 = .ok (.aload_n 0, 1) := by decide +kernel
theorem dM_useObject_129 : decode (am_by jM_useObject) 129 = .ok (.iload 5, 2) := by decide +kernel
theorem dM_useObject_131 : decode (am_by jM_useObject) 131 = .ok (.invokevirtual 163, 3) := by decide +kernel
theorem dM_useObject_134 : decode (am_by jM_useObject) 134 = .ok (.goto 33, 3) := by decide +kernel
theorem dM_useObject_137 : decode (am_by jM_useObject) 137 = .ok (.iload_n 2, 1) := by decide +kernel
theorem dM_useObject_138 : decode (am_by jM_useObject) 138 = .ok (.bipush 20, 2) := by decide +kernel
theorem dM_useObject_140 : decode (am_by jM_useObject) 140 = .ok (.if_icmp .ne 12, 3) := by decide +kernel
theorem dM_useObject_143 : decode (am_by jM_useObject) 143 = .ok (.aload_n 0, 1) := by decide +kernel
theorem dM_useObject_144 : decode (am_by jM_useObject) 144 = .ok (.iload 5, 2) := by decide +kernel
theorem dM_useObject_146 : decode (am_by jM_useObject) 146 = .ok (.invokevirtual 166, 3) := by decide +kernel
theorem dM_useObject_149 : decode (am_by jM_useObject) 149 = .ok (.goto 18, 3) := by decide +kernel
theorem dM_useObject_152 : decode (am_by jM_useObject) 152 = .ok (.aload_n 0, 1) := by decide +kernel
theorem dM_useObject_153 : decode (am_by jM_useObject) 153 = .ok (.aload_n 1, 1) := by decide +kernel
theorem dM_useObject_154 : decode (am_by jM_useObject) 154 = .ok (.iload 5, 2) := by decide +kernel
theorem dM_useObject_156 : decode (am_by jM_useObject) 156 = .ok (.invokevirtual 169, 3) := by decide +kernel
theorem dM_useObject_159 : decode (am_by jM_useObject) 159 = .ok (.ifCond .ne 8, 3) := by decide +kernel
theorem dM_useObject_162 : decode (am_by jM_useObject) 162 = .ok (.aload_n 0, 1) := by decide +kernel
theorem dM_useObject_163 : decode (am_by jM_useObject) 163 = .ok (.iconst 3, 1) := by decide +kernel
theorem dM_useObject_164 : decode (am_by jM_useObject) 164 = .ok (.invokevirtual 156, 3) := by decide +kernel
theorem dM_useObject_167 : decode (am_by jM_useObject) 167 = .ok (.return_, 1) := by decide +kernel
theorem dM_enterLock_0 : decode (am_by jM_enterLock) 0 = .ok (.aload_n 0, 1) := by decide +kernel
theorem dM_enterLock_1 : decode (am_by jM_enterLock) 1 = .ok (.getfield 45, 3) := by decide +kernel
theorem dM_enterLock_4 : decode (am_by jM_enterLock) 4 = .ok (.aload_n 0, 1) := by decide +kernel
theorem dM_enterLock_5 : decode (am_by jM_enterLock) 5 = .ok (.getfield 24, 3) := by decide +kernel
theorem dM_enterLock_8 : decode (am_by jM_enterLock) 8 = .ok (.arraylength, 1) := by decide +kernel
theorem dM_enterLock_9 : decode (am_by jM_enterLock) 9 = .ok (.if_icmp .ge 23, 3) := by decide +kernel
theorem dM_enterLock_12 : decode (am_by jM_enterLock) 12 = .ok (.aload_n 0, 1) := by decide +kernel
theorem dM_enterLock_13 : decode (am_by jM_enterLock) 13 = .ok (.getfield 24, 3) := by decide +kernel
theorem dM_enterLock_16 : decode (am_by jM_enterLock) 16 = .ok (.aload_n 0, 1) := by decide +kernel
theorem dM_enterLock_17 : decode (am_by jM_enterLock) 17 = .ok (.getfield 45, 3) := by decide +kernel
theorem dM_enterLock_20 : decode (am_by jM_enterLock) 20 = .ok (.iload_n 1, 1) := by decide +kernel
theorem dM_enterLock_21 : decode (am_by jM_enterLock) 21 = .ok (.iastore, 1) := by decide +kernel
theorem dM_enterLock_22 : decode (am_by jM_enterLock) 22 = .ok (.aload_n 0, 1) := by decide +kernel
theorem dM_enterLock_23 : decode (am_by jM_enterLock) 23 = .ok (.dup, 1) := by decide +kernel
theorem dM_enterLock_24 : decode (am_by jM_enterLock) 24 = .ok (.getfield 45, 3) := by decide +kernel
theorem dM_enterLock_27 : decode (am_by jM_enterLock) 27 = .ok (.iconst 1, 1) := by decide +kernel
theorem dM_enterLock_28 : decode (am_by jM_enterLock) 28 = .ok (.iadd, 1) := by decide +kernel
theorem dM_enterLock_29 : decode (am_by jM_enterLock) 29 = .ok (.putfield 45, 3) := by decide +kernel
theorem dM_enterLock_32 : decode (am_by jM_enterLock) 32 = .ok (.aload_n 0, 1) := by decide +kernel
theorem dM_enterLock_33 : decode (am_by jM_enterLock) 33 = .ok (.getfield 32, 3) := by decide +kernel
theorem dM_enterLock_36 : decode (am_by jM_enterLock) 36 = .ok (.iconst 2, 1) := by decide +kernel
theorem dM_enterLock_37 : decode (am_by jM_enterLock) 37 = .ok (.iload_n 1, 1) := by decide +kernel
theorem dM_enterLock_38 : decode (am_by jM_enterLock) 38 = .ok (.invokevirtual 96, 3) := by decide +kernel
theorem dM_enterLock_41 : decode (am_by jM_enterLock) 41 = .ok (.return_, 1) := by decide +kernel
theorem dM_leaveLock_0 : decode (am_by jM_leaveLock) 0 = .ok (.aload_n 0, 1) := by decide +kernel
theorem dM_leaveLock_1 : decode (am_by jM_leaveLock) 1 = .ok (.getfield 45, 3) := by decide +kernel
theorem dM_leaveLock_4 : decode (am_by jM_leaveLock) 4 = .ok (.iconst 1, 1) := by decide +kernel
theorem dM_leaveLock_5 : decode (am_by jM_leaveLock) 5 = .ok (.isub, 1) := by decide +kernel
theorem dM_leaveLock_6 : decode (am_by jM_leaveLock) 6 = .ok (.istore_n 3, 1) := by decide +kernel
theorem dM_leaveLock_7 : decode (am_by jM_leaveLock) 7 = .ok (.iload_n 3, 1) := by decide +kernel
theorem dM_leaveLock_8 : decode (am_by jM_leaveLock) 8 = .ok (.aload_n 1, 1) := by decide +kernel
theorem dM_leaveLock_9 : decode (am_by jM_leaveLock) 9 = .ok (.getfield 173, 3) := by decide +kernel
theorem dM_leaveLock_12 : decode (am_by jM_leaveLock) 12 = .ok (.if_icmp .lt 19, 3) := by decide +kernel
theorem dM_leaveLock_15 : decode (am_by jM_leaveLock) 15 = .ok (.aload_n 0, 1) := by decide +kernel
theorem dM_leaveLock_16 : decode (am_by jM_leaveLock) 16 = .ok (.getfield 24, 3) := by decide +kernel
theorem dM_leaveLock_19 : decode (am_by jM_leaveLock) 19 = .ok (.iload_n 3, 1) := by decide +kernel
theorem dM_leaveLock_20 : decode (am_by jM_leaveLock) 20 = .ok (.iaload, 1) := by decide +kernel
theorem dM_leaveLock_21 : decode (am_by jM_leaveLock) 21 = .ok (.iload_n 2, 1) := by decide +kernel
theorem dM_leaveLock_22 : decode (am_by jM_leaveLock) 22 = .ok (.if_icmp .eq 9, 3) := by decide +kernel
theorem dM_leaveLock_25 : decode (am_by jM_leaveLock) 25 = .ok (.iinc 3 (-1), 3) := by decide +kernel
theorem dM_leaveLock_28 : decode (am_by jM_leaveLock) 28 = .ok (.goto (-21), 3) := by decide +kernel
theorem dM_leaveLock_31 : decode (am_by jM_leaveLock) 31 = .ok (.iload_n 3, 1) := by decide +kernel
theorem dM_leaveLock_32 : decode (am_by jM_leaveLock) 32 = .ok (.aload_n 1, 1) := by decide +kernel
theorem dM_leaveLock_33 : decode (am_by jM_leaveLock) 33 = .ok (.getfield 173, 3) := by decide +kernel
theorem dM_leaveLock_36 : decode (am_by jM_leaveLock) 36 = .ok (.if_icmp .ge 5, 3) := by decide +kernel
theorem dM_leaveLock_39 : decode (am_by jM_leaveLock) 39 = .ok (.iconst 0, 1) := by decide +kernel
theorem dM_leaveLock_40 : decode (am_by jM_leaveLock) 40 = .ok (.ireturn, 1) := by decide +kernel
theorem dM_leaveLock_41 : decode (am_by jM_leaveLock) 41 = .ok (.aload_n 0, 1) := by decide +kernel
theorem dM_leaveLock_42 : decode (am_by jM_leaveLock) 42 = .ok (.dup, 1) := by decide +kernel
theorem dM_leaveLock_43 : decode (am_by jM_leaveLock) 43 = .ok (.getfield 45, 3) := by decide +kernel
theorem dM_leaveLock_46 : decode (am_by jM_leaveLock) 46 = .ok (.iconst 1, 1) := by decide +kernel
theorem dM_leaveLock_47 : decode (am_by jM_leaveLock) 47 = .ok (.isub, 1) := by decide +kernel
theorem dM_leaveLock_48 : decode (am_by jM_leaveLock) 48 = .ok (.putfield 45, 3) := by decide +kernel
theorem dM_leaveLock_51 : decode (am_by jM_leaveLock) 51 = .ok (.aload_n 0, 1) := by decide +kernel
theorem dM_leaveLock_52 : decode (am_by jM_leaveLock) 52 = .ok (.getfield 24, 3) := by decide +kernel
theorem dM_leaveLock_55 : decode (am_by jM_leaveLock) 55 = .ok (.iload_n 3, 1) := by decide +kernel
theorem dM_leaveLock_56 : decode (am_by jM_leaveLock) 56 = .ok (.iconst 1, 1) := by decide +kernel
theorem dM_leaveLock_57 : decode (am_by jM_leaveLock) 57 = .ok (.iadd, 1) := by decide +kernel
theorem dM_leaveLock_58 : decode (am_by jM_leaveLock) 58 = .ok (.aload_n 0, 1) := by decide +kernel
theorem dM_leaveLock_59 : decode (am_by jM_leaveLock) 59 = .ok (.getfield 24, 3) := by decide +kernel
theorem dM_leaveLock_62 : decode (am_by jM_leaveLock) 62 = .ok (.iload_n 3, 1) := by decide +kernel
theorem dM_leaveLock_63 : decode (am_by jM_leaveLock) 63 = .ok (.aload_n 0, 1) := by decide +kernel
theorem dM_leaveLock_64 : decode (am_by jM_leaveLock) 64 = .ok (.getfield 45, 3) := by decide +kernel
theorem dM_leaveLock_67 : decode (am_by jM_leaveLock) 67 = .ok (.iload_n 3, 1) := by decide +kernel
theorem dM_leaveLock_68 : decode (am_by jM_leaveLock) 68 = .ok (.isub, 1) := by decide +kernel
theorem dM_leaveLock_69 : decode (am_by jM_leaveLock) 69 = .ok (.invokestatic 176, 3) := by decide +kernel
theorem dM_leaveLock_72 : decode (am_by jM_leaveLock) 72 = .ok (.aload_n 0, 1) := by decide +kernel
theorem dM_leaveLock_73 : decode (am_by jM_leaveLock) 73 = .ok (.getfield 32, 3) := by decide +kernel
theorem dM_leaveLock_76 : decode (am_by jM_leaveLock) 76 = .ok (.iconst 3, 1) := by decide +kernel
theorem dM_leaveLock_77 : decode (am_by jM_leaveLock) 77 = .ok (.iload_n 2, 1) := by decide +kernel
theorem dM_leaveLock_78 : decode (am_by jM_leaveLock) 78 = .ok (.invokevirtual 96, 3) := by decide +kernel
theorem dM_leaveLock_81 : decode (am_by jM_leaveLock) 81 = .ok (.iconst 1, 1) := by decide +kernel
theorem dM_leaveLock_82 : decode (am_by jM_leaveLock) 82 = .ok (.ireturn, 1) := by decide +kernel
theorem dM_make_0 : decode (am_by jM_make) 0 = .ok (.aload_n 0, 1) := by decide +kernel
theorem dM_make_1 : decode (am_by jM_make) 1 = .ok (.getfield 32, 3) := by decide +kernel
theorem dM_make_4 : decode (am_by jM_make) 4 = .ok (.getfield 182, 3) := by decide +kernel
theorem dM_make_7 : decode (am_by jM_make) 7 = .ok (.sipush 1000, 3) := by decide +kernel
theorem dM_make_10 : decode (am_by jM_make) 10 = .ok (.if_icmp .ge 16, 3) := by decide +kernel
theorem dM_make_13 : decode (am_by jM_make) 13 = .ok (.aload_n 0, 1) := by decide +kernel
theorem dM_make_14 : decode (am_by jM_make) 14 = .ok (.getfield 32, 3) := by decide +kernel
theorem dM_make_17 : decode (am_by jM_make) 17 = .ok (.dup, 1) := by decide +kernel
theorem dM_make_18 : decode (am_by jM_make) 18 = .ok (.getfield 182, 3) := by decide +kernel
theorem dM_make_21 : decode (am_by jM_make) 21 = .ok (.iconst 1, 1) := by decide +kernel
theorem dM_make_22 : decode (am_by jM_make) 22 = .ok (.iadd, 1) := by decide +kernel
theorem dM_make_23 : decode (am_by jM_make) 23 = .ok (.putfield 182, 3) := by decide +kernel
theorem dM_make_26 : decode (am_by jM_make) 26 = .ok (.aload_n 0, 1) := by decide +kernel
theorem dM_make_27 : decode (am_by jM_make) 27 = .ok (.getfield 17, 3) := by decide +kernel
theorem dM_make_30 : decode (am_by jM_make) 30 = .ok (.aload_n 0, 1) := by decide +kernel
theorem dM_make_31 : decode (am_by jM_make) 31 = .ok (.getfield 32, 3) := by decide +kernel
theorem dM_make_34 : decode (am_by jM_make) 34 = .ok (.getfield 182, 3) := by decide +kernel
theorem dM_make_37 : decode (am_by jM_make) 37 = .ok (.iload_n 1, 1) := by decide +kernel
theorem dM_make_38 : decode (am_by jM_make) 38 = .ok (.iastore, 1) := by decide +kernel
theorem dM_make_39 : decode (am_by jM_make) 39 = .ok (.aload_n 0, 1) := by decide +kernel
theorem dM_make_40 : decode (am_by jM_make) 40 = .ok (.getfield 21, 3) := by decide +kernel
theorem dM_make_43 : decode (am_by jM_make) 43 = .ok (.aload_n 0, 1) := by decide +kernel
theorem dM_make_44 : decode (am_by jM_make) 44 = .ok (.getfield 32, 3) := by decide +kernel
theorem dM_make_47 : decode (am_by jM_make) 47 = .ok (.getfield 182, 3) := by decide +kernel
theorem dM_make_50 : decode (am_by jM_make) 50 = .ok (.iconst 0, 1) := by decide +kernel
theorem dM_make_51 : decode (am_by jM_make) 51 = .ok (.iastore, 1) := by decide +kernel
theorem dM_make_52 : decode (am_by jM_make) 52 = .ok (.aload_n 0, 1) := by decide +kernel
theorem dM_make_53 : decode (am_by jM_make) 53 = .ok (.getfield 32, 3) := by decide +kernel
theorem dM_make_56 : decode (am_by jM_make) 56 = .ok (.iconst 1, 1) := by decide +kernel
theorem dM_make_57 : decode (am_by jM_make) 57 = .ok (.iload_n 1, 1) := by decide +kernel
theorem dM_make_58 : decode (am_by jM_make) 58 = .ok (.invokevirtual 96, 3) := by decide +kernel
theorem dM_make_61 : decode (am_by jM_make) 61 = .ok (.aload_n 0, 1) := by decide +kernel
theorem dM_make_62 : decode (am_by jM_make) 62 = .ok (.getfield 32, 3) := by decide +kernel
theorem dM_make_65 : decode (am_by jM_make) 65 = .ok (.getfield 182, 3) := by decide +kernel
theorem dM_make_68 : decode (am_by jM_make) 68 = .ok (.ireturn, 1) := by decide +kernel
theorem dM_throwNew_0 : decode (am_by jM_throwNew) 0 = .ok (.aload_n 0, 1) := by decide +kernel
theorem dM_throwNew_1 : decode (am_by jM_throwNew) 1 = .ok (.aload_n 0, 1) := by decide +kernel
theorem dM_throwNew_2 : decode (am_by jM_throwNew) 2 = .ok (.iload_n 1, 1) := by decide +kernel
theorem dM_throwNew_3 : decode (am_by jM_throwNew) 3 = .ok (.invokevirtual 125, 3) := by decide +kernel
theorem dM_throwNew_6 : decode (am_by jM_throwNew) 6 = .ok (.invokevirtual 166, 3) := by decide +kernel
theorem dM_throwNew_9 : decode (am_by jM_throwNew) 9 = .ok (.return_, 1) := by decide +kernel
theorem dM_throwObject_0 : decode (am_by jM_throwObject) 0 = .ok (.aload_n 0, 1) := by decide +kernel
theorem dM_throwObject_1 : decode (am_by jM_throwObject) 1 = .ok (.iload_n 1, 1) := by decide +kernel
theorem dM_throwObject_2 : decode (am_by jM_throwObject) 2 = .ok (.putfield 48, 3) := by decide +kernel
theorem dM_throwObject_5 : decode (am_by jM_throwObject) 5 = .ok (.aload_n 0, 1) := by decide +kernel
theorem dM_throwObject_6 : decode (am_by jM_throwObject) 6 = .ok (.getfield 32, 3) := by decide +kernel
theorem dM_throwObject_9 : decode (am_by jM_throwObject) 9 = .ok (.iconst 4, 1) := by decide +kernel
theorem dM_throwObject_10 : decode (am_by jM_throwObject) 10 = .ok (.aload_n 0, 1) := by decide +kernel
theorem dM_throwObject_11 : decode (am_by jM_throwObject) 11 = .ok (.getfield 17, 3) := by decide +kernel
theorem dM_throwObject_14 : decode (am_by jM_throwObject) 14 = .ok (.iload_n 1, 1) := by decide +kernel
theorem dM_throwObject_15 : decode (am_by jM_throwObject) 15 = .ok (.iaload, 1) := by decide +kernel
theorem dM_throwObject_16 : decode (am_by jM_throwObject) 16 = .ok (.invokevirtual 96, 3) := by decide +kernel
theorem dM_throwObject_19 : decode (am_by jM_throwObject) 19 = .ok (.return_, 1) := by decide +kernel
theorem dM_beginCall_0 : decode (am_by jM_beginCall) 0 = .ok (.aload_n 0, 1) := by decide +kernel
theorem dM_beginCall_1 : decode (am_by jM_beginCall) 1 = .ok (.getfield 41, 3) := by decide +kernel
theorem dM_beginCall_4 : decode (am_by jM_beginCall) 4 = .ok (.bipush 12, 2) := by decide +kernel
theorem dM_beginCall_6 : decode (am_by jM_beginCall) 6 = .ok (.if_icmp .lt 9, 3) := by decide +kernel
theorem dM_beginCall_9 : decode (am_by jM_beginCall) 9 = .ok (.aload_n 0, 1) := by decide +kernel
theorem dM_beginCall_10 : decode (am_by jM_beginCall) 10 = .ok (.iconst 4, 1) := by decide +kernel
theorem dM_beginCall_11 : decode (am_by jM_beginCall) 11 = .ok (.invokevirtual 156, 3) := by decide +kernel
theorem dM_beginCall_14 : decode (am_by jM_beginCall) 14 = .ok (.return_, 1) := by decide +kernel
theorem dM_beginCall_15 : decode (am_by jM_beginCall) 15 = .ok (.aload_n 0, 1) := by decide +kernel
theorem dM_beginCall_16 : decode (am_by jM_beginCall) 16 = .ok (.iload_n 2, 1) := by decide +kernel
theorem dM_beginCall_17 : decode (am_by jM_beginCall) 17 = .ok (.invokevirtual 51, 3) := by decide +kernel
theorem dM_beginCall_20 : decode (am_by jM_beginCall) 20 = .ok (.astore_n 3, 1) := by decide +kernel
theorem dM_beginCall_21 : decode (am_by jM_beginCall) 21 = .ok (.aload_n 0, 1) := by decide +kernel
theorem dM_beginCall_22 : decode (am_by jM_beginCall) 22 = .ok (.getfield 28, 3) := by decide +kernel
theorem dM_beginCall_25 : decode (am_by jM_beginCall) 25 = .ok (.getfield 84, 3) := by decide +kernel
theorem dM_beginCall_28 : decode (am_by jM_beginCall) 28 = .ok (.iload_n 2, 1) := by decide +kernel
theorem dM_beginCall_29 : decode (am_by jM_beginCall) 29 = .ok (.aaload, 1) := by decide +kernel
theorem dM_beginCall_30 : decode (am_by jM_beginCall) 30 = .ok (.getfield 185, 3) := by decide +kernel
theorem dM_beginCall_33 : decode (am_by jM_beginCall) 33 = .ok (.iconst 1, 1) := by decide +kernel
theorem dM_beginCall_34 : decode (am_by jM_beginCall) 34 = .ok (.isub, 1) := by decide +kernel
theorem dM_beginCall_35 : decode (am_by jM_beginCall) 35 = .ok (.istore 4, 2) := by decide +kernel
theorem dM_beginCall_37 : decode (am_by jM_beginCall) 37 = .ok (.iload 4, 2) := by decide +kernel
theorem dM_beginCall_39 : decode (am_by jM_beginCall) 39 = .ok (.ifCond .lt 20, 3) := by decide +kernel
theorem dM_beginCall_42 : decode (am_by jM_beginCall) 42 = .ok (.aload_n 3, 1) := by decide +kernel
theorem dM_beginCall_43 : decode (am_by jM_beginCall) 43 = .ok (.getfield 55, 3) := by decide +kernel
theorem dM_beginCall_46 : decode (am_by jM_beginCall) 46 = .ok (.iload 4, 2) := by decide +kernel
theorem dM_beginCall_48 : decode (am_by jM_beginCall) 48 = .ok (.aload_n 1, 1) := by decide +kernel
theorem dM_beginCall_49 : decode (am_by jM_beginCall) 49 = .ok (.invokevirtual 136, 3) := by decide +kernel
theorem dM_beginCall_52 : decode (am_by jM_beginCall) 52 = .ok (.iastore, 1) := by decide +kernel
theorem dM_beginCall_53 : decode (am_by jM_beginCall) 53 = .ok (.iinc 4 (-1), 3) := by decide +kernel
theorem dM_beginCall_56 : decode (am_by jM_beginCall) 56 = .ok (.goto (-19), 3) := by decide +kernel
theorem dM_beginCall_59 : decode (am_by jM_beginCall) 59 = .ok (.return_, 1) := by decide +kernel
theorem dM_giveBack_0 : decode (am_by jM_giveBack) 0 = .ok (.aload_n 0, 1) := by decide +kernel
theorem dM_giveBack_1 : decode (am_by jM_giveBack) 1 = .ok (.getfield 48, 3) := by decide +kernel
theorem dM_giveBack_4 : decode (am_by jM_giveBack) 4 = .ok (.ifCond .eq 4, 3) := by decide +kernel
theorem dM_giveBack_7 : decode (am_by jM_giveBack) 7 = .ok (.return_, 1) := by decide +kernel
theorem dM_giveBack_8 : decode (am_by jM_giveBack) 8 = .ok (.aload_n 0, 1) := by decide +kernel
theorem dM_giveBack_9 : decode (am_by jM_giveBack) 9 = .ok (.getfield 41, 3) := by decide +kernel
theorem dM_giveBack_12 : decode (am_by jM_giveBack) 12 = .ok (.ifCond .le 21, 3) := by decide +kernel
theorem dM_giveBack_15 : decode (am_by jM_giveBack) 15 = .ok (.aload_n 0, 1) := by decide +kernel
theorem dM_giveBack_16 : decode (am_by jM_giveBack) 16 = .ok (.getfield 11, 3) := by decide +kernel
theorem dM_giveBack_19 : decode (am_by jM_giveBack) 19 = .ok (.aload_n 0, 1) := by decide +kernel
theorem dM_giveBack_20 : decode (am_by jM_giveBack) 20 = .ok (.getfield 41, 3) := by decide +kernel
theorem dM_giveBack_23 : decode (am_by jM_giveBack) 23 = .ok (.iconst 1, 1) := by decide +kernel
theorem dM_giveBack_24 : decode (am_by jM_giveBack) 24 = .ok (.isub, 1) := by decide +kernel
theorem dM_giveBack_25 : decode (am_by jM_giveBack) 25 = .ok (.aaload, 1) := by decide +kernel
theorem dM_giveBack_26 : decode (am_by jM_giveBack) 26 = .ok (.iload_n 1, 1) := by decide +kernel
theorem dM_giveBack_27 : decode (am_by jM_giveBack) 27 = .ok (.invokevirtual 117, 3) := by decide +kernel
theorem dM_giveBack_30 : decode (am_by jM_giveBack) 30 = .ok (.goto 19, 3) := by decide +kernel
theorem dM_giveBack_33 : decode (am_by jM_giveBack) 33 = .ok (.aload_n 0, 1) := by decide +kernel
theorem dM_giveBack_34 : decode (am_by jM_giveBack) 34 = .ok (.getfield 32, 3) := by decide +kernel
theorem dM_giveBack_37 : decode (am_by jM_giveBack) 37 = .ok (.iload_n 1, 1) := by decide +kernel
theorem dM_giveBack_38 : decode (am_by jM_giveBack) 38 = .ok (.putfield 188, 3) := by decide +kernel
theorem dM_giveBack_41 : decode (am_by jM_giveBack) 41 = .ok (.aload_n 0, 1) := by decide +kernel
theorem dM_giveBack_42 : decode (am_by jM_giveBack) 42 = .ok (.getfield 32, 3) := by decide +kernel
theorem dM_giveBack_45 : decode (am_by jM_giveBack) 45 = .ok (.iconst 0, 1) := by decide +kernel
theorem dM_giveBack_46 : decode (am_by jM_giveBack) 46 = .ok (.putfield 58, 3) := by decide +kernel
theorem dM_giveBack_49 : decode (am_by jM_giveBack) 49 = .ok (.return_, 1) := by decide +kernel
theorem dM_closeFrame_0 : decode (am_by jM_closeFrame) 0 = .ok (.aload_n 0, 1) := by decide +kernel
theorem dM_closeFrame_1 : decode (am_by jM_closeFrame) 1 = .ok (.getfield 11, 3) := by decide +kernel
theorem dM_closeFrame_4 : decode (am_by jM_closeFrame) 4 = .ok (.aload_n 0, 1) := by decide +kernel
theorem dM_closeFrame_5 : decode (am_by jM_closeFrame) 5 = .ok (.getfield 41, 3) := by decide +kernel
theorem dM_closeFrame_8 : decode (am_by jM_closeFrame) 8 = .ok (.iconst 1, 1) := by decide +kernel
theorem dM_closeFrame_9 : decode (am_by jM_closeFrame) 9 = .ok (.isub, 1) := by decide +kernel
theorem dM_closeFrame_10 : decode (am_by jM_closeFrame) 10 = .ok (.aaload, 1) := by decide +kernel
theorem dM_closeFrame_11 : decode (am_by jM_closeFrame) 11 = .ok (.astore_n 1, 1) := by decide +kernel
theorem dM_closeFrame_12 : decode (am_by jM_closeFrame) 12 = .ok (.aload_n 0, 1) := by decide +kernel
theorem dM_closeFrame_13 : decode (am_by jM_closeFrame) 13 = .ok (.getfield 45, 3) := by decide +kernel
theorem dM_closeFrame_16 : decode (am_by jM_closeFrame) 16 = .ok (.aload_n 1, 1) := by decide +kernel
theorem dM_closeFrame_17 : decode (am_by jM_closeFrame) 17 = .ok (.getfield 173, 3) := by decide +kernel
theorem dM_closeFrame_20 : decode (am_by jM_closeFrame) 20 = .ok (.if_icmp .le 49, 3) := by decide +kernel
theorem dM_closeFrame_23 : decode (am_by jM_closeFrame) 23 = .ok (.aload_n 0, 1) := by decide +kernel
theorem dM_closeFrame_24 : decode (am_by jM_closeFrame) 24 = .ok (.getfield 45, 3) := by decide +kernel
theorem dM_closeFrame_27 : decode (am_by jM_closeFrame) 27 = .ok (.aload_n 1, 1) := by decide +kernel
theorem dM_closeFrame_28 : decode (am_by jM_closeFrame) 28 = .ok (.getfield 173, 3) := by decide +kernel
theorem dM_closeFrame_31 : decode (am_by jM_closeFrame) 31 = .ok (.if_icmp .le 33, 3) := by decide +kernel
theorem dM_closeFrame_34 : decode (am_by jM_closeFrame) 34 = .ok (.aload_n 0, 1) := by decide +kernel
theorem dM_closeFrame_35 : decode (am_by jM_closeFrame) 35 = .ok (.dup, 1) := by decide +kernel
theorem dM_closeFrame_36 : decode (am_by jM_closeFrame) 36 = .ok (.getfield 45, 3) := by decide +kernel
theorem dM_closeFrame_39 : decode (am_by jM_closeFrame) 39 = .ok (.iconst 1, 1) := by decide +kernel
theorem dM_closeFrame_40 : decode (am_by jM_closeFrame) 40 = .ok (.isub, 1) := by decide +kernel
theorem dM_closeFrame_41 : decode (am_by jM_closeFrame) 41 = .ok (.putfield 45, 3) := by decide +kernel
theorem dM_closeFrame_44 : decode (am_by jM_closeFrame) 44 = .ok (.aload_n 0, 1) := by decide +kernel
theorem dM_closeFrame_45 : decode (am_by jM_closeFrame) 45 = .ok (.getfield 32, 3) := by decide +kernel
theorem dM_closeFrame_48 : decode (am_by jM_closeFrame) 48 = .ok (.iconst 3, 1) := by decide +kernel
theorem dM_closeFrame_49 : decode (am_by jM_closeFrame) 49 = .ok (.aload_n 0, 1) := by decide +kernel
theorem dM_closeFrame_50 : decode (am_by jM_closeFrame) 50 = .ok (.getfield 24, 3) := by decide +kernel
theorem dM_closeFrame_53 : decode (am_by jM_closeFrame) 53 = .ok (.aload_n 0, 1) := by decide +kernel
theorem dM_closeFrame_54 : decode (am_by jM_closeFrame) 54 = .ok (.getfield 45, 3) := by decide +kernel
theorem dM_closeFrame_57 : decode (am_by jM_closeFrame) 57 = .ok (.iaload, 1) := by decide +kernel
theorem dM_closeFrame_58 : decode (am_by jM_closeFrame) 58 = .ok (.invokevirtual 96, 3) := by decide +kernel
theorem dM_closeFrame_61 : decode (am_by jM_closeFrame) 61 = .ok (.goto (-38), 3) := by decide +kernel
theorem dM_closeFrame_64 : decode (am_by jM_closeFrame) 64 = .ok (.aload_n 0, 1) := by decide +kernel
theorem dM_closeFrame_65 : decode (am_by jM_closeFrame) 65 = .ok (.iconst 3, 1) := by decide +kernel
theorem dM_closeFrame_66 : decode (am_by jM_closeFrame) 66 = .ok (.invokevirtual 156, 3) := by decide +kernel
theorem dM_closeFrame_69 : decode (am_by jM_closeFrame) 69 = .ok (.aload_n 0, 1) := by decide +kernel
theorem dM_closeFrame_70 : decode (am_by jM_closeFrame) 70 = .ok (.getfield 28, 3) := by decide +kernel
theorem dM_closeFrame_73 : decode (am_by jM_closeFrame) 73 = .ok (.getfield 84, 3) := by decide +kernel
theorem dM_closeFrame_76 : decode (am_by jM_closeFrame) 76 = .ok (.aload_n 1, 1) := by decide +kernel
theorem dM_closeFrame_77 : decode (am_by jM_closeFrame) 77 = .ok (.getfield 99, 3) := by decide +kernel
theorem dM_closeFrame_80 : decode (am_by jM_closeFrame) 80 = .ok (.aaload, 1) := by decide +kernel
theorem dM_closeFrame_81 : decode (am_by jM_closeFrame) 81 = .ok (.getfield 90, 3) := by decide +kernel
theorem dM_closeFrame_84 : decode (am_by jM_closeFrame) 84 = .ok (.ifCond .eq 19, 3) := by decide +kernel
theorem dM_closeFrame_87 : decode (am_by jM_closeFrame) 87 = .ok (.aload_n 0, 1) := by decide +kernel
theorem dM_closeFrame_88 : decode (am_by jM_closeFrame) 88 = .ok (.getfield 32, 3) := by decide +kernel
theorem dM_closeFrame_91 : decode (am_by jM_closeFrame) 91 = .ok (.iconst 3, 1) := by decide +kernel
theorem dM_closeFrame_92 : decode (am_by jM_closeFrame) 92 = .ok (.sipush 4000, 3) := by decide +kernel
theorem dM_closeFrame_95 : decode (am_by jM_closeFrame) 95 = .ok (.aload_n 1, 1) := by decide +kernel
theorem dM_closeFrame_96 : decode (am_by jM_closeFrame) 96 = .ok (.getfield 99, 3) := by decide +kernel
theorem dM_closeFrame_99 : decode (am_by jM_closeFrame) 99 = .ok (.iadd, 1) := by decide +kernel
theorem dM_closeFrame_100 : decode (am_by jM_closeFrame) 100 = .ok (.invokevirtual 96, 3) := by decide +kernel
theorem dM_closeFrame_103 : decode (am_by jM_closeFrame) 103 = .ok (.aload_n 0, 1) := by decide +kernel
theorem dM_closeFrame_104 : decode (am_by jM_closeFrame) 104 = .ok (.dup, 1) := by decide +kernel
theorem dM_closeFrame_105 : decode (am_by jM_closeFrame) 105 = .ok (.getfield 41, 3) := by decide +kernel
theorem dM_closeFrame_108 : decode (am_by jM_closeFrame) 108 = .ok (.iconst 1, 1) := by decide +kernel
theorem dM_closeFrame_109 : decode (am_by jM_closeFrame) 109 = .ok (.isub, 1) := by decide +kernel
theorem dM_closeFrame_110 : decode (am_by jM_closeFrame) 110 = .ok (.putfield 41, 3) := by decide +kernel
theorem dM_closeFrame_113 : decode (am_by jM_closeFrame) 113 = .ok (.return_, 1) := by decide +kernel
theorem dM_findRow_0 : decode (am_by jM_findRow) 0 = .ok (.aload_n 0, 1) := by decide +kernel
theorem dM_findRow_1 : decode (am_by jM_findRow) 1 = .ok (.getfield 41, 3) := by decide +kernel
theorem dM_findRow_4 : decode (am_by jM_findRow) 4 = .ok (.istore_n 1, 1) := by decide +kernel
theorem dM_findRow_5 : decode (am_by jM_findRow) 5 = .ok (.iload_n 1, 1) := by decide +kernel
theorem dM_findRow_6 : decode (am_by jM_findRow) 6 = .ok (.ifCond .le 121, 3) := by decide +kernel
theorem dM_findRow_9 : decode (am_by jM_findRow) 9 = .ok (.aload_n 0, 1) := by decide +kernel
theorem dM_findRow_10 : decode (am_by jM_findRow) 10 = .ok (.getfield 48, 3) := by decide +kernel
theorem dM_findRow_13 : decode (am_by jM_findRow) 13 = .ok (.ifCond .eq 114, 3) := by decide +kernel
theorem dM_findRow_16 : decode (am_by jM_findRow) 16 = .ok (.aload_n 0, 1) := by decide +kernel
theorem dM_findRow_17 : decode (am_by jM_findRow) 17 = .ok (.getfield 11, 3) := by decide +kernel
theorem dM_findRow_20 : decode (am_by jM_findRow) 20 = .ok (.iload_n 1, 1) := by decide +kernel
theorem dM_findRow_21 : decode (am_by jM_findRow) 21 = .ok (.iconst 1, 1) := by decide +kernel
theorem dM_findRow_22 : decode (am_by jM_findRow) 22 = .ok (.isub, 1) := by decide +kernel
theorem dM_findRow_23 : decode (am_by jM_findRow) 23 = .ok (.aaload, 1) := by decide +kernel
theorem dM_findRow_24 : decode (am_by jM_findRow) 24 = .ok (.astore_n 2, 1) := by decide +kernel
theorem dM_findRow_25 : decode (am_by jM_findRow) 25 = .ok (.aload_n 0, 1) := by decide +kernel
theorem dM_findRow_26 : decode (am_by jM_findRow) 26 = .ok (.getfield 28, 3) := by decide +kernel
theorem dM_findRow_29 : decode (am_by jM_findRow) 29 = .ok (.getfield 84, 3) := by decide +kernel
theorem dM_findRow_32 : decode (am_by jM_findRow) 32 = .ok (.aload_n 2, 1) := by decide +kernel
theorem dM_findRow_33 : decode (am_by jM_findRow) 33 = .ok (.getfield 99, 3) := by decide +kernel
theorem dM_findRow_36 : decode (am_by jM_findRow) 36 = .ok (.aaload, 1) := by decide +kernel
theorem dM_findRow_37 : decode (am_by jM_findRow) 37 = .ok (.astore_n 3, 1) := by decide +kernel
theorem dM_findRow_38 : decode (am_by jM_findRow) 38 = .ok (.aload_n 3, 1) := by decide +kernel
theorem dM_findRow_39 : decode (am_by jM_findRow) 39 = .ok (.aload_n 2, 1) := by decide +kernel
theorem dM_findRow_40 : decode (am_by jM_findRow) 40 = .ok (.getfield 105, 3) := by decide +kernel
theorem dM_findRow_43 : decode (am_by jM_findRow) 43 = .ok (.aload_n 0, 1) := by decide +kernel
theorem dM_findRow_44 : decode (am_by jM_findRow) 44 = .ok (.getfield 17, 3) := by decide +kernel
theorem dM_findRow_47 : decode (am_by jM_findRow) 47 = .ok (.aload_n 0, 1) := by decide +kernel
theorem dM_findRow_48 : decode (am_by jM_findRow) 48 = .ok (.getfield 48, 3) := by decide +kernel
theorem dM_findRow_51 : decode (am_by jM_findRow) 51 = .ok (.iaload, 1) := by decide +kernel
theorem dM_findRow_52 : decode (am_by jM_findRow) 52 = .ok (.invokevirtual 191, 3) := by decide +kernel
theorem dM_findRow_55 : decode (am_by jM_findRow) 55 = .ok (.istore 4, 2) := by decide +kernel
theorem dM_findRow_57 : decode (am_by jM_findRow) 57 = .ok (.iload 4, 2) := by decide +kernel
theorem dM_findRow_59 : decode (am_by jM_findRow) 59 = .ok (.bipush (-2), 2) := by decide +kernel
theorem dM_findRow_61 : decode (am_by jM_findRow) 61 = .ok (.if_icmp .ne 10, 3) := by decide +kernel
theorem dM_findRow_64 : decode (am_by jM_findRow) 64 = .ok (.aload_n 0, 1) := by decide +kernel
theorem dM_findRow_65 : decode (am_by jM_findRow) 65 = .ok (.invokevirtual 140, 3) := by decide +kernel
theorem dM_findRow_68 : decode (am_by jM_findRow) 68 = .ok (.goto 53, 3) := by decide +kernel
theorem dM_findRow_71 : decode (am_by jM_findRow) 71 = .ok (.aload_n 2, 1) := by decide +kernel
theorem dM_findRow_72 : decode (am_by jM_findRow) 72 = .ok (.aload_n 0, 1) := by decide +kernel
theorem dM_findRow_73 : decode (am_by jM_findRow) 73 = .ok (.getfield 48, 3) := by decide +kernel
theorem dM_findRow_76 : decode (am_by jM_findRow) 76 = .ok (.aload_n 3, 1) := by decide +kernel
theorem dM_findRow_77 : decode (am_by jM_findRow) 77 = .ok (.getfield 194, 3) := by decide +kernel
theorem dM_findRow_80 : decode (am_by jM_findRow) 80 = .ok (.iload 4, 2) := by decide +kernel
theorem dM_findRow_82 : decode (am_by jM_findRow) 82 = .ok (.iaload, 1) := by decide +kernel
theorem dM_findRow_83 : decode (am_by jM_findRow) 83 = .ok (.invokevirtual 197, 3) := by decide +kernel
theorem dM_findRow_86 : decode (am_by jM_findRow) 86 = .ok (.aload_n 0, 1) := by decide +kernel
theorem dM_findRow_87 : decode (am_by jM_findRow) 87 = .ok (.getfield 32, 3) := by decide +kernel
theorem dM_findRow_90 : decode (am_by jM_findRow) 90 = .ok (.dup, 1) := by decide +kernel
theorem dM_findRow_91 : decode (am_by jM_findRow) 91 = .ok (.getfield 200, 3) := by decide +kernel
theorem dM_findRow_94 : decode (am_by jM_findRow) 94 = .ok (.iconst 1, 1) := by decide +kernel
theorem dM_findRow_95 : decode (am_by jM_findRow) 95 = .ok (.iadd, 1) := by decide +kernel
theorem dM_findRow_96 : decode (am_by jM_findRow) 96 = .ok (.putfield 200, 3) := by decide +kernel
theorem dM_findRow_99 : decode (am_by jM_findRow) 99 = .ok (.aload_n 0, 1) := by decide +kernel
theorem dM_findRow_100 : decode (am_by jM_findRow) 100 = .ok (.getfield 32, 3) := by decide +kernel
theorem dM_findRow_103 : decode (am_by jM_findRow) 103 = .ok (.iconst 5, 1) := by decide +kernel
theorem dM_findRow_104 : decode (am_by jM_findRow) 104 = .ok (.aload_n 0, 1) := by decide +kernel
theorem dM_findRow_105 : decode (am_by jM_findRow) 105 = .ok (.getfield 17, 3) := by decide +kernel
theorem dM_findRow_108 : decode (am_by jM_findRow) 108 = .ok (.aload_n 0, 1) := by decide +kernel
theorem dM_findRow_109 : decode (am_by jM_findRow) 109 = .ok (.getfield 48, 3) := by decide +kernel
theorem dM_findRow_112 : decode (am_by jM_findRow) 112 = .ok (.iaload, 1) := by decide +kernel
theorem dM_findRow_113 : decode (am_by jM_findRow) 113 = .ok (.invokevirtual 96, 3) := by decide +kernel
theorem dM_findRow_116 : decode (am_by jM_findRow) 116 = .ok (.aload_n 0, 1) := by decide +kernel
theorem dM_findRow_117 : decode (am_by jM_findRow) 117 = .ok (.iconst 0, 1) := by decide +kernel
theorem dM_findRow_118 : decode (am_by jM_findRow) 118 = .ok (.putfield 48, 3) := by decide +kernel
theorem dM_findRow_121 : decode (am_by jM_findRow) 121 = .ok (.iinc 1 (-1), 3) := by decide +kernel
theorem dM_findRow_124 : decode (am_by jM_findRow) 124 = .ok (.goto (-119), 3) := by decide +kernel
theorem dM_findRow_127 : decode (am_by jM_findRow) 127 = .ok (.aload_n 0, 1) := by decide +kernel
theorem dM_findRow_128 : decode (am_by jM_findRow) 128 = .ok (.getfield 48, 3) := by decide +kernel
theorem dM_findRow_131 : decode (am_by jM_findRow) 131 = .ok (.ifCond .eq 22, 3) := by decide +kernel
theorem dM_findRow_134 : decode (am_by jM_findRow) 134 = .ok (.aload_n 0, 1) := by decide +kernel
theorem dM_findRow_135 : decode (am_by jM_findRow) 135 = .ok (.getfield 32, 3) := by decide +kernel
theorem dM_findRow_138 : decode (am_by jM_findRow) 138 = .ok (.bipush 16, 2) := by decide +kernel
theorem dM_findRow_140 : decode (am_by jM_findRow) 140 = .ok (.aload_n 0, 1) := by decide +kernel
theorem dM_findRow_141 : decode (am_by jM_findRow) 141 = .ok (.getfield 17, 3) := by decide +kernel
theorem dM_findRow_144 : decode (am_by jM_findRow) 144 = .ok (.aload_n 0, 1) := by decide +kernel
theorem dM_findRow_145 : decode (am_by jM_findRow) 145 = .ok (.getfield 48, 3) := by decide +kernel
theorem dM_findRow_148 : decode (am_by jM_findRow) 148 = .ok (.iaload, 1) := by decide +kernel
theorem dM_findRow_149 : decode (am_by jM_findRow) 149 = .ok (.iadd, 1) := by decide +kernel
theorem dM_findRow_150 : decode (am_by jM_findRow) 150 = .ok (.putfield 58, 3) := by decide +kernel
theorem dM_findRow_153 : decode (am_by jM_findRow) 153 = .ok (.return_, 1) := by decide +kernel
