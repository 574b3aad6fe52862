theorem dW_init_0 : decode (am_by jW_init) 0 = .ok (.aload_n 0, 1) := by decide +kernel
theorem dW_init_1 : decode (am_by jW_init) 1 = .ok (.invokespecial 3, 3) := by decide +kernel
theorem dW_init_4 : decode (am_by jW_init) 4 = .ok (.aload_n 0, 1) := by decide +kernel
theorem dW_init_5 : decode (am_by jW_init) 5 = .ok (.new 9, 3) := by decide +kernel
theorem dW_init_8 : decode (am_by jW_init) 8 = .ok (.dup, 1) := by decide +kernel
theorem dW_init_9 : decode (am_by jW_init) 9 = .ok (.invokespecial 11, 3) := by decide +kernel
theorem dW_init_12 : decode (am_by jW_init) 12 = .ok (.putfield 12, 3) := by decide +kernel
theorem dW_init_15 : decode (am_by jW_init) 15 = .ok (.return_, 1) := by decide +kernel
theorem dW_writeOutSubroutine_0 : decode (am_by jW_writeOutSubroutine) 0 = .ok (.aload_n 1, 1) := by decide +kernel
theorem dW_writeOutSubroutine_1 : decode (am_by jW_writeOutSubroutine) 1 = .ok (.iload_n 2, 1) := by decide +kernel
theorem dW_writeOutSubroutine_2 : decode (am_by jW_writeOutSubroutine) 2 = .ok (.bipush 23, 2) := by decide +kernel
theorem dW_writeOutSubroutine_4 : decode (am_by jW_writeOutSubroutine) 4 = .ok (.invokevirtual 18, 3) := by decide +kernel
theorem dW_writeOutSubroutine_7 : decode (am_by jW_writeOutSubroutine) 7 = .ok (.ifCond .ne 6, 3) := by decide +kernel
theorem dW_writeOutSubroutine_10 : decode (am_by jW_writeOutSubroutine) 10 = .ok (.bipush (-2), 2) := by decide +kernel
theorem dW_writeOutSubroutine_12 : decode (am_by jW_writeOutSubroutine) 12 = .ok (.ireturn, 1) := by decide +kernel
theorem dW_writeOutSubroutine_13 : decode (am_by jW_writeOutSubroutine) 13 = .ok (.aload_n 1, 1) := by decide +kernel
theorem dW_writeOutSubroutine_14 : decode (am_by jW_writeOutSubroutine) 14 = .ok (.getfield 22, 3) := by decide +kernel
theorem dW_writeOutSubroutine_17 : decode (am_by jW_writeOutSubroutine) 17 = .ok (.iload_n 2, 1) := by decide +kernel
theorem dW_writeOutSubroutine_18 : decode (am_by jW_writeOutSubroutine) 18 = .ok (.iaload, 1) := by decide +kernel
theorem dW_writeOutSubroutine_19 : decode (am_by jW_writeOutSubroutine) 19 = .ok (.istore_n 3, 1) := by decide +kernel
theorem dW_writeOutSubroutine_20 : decode (am_by jW_writeOutSubroutine) 20 = .ok (.aload_n 1, 1) := by decide +kernel
theorem dW_writeOutSubroutine_21 : decode (am_by jW_writeOutSubroutine) 21 = .ok (.iload_n 3, 1) := by decide +kernel
theorem dW_writeOutSubroutine_22 : decode (am_by jW_writeOutSubroutine) 22 = .ok (.invokevirtual 26, 3) := by decide +kernel
theorem dW_writeOutSubroutine_25 : decode (am_by jW_writeOutSubroutine) 25 = .ok (.istore 4, 2) := by decide +kernel
theorem dW_writeOutSubroutine_27 : decode (am_by jW_writeOutSubroutine) 27 = .ok (.iload 4, 2) := by decide +kernel
theorem dW_writeOutSubroutine_29 : decode (am_by jW_writeOutSubroutine) 29 = .ok (.bipush (-2), 2) := by decide +kernel
theorem dW_writeOutSubroutine_31 : decode (am_by jW_writeOutSubroutine) 31 = .ok (.if_icmp .eq 14, 3) := by decide +kernel
theorem dW_writeOutSubroutine_34 : decode (am_by jW_writeOutSubroutine) 34 = .ok (.iload_n 2, 1) := by decide +kernel
theorem dW_writeOutSubroutine_35 : decode (am_by jW_writeOutSubroutine) 35 = .ok (.iload_n 3, 1) := by decide +kernel
theorem dW_writeOutSubroutine_36 : decode (am_by jW_writeOutSubroutine) 36 = .ok (.if_icmp .lt 12, 3) := by decide +kernel
theorem dW_writeOutSubroutine_39 : decode (am_by jW_writeOutSubroutine) 39 = .ok (.iload_n 2, 1) := by decide +kernel
theorem dW_writeOutSubroutine_40 : decode (am_by jW_writeOutSubroutine) 40 = .ok (.iload 4, 2) := by decide +kernel
theorem dW_writeOutSubroutine_42 : decode (am_by jW_writeOutSubroutine) 42 = .ok (.if_icmp .gt 6, 3) := by decide +kernel
theorem dW_writeOutSubroutine_45 : decode (am_by jW_writeOutSubroutine) 45 = .ok (.bipush (-2), 2) := by decide +kernel
theorem dW_writeOutSubroutine_47 : decode (am_by jW_writeOutSubroutine) 47 = .ok (.ireturn, 1) := by decide +kernel
theorem dW_writeOutSubroutine_48 : decode (am_by jW_writeOutSubroutine) 48 = .ok (.aload_n 0, 1) := by decide +kernel
theorem dW_writeOutSubroutine_49 : decode (am_by jW_writeOutSubroutine) 49 = .ok (.aload_n 1, 1) := by decide +kernel
theorem dW_writeOutSubroutine_50 : decode (am_by jW_writeOutSubroutine) 50 = .ok (.iload_n 2, 1) := by decide +kernel
theorem dW_writeOutSubroutine_51 : decode (am_by jW_writeOutSubroutine) 51 = .ok (.iload 4, 2) := by decide +kernel
theorem dW_writeOutSubroutine_53 : decode (am_by jW_writeOutSubroutine) 53 = .ok (.iload_n 3, 1) := by decide +kernel
theorem dW_writeOutSubroutine_54 : decode (am_by jW_writeOutSubroutine) 54 = .ok (.isub, 1) := by decide +kernel
theorem dW_writeOutSubroutine_55 : decode (am_by jW_writeOutSubroutine) 55 = .ok (.iconst 1, 1) := by decide +kernel
theorem dW_writeOutSubroutine_56 : decode (am_by jW_writeOutSubroutine) 56 = .ok (.isub, 1) := by decide +kernel
theorem dW_writeOutSubroutine_57 : decode (am_by jW_writeOutSubroutine) 57 = .ok (.invokevirtual 30, 3) := by decide +kernel
theorem dW_writeOutSubroutine_60 : decode (am_by jW_writeOutSubroutine) 60 = .ok (.aload_n 0, 1) := by decide +kernel
theorem dW_writeOutSubroutine_61 : decode (am_by jW_writeOutSubroutine) 61 = .ok (.getfield 34, 3) := by decide +kernel
theorem dW_writeOutSubroutine_64 : decode (am_by jW_writeOutSubroutine) 64 = .ok (.ifCond .eq 6, 3) := by decide +kernel
theorem dW_writeOutSubroutine_67 : decode (am_by jW_writeOutSubroutine) 67 = .ok (.bipush (-3), 2) := by decide +kernel
theorem dW_writeOutSubroutine_69 : decode (am_by jW_writeOutSubroutine) 69 = .ok (.ireturn, 1) := by decide +kernel
theorem dW_writeOutSubroutine_70 : decode (am_by jW_writeOutSubroutine) 70 = .ok (.iload_n 2, 1) := by decide +kernel
theorem dW_writeOutSubroutine_71 : decode (am_by jW_writeOutSubroutine) 71 = .ok (.iload_n 3, 1) := by decide +kernel
theorem dW_writeOutSubroutine_72 : decode (am_by jW_writeOutSubroutine) 72 = .ok (.isub, 1) := by decide +kernel
theorem dW_writeOutSubroutine_73 : decode (am_by jW_writeOutSubroutine) 73 = .ok (.iconst 1, 1) := by decide +kernel
theorem dW_writeOutSubroutine_74 : decode (am_by jW_writeOutSubroutine) 74 = .ok (.isub, 1) := by decide +kernel
theorem dW_writeOutSubroutine_75 : decode (am_by jW_writeOutSubroutine) 75 = .ok (.istore 5, 2) := by decide +kernel
theorem dW_writeOutSubroutine_77 : decode (am_by jW_writeOutSubroutine) 77 = .ok (.iload_n 3, 1) := by decide +kernel
theorem dW_writeOutSubroutine_78 : decode (am_by jW_writeOutSubroutine) 78 = .ok (.iconst 1, 1) := by decide +kernel
theorem dW_writeOutSubroutine_79 : decode (am_by jW_writeOutSubroutine) 79 = .ok (.iadd, 1) := by decide +kernel
theorem dW_writeOutSubroutine_80 : decode (am_by jW_writeOutSubroutine) 80 = .ok (.istore 6, 2) := by decide +kernel
theorem dW_writeOutSubroutine_82 : decode (am_by jW_writeOutSubroutine) 82 = .ok (.iload 6, 2) := by decide +kernel
theorem dW_writeOutSubroutine_84 : decode (am_by jW_writeOutSubroutine) 84 = .ok (.iload 4, 2) := by decide +kernel
theorem dW_writeOutSubroutine_86 : decode (am_by jW_writeOutSubroutine) 86 = .ok (.if_icmp .ge 71, 3) := by decide +kernel
theorem dW_writeOutSubroutine_89 : decode (am_by jW_writeOutSubroutine) 89 = .ok (.aload_n 1, 1) := by decide +kernel
theorem dW_writeOutSubroutine_90 : decode (am_by jW_writeOutSubroutine) 90 = .ok (.getfield 38, 3) := by decide +kernel
theorem dW_writeOutSubroutine_93 : decode (am_by jW_writeOutSubroutine) 93 = .ok (.iload 6, 2) := by decide +kernel
theorem dW_writeOutSubroutine_95 : decode (am_by jW_writeOutSubroutine) 95 = .ok (.iaload, 1) := by decide +kernel
theorem dW_writeOutSubroutine_96 : decode (am_by jW_writeOutSubroutine) 96 = .ok (.istore 7, 2) := by decide +kernel
theorem dW_writeOutSubroutine_98 : decode (am_by jW_writeOutSubroutine) 98 = .ok (.iload 7, 2) := by decide +kernel
theorem dW_writeOutSubroutine_100 : decode (am_by jW_writeOutSubroutine) 100 = .ok (.invokestatic 41, 3) := by decide +kernel
theorem dW_writeOutSubroutine_103 : decode (am_by jW_writeOutSubroutine) 103 = .ok (.ifCond .eq 16, 3) := by decide +kernel
theorem dW_writeOutSubroutine_106 : decode (am_by jW_writeOutSubroutine) 106 = .ok (.aload_n 1, 1) := by decide +kernel
theorem dW_writeOutSubroutine_107 : decode (am_by jW_writeOutSubroutine) 107 = .ok (.getfield 22, 3) := by decide +kernel
theorem dW_writeOutSubroutine_110 : decode (am_by jW_writeOutSubroutine) 110 = .ok (.iload 6, 2) := by decide +kernel
theorem dW_writeOutSubroutine_112 : decode (am_by jW_writeOutSubroutine) 112 = .ok (.iaload, 1) := by decide +kernel
theorem dW_writeOutSubroutine_113 : decode (am_by jW_writeOutSubroutine) 113 = .ok (.iload 5, 2) := by decide +kernel
theorem dW_writeOutSubroutine_115 : decode (am_by jW_writeOutSubroutine) 115 = .ok (.iadd, 1) := by decide +kernel
theorem dW_writeOutSubroutine_116 : decode (am_by jW_writeOutSubroutine) 116 = .ok (.goto 10, 3) := by decide +kernel
theorem dW_writeOutSubroutine_119 : decode (am_by jW_writeOutSubroutine) 119 = .ok (.aload_n 1, 1) := by decide +kernel
theorem dW_writeOutSubroutine_120 : decode (am_by jW_writeOutSubroutine) 120 = .ok (.getfield 22, 3) := by decide +kernel
theorem dW_writeOutSubroutine_123 : decode (am_by jW_writeOutSubroutine) 123 = .ok (.iload 6, 2) := by decide +kernel
theorem dW_writeOutSubroutine_125 : decode (am_by jW_writeOutSubroutine) 125 = .ok (.iaload, 1) := by decide +kernel
theorem dW_writeOutSubroutine_126 : decode (am_by jW_writeOutSubroutine) 126 = .ok (.istore 8, 2) := by decide +kernel
theorem dW_writeOutSubroutine_128 : decode (am_by jW_writeOutSubroutine) 128 = .ok (.aload_n 0, 1) := by decide +kernel
theorem dW_writeOutSubroutine_129 : decode (am_by jW_writeOutSubroutine) 129 = .ok (.getfield 12, 3) := by decide +kernel
theorem dW_writeOutSubroutine_132 : decode (am_by jW_writeOutSubroutine) 132 = .ok (.iload 6, 2) := by decide +kernel
theorem dW_writeOutSubroutine_134 : decode (am_by jW_writeOutSubroutine) 134 = .ok (.iload 5, 2) := by decide +kernel
theorem dW_writeOutSubroutine_136 : decode (am_by jW_writeOutSubroutine) 136 = .ok (.iadd, 1) := by decide +kernel
theorem dW_writeOutSubroutine_137 : decode (am_by jW_writeOutSubroutine) 137 = .ok (.iload 7, 2) := by decide +kernel
theorem dW_writeOutSubroutine_139 : decode (am_by jW_writeOutSubroutine) 139 = .ok (.aload_n 1, 1) := by decide +kernel
theorem dW_writeOutSubroutine_140 : decode (am_by jW_writeOutSubroutine) 140 = .ok (.getfield 45, 3) := by decide +kernel
theorem dW_writeOutSubroutine_143 : decode (am_by jW_writeOutSubroutine) 143 = .ok (.iload 6, 2) := by decide +kernel
theorem dW_writeOutSubroutine_145 : decode (am_by jW_writeOutSubroutine) 145 = .ok (.iaload, 1) := by decide +kernel
theorem dW_writeOutSubroutine_146 : decode (am_by jW_writeOutSubroutine) 146 = .ok (.iload 8, 2) := by decide +kernel
theorem dW_writeOutSubroutine_148 : decode (am_by jW_writeOutSubroutine) 148 = .ok (.invokevirtual 48, 3) := by decide +kernel
theorem dW_writeOutSubroutine_151 : decode (am_by jW_writeOutSubroutine) 151 = .ok (.iinc 6 1, 3) := by decide +kernel
theorem dW_writeOutSubroutine_154 : decode (am_by jW_writeOutSubroutine) 154 = .ok (.goto (-72), 3) := by decide +kernel
theorem dW_writeOutSubroutine_157 : decode (am_by jW_writeOutSubroutine) 157 = .ok (.iconst 0, 1) := by decide +kernel
theorem dW_writeOutSubroutine_158 : decode (am_by jW_writeOutSubroutine) 158 = .ok (.istore 6, 2) := by decide +kernel
theorem dW_writeOutSubroutine_160 : decode (am_by jW_writeOutSubroutine) 160 = .ok (.iload 6, 2) := by decide +kernel
theorem dW_writeOutSubroutine_162 : decode (am_by jW_writeOutSubroutine) 162 = .ok (.aload_n 1, 1) := by decide +kernel
theorem dW_writeOutSubroutine_163 : decode (am_by jW_writeOutSubroutine) 163 = .ok (.getfield 52, 3) := by decide +kernel
theorem dW_writeOutSubroutine_166 : decode (am_by jW_writeOutSubroutine) 166 = .ok (.if_icmp .ge 19, 3) := by decide +kernel
theorem dW_writeOutSubroutine_169 : decode (am_by jW_writeOutSubroutine) 169 = .ok (.aload_n 0, 1) := by decide +kernel
theorem dW_writeOutSubroutine_170 : decode (am_by jW_writeOutSubroutine) 170 = .ok (.aload_n 1, 1) := by decide +kernel
theorem dW_writeOutSubroutine_171 : decode (am_by jW_writeOutSubroutine) 171 = .ok (.iload 6, 2) := by decide +kernel
theorem dW_writeOutSubroutine_173 : decode (am_by jW_writeOutSubroutine) 173 = .ok (.iload_n 3, 1) := by decide +kernel
theorem dW_writeOutSubroutine_174 : decode (am_by jW_writeOutSubroutine) 174 = .ok (.iload 4, 2) := by decide +kernel
theorem dW_writeOutSubroutine_176 : decode (am_by jW_writeOutSubroutine) 176 = .ok (.invokevirtual 56, 3) := by decide +kernel
theorem dW_writeOutSubroutine_179 : decode (am_by jW_writeOutSubroutine) 179 = .ok (.iinc 6 1, 3) := by decide +kernel
theorem dW_writeOutSubroutine_182 : decode (am_by jW_writeOutSubroutine) 182 = .ok (.goto (-22), 3) := by decide +kernel
theorem dW_writeOutSubroutine_185 : decode (am_by jW_writeOutSubroutine) 185 = .ok (.aload_n 0, 1) := by decide +kernel
theorem dW_writeOutSubroutine_186 : decode (am_by jW_writeOutSubroutine) 186 = .ok (.aload_n 1, 1) := by decide +kernel
theorem dW_writeOutSubroutine_187 : decode (am_by jW_writeOutSubroutine) 187 = .ok (.invokevirtual 60, 3) := by decide +kernel
theorem dW_writeOutSubroutine_190 : decode (am_by jW_writeOutSubroutine) 190 = .ok (.ireturn, 1) := by decide +kernel
theorem dW_writeOutCall_0 : decode (am_by jW_writeOutCall) 0 = .ok (.aload_n 3, 1) := by decide +kernel
theorem dW_writeOutCall_1 : decode (am_by jW_writeOutCall) 1 = .ok (.getfield 64, 3) := by decide +kernel
theorem dW_writeOutCall_4 : decode (am_by jW_writeOutCall) 4 = .ok (.istore 4, 2) := by decide +kernel
theorem dW_writeOutCall_6 : decode (am_by jW_writeOutCall) 6 = .ok (.aload_n 0, 1) := by decide +kernel
theorem dW_writeOutCall_7 : decode (am_by jW_writeOutCall) 7 = .ok (.aload_n 1, 1) := by decide +kernel
theorem dW_writeOutCall_8 : decode (am_by jW_writeOutCall) 8 = .ok (.iload_n 2, 1) := by decide +kernel
theorem dW_writeOutCall_9 : decode (am_by jW_writeOutCall) 9 = .ok (.iload 4, 2) := by decide +kernel
theorem dW_writeOutCall_11 : decode (am_by jW_writeOutCall) 11 = .ok (.aload_n 3, 1) := by decide +kernel
theorem dW_writeOutCall_12 : decode (am_by jW_writeOutCall) 12 = .ok (.getfield 67, 3) := by decide +kernel
theorem dW_writeOutCall_15 : decode (am_by jW_writeOutCall) 15 = .ok (.iadd, 1) := by decide +kernel
theorem dW_writeOutCall_16 : decode (am_by jW_writeOutCall) 16 = .ok (.invokevirtual 30, 3) := by decide +kernel
theorem dW_writeOutCall_19 : decode (am_by jW_writeOutCall) 19 = .ok (.aload_n 0, 1) := by decide +kernel
theorem dW_writeOutCall_20 : decode (am_by jW_writeOutCall) 20 = .ok (.getfield 34, 3) := by decide +kernel
theorem dW_writeOutCall_23 : decode (am_by jW_writeOutCall) 23 = .ok (.ifCond .eq 6, 3) := by decide +kernel
theorem dW_writeOutCall_26 : decode (am_by jW_writeOutCall) 26 = .ok (.bipush (-3), 2) := by decide +kernel
theorem dW_writeOutCall_28 : decode (am_by jW_writeOutCall) 28 = .ok (.ireturn, 1) := by decide +kernel
theorem dW_writeOutCall_29 : decode (am_by jW_writeOutCall) 29 = .ok (.aload_n 1, 1) := by decide +kernel
theorem dW_writeOutCall_30 : decode (am_by jW_writeOutCall) 30 = .ok (.invokevirtual 70, 3) := by decide +kernel
theorem dW_writeOutCall_33 : decode (am_by jW_writeOutCall) 33 = .ok (.iconst 1, 1) := by decide +kernel
theorem dW_writeOutCall_34 : decode (am_by jW_writeOutCall) 34 = .ok (.iadd, 1) := by decide +kernel
theorem dW_writeOutCall_35 : decode (am_by jW_writeOutCall) 35 = .ok (.istore 5, 2) := by decide +kernel
theorem dW_writeOutCall_37 : decode (am_by jW_writeOutCall) 37 = .ok (.iconst 0, 1) := by decide +kernel
theorem dW_writeOutCall_38 : decode (am_by jW_writeOutCall) 38 = .ok (.istore 6, 2) := by decide +kernel
theorem dW_writeOutCall_40 : decode (am_by jW_writeOutCall) 40 = .ok (.iload 6, 2) := by decide +kernel
theorem dW_writeOutCall_42 : decode (am_by jW_writeOutCall) 42 = .ok (.iload 4, 2) := by decide +kernel
theorem dW_writeOutCall_44 : decode (am_by jW_writeOutCall) 44 = .ok (.if_icmp .ge 32, 3) := by decide +kernel
theorem dW_writeOutCall_47 : decode (am_by jW_writeOutCall) 47 = .ok (.aload_n 0, 1) := by decide +kernel
theorem dW_writeOutCall_48 : decode (am_by jW_writeOutCall) 48 = .ok (.getfield 12, 3) := by decide +kernel
theorem dW_writeOutCall_51 : decode (am_by jW_writeOutCall) 51 = .ok (.iload_n 2, 1) := by decide +kernel
theorem dW_writeOutCall_52 : decode (am_by jW_writeOutCall) 52 = .ok (.iload 6, 2) := by decide +kernel
theorem dW_writeOutCall_54 : decode (am_by jW_writeOutCall) 54 = .ok (.iadd, 1) := by decide +kernel
theorem dW_writeOutCall_55 : decode (am_by jW_writeOutCall) 55 = .ok (.iconst 3, 1) := by decide +kernel
theorem dW_writeOutCall_56 : decode (am_by jW_writeOutCall) 56 = .ok (.iload 5, 2) := by decide +kernel
theorem dW_writeOutCall_58 : decode (am_by jW_writeOutCall) 58 = .ok (.iload 4, 2) := by decide +kernel
theorem dW_writeOutCall_60 : decode (am_by jW_writeOutCall) 60 = .ok (.iadd, 1) := by decide +kernel
theorem dW_writeOutCall_61 : decode (am_by jW_writeOutCall) 61 = .ok (.iconst 1, 1) := by decide +kernel
theorem dW_writeOutCall_62 : decode (am_by jW_writeOutCall) 62 = .ok (.isub, 1) := by decide +kernel
theorem dW_writeOutCall_63 : decode (am_by jW_writeOutCall) 63 = .ok (.iload 6, 2) := by decide +kernel
theorem dW_writeOutCall_65 : decode (am_by jW_writeOutCall) 65 = .ok (.isub, 1) := by decide +kernel
theorem dW_writeOutCall_66 : decode (am_by jW_writeOutCall) 66 = .ok (.iconst 0, 1) := by decide +kernel
theorem dW_writeOutCall_67 : decode (am_by jW_writeOutCall) 67 = .ok (.invokevirtual 48, 3) := by decide +kernel
theorem dW_writeOutCall_70 : decode (am_by jW_writeOutCall) 70 = .ok (.iinc 6 1, 3) := by decide +kernel
theorem dW_writeOutCall_73 : decode (am_by jW_writeOutCall) 73 = .ok (.goto (-33), 3) := by decide +kernel
theorem dW_writeOutCall_76 : decode (am_by jW_writeOutCall) 76 = .ok (.iload_n 2, 1) := by decide +kernel
theorem dW_writeOutCall_77 : decode (am_by jW_writeOutCall) 77 = .ok (.iload 4, 2) := by decide +kernel
theorem dW_writeOutCall_79 : decode (am_by jW_writeOutCall) 79 = .ok (.iadd, 1) := by decide +kernel
theorem dW_writeOutCall_80 : decode (am_by jW_writeOutCall) 80 = .ok (.istore 6, 2) := by decide +kernel
theorem dW_writeOutCall_82 : decode (am_by jW_writeOutCall) 82 = .ok (.iconst 0, 1) := by decide +kernel
theorem dW_writeOutCall_83 : decode (am_by jW_writeOutCall) 83 = .ok (.istore 7, 2) := by decide +kernel
theorem dW_writeOutCall_85 : decode (am_by jW_writeOutCall) 85 = .ok (.iload 7, 2) := by decide +kernel
theorem dW_writeOutCall_87 : decode (am_by jW_writeOutCall) 87 = .ok (.aload_n 3, 1) := by decide +kernel
theorem dW_writeOutCall_88 : decode (am_by jW_writeOutCall) 88 = .ok (.getfield 67, 3) := by decide +kernel
theorem dW_writeOutCall_91 : decode (am_by jW_writeOutCall) 91 = .ok (.if_icmp .ge 20, 3) := by decide +kernel
theorem dW_writeOutCall_94 : decode (am_by jW_writeOutCall) 94 = .ok (.aload_n 0, 1) := by decide +kernel
theorem dW_writeOutCall_95 : decode (am_by jW_writeOutCall) 95 = .ok (.aload_n 3, 1) := by decide +kernel
theorem dW_writeOutCall_96 : decode (am_by jW_writeOutCall) 96 = .ok (.iload 7, 2) := by decide +kernel
theorem dW_writeOutCall_98 : decode (am_by jW_writeOutCall) 98 = .ok (.iload 6, 2) := by decide +kernel
theorem dW_writeOutCall_100 : decode (am_by jW_writeOutCall) 100 = .ok (.iload 5, 2) := by decide +kernel
theorem dW_writeOutCall_102 : decode (am_by jW_writeOutCall) 102 = .ok (.invokevirtual 74, 3) := by decide +kernel
theorem dW_writeOutCall_105 : decode (am_by jW_writeOutCall) 105 = .ok (.iinc 7 1, 3) := by decide +kernel
theorem dW_writeOutCall_108 : decode (am_by jW_writeOutCall) 108 = .ok (.goto (-23), 3) := by decide +kernel
theorem dW_writeOutCall_111 : decode (am_by jW_writeOutCall) 111 = .ok (.iconst 0, 1) := by decide +kernel
theorem dW_writeOutCall_112 : decode (am_by jW_writeOutCall) 112 = .ok (.istore 7, 2) := by decide +kernel
theorem dW_writeOutCall_114 : decode (am_by jW_writeOutCall) 114 = .ok (.iload 7, 2) := by decide +kernel
theorem dW_writeOutCall_116 : decode (am_by jW_writeOutCall) 116 = .ok (.aload_n 3, 1) := by decide +kernel
theorem dW_writeOutCall_117 : decode (am_by jW_writeOutCall) 117 = .ok (.getfield 52, 3) := by decide +kernel
theorem dW_writeOutCall_120 : decode (am_by jW_writeOutCall) 120 = .ok (.if_icmp .ge 61, 3) := by decide +kernel
theorem dW_writeOutCall_123 : decode (am_by jW_writeOutCall) 123 = .ok (.aload_n 3, 1) := by decide +kernel
theorem dW_writeOutCall_124 : decode (am_by jW_writeOutCall) 124 = .ok (.getfield 77, 3) := by decide +kernel
theorem dW_writeOutCall_127 : decode (am_by jW_writeOutCall) 127 = .ok (.iload 7, 2) := by decide +kernel
theorem dW_writeOutCall_129 : decode (am_by jW_writeOutCall) 129 = .ok (.iaload, 1) := by decide +kernel
theorem dW_writeOutCall_130 : decode (am_by jW_writeOutCall) 130 = .ok (.aload_n 3, 1) := by decide +kernel
theorem dW_writeOutCall_131 : decode (am_by jW_writeOutCall) 131 = .ok (.getfield 67, 3) := by decide +kernel
theorem dW_writeOutCall_134 : decode (am_by jW_writeOutCall) 134 = .ok (.invokestatic 80, 3) := by decide +kernel
theorem dW_writeOutCall_137 : decode (am_by jW_writeOutCall) 137 = .ok (.istore 8, 2) := by decide +kernel
theorem dW_writeOutCall_139 : decode (am_by jW_writeOutCall) 139 = .ok (.aload_n 0, 1) := by decide +kernel
theorem dW_writeOutCall_140 : decode (am_by jW_writeOutCall) 140 = .ok (.iload 6, 2) := by decide +kernel
theorem dW_writeOutCall_142 : decode (am_by jW_writeOutCall) 142 = .ok (.aload_n 3, 1) := by decide +kernel
theorem dW_writeOutCall_143 : decode (am_by jW_writeOutCall) 143 = .ok (.getfield 86, 3) := by decide +kernel
theorem dW_writeOutCall_146 : decode (am_by jW_writeOutCall) 146 = .ok (.iload 7, 2) := by decide +kernel
theorem dW_writeOutCall_148 : decode (am_by jW_writeOutCall) 148 = .ok (.iaload, 1) := by decide +kernel
theorem dW_writeOutCall_149 : decode (am_by jW_writeOutCall) 149 = .ok (.iadd, 1) := by decide +kernel
theorem dW_writeOutCall_150 : decode (am_by jW_writeOutCall) 150 = .ok (.iload 6, 2) := by decide +kernel
theorem dW_writeOutCall_152 : decode (am_by jW_writeOutCall) 152 = .ok (.iload 8, 2) := by decide +kernel
theorem dW_writeOutCall_154 : decode (am_by jW_writeOutCall) 154 = .ok (.iadd, 1) := by decide +kernel
theorem dW_writeOutCall_155 : decode (am_by jW_writeOutCall) 155 = .ok (.iload 6, 2) := by decide +kernel
theorem dW_writeOutCall_157 : decode (am_by jW_writeOutCall) 157 = .ok (.aload_n 3, 1) := by decide +kernel
theorem dW_writeOutCall_158 : decode (am_by jW_writeOutCall) 158 = .ok (.getfield 89, 3) := by decide +kernel
theorem dW_writeOutCall_161 : decode (am_by jW_writeOutCall) 161 = .ok (.iload 7, 2) := by decide +kernel
theorem dW_writeOutCall_163 : decode (am_by jW_writeOutCall) 163 = .ok (.iaload, 1) := by decide +kernel
theorem dW_writeOutCall_164 : decode (am_by jW_writeOutCall) 164 = .ok (.iadd, 1) := by decide +kernel
theorem dW_writeOutCall_165 : decode (am_by jW_writeOutCall) 165 = .ok (.aload_n 3, 1) := by decide +kernel
theorem dW_writeOutCall_166 : decode (am_by jW_writeOutCall) 166 = .ok (.getfield 92, 3) := by decide +kernel
theorem dW_writeOutCall_169 : decode (am_by jW_writeOutCall) 169 = .ok (.iload 7, 2) := by decide +kernel
theorem dW_writeOutCall_171 : decode (am_by jW_writeOutCall) 171 = .ok (.iaload, 1) := by decide +kernel
theorem dW_writeOutCall_172 : decode (am_by jW_writeOutCall) 172 = .ok (.invokevirtual 95, 3) := by decide +kernel
theorem dW_writeOutCall_175 : decode (am_by jW_writeOutCall) 175 = .ok (.iinc 7 1, 3) := by decide +kernel
theorem dW_writeOutCall_178 : decode (am_by jW_writeOutCall) 178 = .ok (.goto (-64), 3) := by decide +kernel
theorem dW_writeOutCall_181 : decode (am_by jW_writeOutCall) 181 = .ok (.iconst 0, 1) := by decide +kernel
theorem dW_writeOutCall_182 : decode (am_by jW_writeOutCall) 182 = .ok (.istore 7, 2) := by decide +kernel
theorem dW_writeOutCall_184 : decode (am_by jW_writeOutCall) 184 = .ok (.iload 7, 2) := by decide +kernel
theorem dW_writeOutCall_186 : decode (am_by jW_writeOutCall) 186 = .ok (.aload_n 1, 1) := by decide +kernel
theorem dW_writeOutCall_187 : decode (am_by jW_writeOutCall) 187 = .ok (.getfield 52, 3) := by decide +kernel
theorem dW_writeOutCall_190 : decode (am_by jW_writeOutCall) 190 = .ok (.if_icmp .ge 53, 3) := by decide +kernel
theorem dW_writeOutCall_193 : decode (am_by jW_writeOutCall) 193 = .ok (.aload_n 0, 1) := by decide +kernel
theorem dW_writeOutCall_194 : decode (am_by jW_writeOutCall) 194 = .ok (.aload_n 0, 1) := by decide +kernel
theorem dW_writeOutCall_195 : decode (am_by jW_writeOutCall) 195 = .ok (.aload_n 1, 1) := by decide +kernel
theorem dW_writeOutCall_196 : decode (am_by jW_writeOutCall) 196 = .ok (.getfield 86, 3) := by decide +kernel
theorem dW_writeOutCall_199 : decode (am_by jW_writeOutCall) 199 = .ok (.iload 7, 2) := by decide +kernel
theorem dW_writeOutCall_201 : decode (am_by jW_writeOutCall) 201 = .ok (.iaload, 1) := by decide +kernel
theorem dW_writeOutCall_202 : decode (am_by jW_writeOutCall) 202 = .ok (.invokevirtual 98, 3) := by decide +kernel
theorem dW_writeOutCall_205 : decode (am_by jW_writeOutCall) 205 = .ok (.aload_n 0, 1) := by decide +kernel
theorem dW_writeOutCall_206 : decode (am_by jW_writeOutCall) 206 = .ok (.aload_n 1, 1) := by decide +kernel
theorem dW_writeOutCall_207 : decode (am_by jW_writeOutCall) 207 = .ok (.getfield 77, 3) := by decide +kernel
theorem dW_writeOutCall_210 : decode (am_by jW_writeOutCall) 210 = .ok (.iload 7, 2) := by decide +kernel
theorem dW_writeOutCall_212 : decode (am_by jW_writeOutCall) 212 = .ok (.iaload, 1) := by decide +kernel
theorem dW_writeOutCall_213 : decode (am_by jW_writeOutCall) 213 = .ok (.invokevirtual 98, 3) := by decide +kernel
theorem dW_writeOutCall_216 : decode (am_by jW_writeOutCall) 216 = .ok (.aload_n 0, 1) := by decide +kernel
theorem dW_writeOutCall_217 : decode (am_by jW_writeOutCall) 217 = .ok (.aload_n 1, 1) := by decide +kernel
theorem dW_writeOutCall_218 : decode (am_by jW_writeOutCall) 218 = .ok (.getfield 89, 3) := by decide +kernel
theorem dW_writeOutCall_221 : decode (am_by jW_writeOutCall) 221 = .ok (.iload 7, 2) := by decide +kernel
theorem dW_writeOutCall_223 : decode (am_by jW_writeOutCall) 223 = .ok (.iaload, 1) := by decide +kernel
theorem dW_writeOutCall_224 : decode (am_by jW_writeOutCall) 224 = .ok (.invokevirtual 98, 3) := by decide +kernel
theorem dW_writeOutCall_227 : decode (am_by jW_writeOutCall) 227 = .ok (.aload_n 1, 1) := by decide +kernel
theorem dW_writeOutCall_228 : decode (am_by jW_writeOutCall) 228 = .ok (.getfield 92, 3) := by decide +kernel
theorem dW_writeOutCall_231 : decode (am_by jW_writeOutCall) 231 = .ok (.iload 7, 2) := by decide +kernel
theorem dW_writeOutCall_233 : decode (am_by jW_writeOutCall) 233 = .ok (.iaload, 1) := by decide +kernel
theorem dW_writeOutCall_234 : decode (am_by jW_writeOutCall) 234 = .ok (.invokevirtual 95, 3) := by decide +kernel
theorem dW_writeOutCall_237 : decode (am_by jW_writeOutCall) 237 = .ok (.iinc 7 1, 3) := by decide +kernel
theorem dW_writeOutCall_240 : decode (am_by jW_writeOutCall) 240 = .ok (.goto (-56), 3) := by decide +kernel
theorem dW_writeOutCall_243 : decode (am_by jW_writeOutCall) 243 = .ok (.aload_n 0, 1) := by decide +kernel
theorem dW_writeOutCall_244 : decode (am_by jW_writeOutCall) 244 = .ok (.aload_n 1, 1) := by decide +kernel
theorem dW_writeOutCall_245 : decode (am_by jW_writeOutCall) 245 = .ok (.invokevirtual 60, 3) := by decide +kernel
theorem dW_writeOutCall_248 : decode (am_by jW_writeOutCall) 248 = .ok (.ireturn, 1) := by decide +kernel
theorem dW_putCalled_0 : decode (am_by jW_putCalled) 0 = .ok (.aload_n 1, 1) := by decide +kernel
theorem dW_putCalled_1 : decode (am_by jW_putCalled) 1 = .ok (.getfield 38, 3) := by decide +kernel
theorem dW_putCalled_4 : decode (am_by jW_putCalled) 4 = .ok (.iload_n 2, 1) := by decide +kernel
theorem dW_putCalled_5 : decode (am_by jW_putCalled) 5 = .ok (.iaload, 1) := by decide +kernel
theorem dW_putCalled_6 : decode (am_by jW_putCalled) 6 = .ok (.istore 5, 2) := by decide +kernel
theorem dW_putCalled_8 : decode (am_by jW_putCalled) 8 = .ok (.iload 5, 2) := by decide +kernel
theorem dW_putCalled_10 : decode (am_by jW_putCalled) 10 = .ok (.bipush 22, 2) := by decide +kernel
theorem dW_putCalled_12 : decode (am_by jW_putCalled) 12 = .ok (.if_icmp .ne 23, 3) := by decide +kernel
theorem dW_putCalled_15 : decode (am_by jW_putCalled) 15 = .ok (.aload_n 0, 1) := by decide +kernel
theorem dW_putCalled_16 : decode (am_by jW_putCalled) 16 = .ok (.getfield 12, 3) := by decide +kernel
theorem dW_putCalled_19 : decode (am_by jW_putCalled) 19 = .ok (.iload_n 3, 1) := by decide +kernel
theorem dW_putCalled_20 : decode (am_by jW_putCalled) 20 = .ok (.iload_n 2, 1) := by decide +kernel
theorem dW_putCalled_21 : decode (am_by jW_putCalled) 21 = .ok (.iadd, 1) := by decide +kernel
theorem dW_putCalled_22 : decode (am_by jW_putCalled) 22 = .ok (.bipush 11, 2) := by decide +kernel
theorem dW_putCalled_24 : decode (am_by jW_putCalled) 24 = .ok (.iconst 0, 1) := by decide +kernel
theorem dW_putCalled_25 : decode (am_by jW_putCalled) 25 = .ok (.iload_n 3, 1) := by decide +kernel
theorem dW_putCalled_26 : decode (am_by jW_putCalled) 26 = .ok (.aload_n 1, 1) := by decide +kernel
theorem dW_putCalled_27 : decode (am_by jW_putCalled) 27 = .ok (.getfield 67, 3) := by decide +kernel
theorem dW_putCalled_30 : decode (am_by jW_putCalled) 30 = .ok (.iadd, 1) := by decide +kernel
theorem dW_putCalled_31 : decode (am_by jW_putCalled) 31 = .ok (.invokevirtual 48, 3) := by decide +kernel
theorem dW_putCalled_34 : decode (am_by jW_putCalled) 34 = .ok (.return_, 1) := by decide +kernel
theorem dW_putCalled_35 : decode (am_by jW_putCalled) 35 = .ok (.iload 5, 2) := by decide +kernel
theorem dW_putCalled_37 : decode (am_by jW_putCalled) 37 = .ok (.iconst 2, 1) := by decide +kernel
theorem dW_putCalled_38 : decode (am_by jW_putCalled) 38 = .ok (.if_icmp .eq 16, 3) := by decide +kernel
theorem dW_putCalled_41 : decode (am_by jW_putCalled) 41 = .ok (.iload 5, 2) := by decide +kernel
theorem dW_putCalled_43 : decode (am_by jW_putCalled) 43 = .ok (.iconst 3, 1) := by decide +kernel
theorem dW_putCalled_44 : decode (am_by jW_putCalled) 44 = .ok (.if_icmp .eq 10, 3) := by decide +kernel
theorem dW_putCalled_47 : decode (am_by jW_putCalled) 47 = .ok (.iload 5, 2) := by decide +kernel
theorem dW_putCalled_49 : decode (am_by jW_putCalled) 49 = .ok (.bipush 27, 2) := by decide +kernel
theorem dW_putCalled_51 : decode (am_by jW_putCalled) 51 = .ok (.if_icmp .ne 7, 3) := by decide +kernel
theorem dW_putCalled_54 : decode (am_by jW_putCalled) 54 = .ok (.iconst 1, 1) := by decide +kernel
theorem dW_putCalled_55 : decode (am_by jW_putCalled) 55 = .ok (.goto 4, 3) := by decide +kernel
theorem dW_putCalled_58 : decode (am_by jW_putCalled) 58 = .ok (.iconst 0, 1) := by decide +kernel
theorem dW_putCalled_59 : decode (am_by jW_putCalled) 59 = .ok (.istore 6, 2) := by decide +kernel
theorem dW_putCalled_61 : decode (am_by jW_putCalled) 61 = .ok (.iload 6, 2) := by decide +kernel
theorem dW_putCalled_63 : decode (am_by jW_putCalled) 63 = .ok (.ifCond .eq 15, 3) := by decide +kernel
theorem dW_putCalled_66 : decode (am_by jW_putCalled) 66 = .ok (.aload_n 1, 1) := by decide +kernel
theorem dW_putCalled_67 : decode (am_by jW_putCalled) 67 = .ok (.getfield 45, 3) := by decide +kernel
theorem dW_putCalled_70 : decode (am_by jW_putCalled) 70 = .ok (.iload_n 2, 1) := by decide +kernel
theorem dW_putCalled_71 : decode (am_by jW_putCalled) 71 = .ok (.iaload, 1) := by decide +kernel
theorem dW_putCalled_72 : decode (am_by jW_putCalled) 72 = .ok (.iload 4, 2) := by decide +kernel
theorem dW_putCalled_74 : decode (am_by jW_putCalled) 74 = .ok (.iadd, 1) := by decide +kernel
theorem dW_putCalled_75 : decode (am_by jW_putCalled) 75 = .ok (.goto 9, 3) := by decide +kernel
theorem dW_putCalled_78 : decode (am_by jW_putCalled) 78 = .ok (.aload_n 1, 1) := by decide +kernel
theorem dW_putCalled_79 : decode (am_by jW_putCalled) 79 = .ok (.getfield 45, 3) := by decide +kernel
theorem dW_putCalled_82 : decode (am_by jW_putCalled) 82 = .ok (.iload_n 2, 1) := by decide +kernel
theorem dW_putCalled_83 : decode (am_by jW_putCalled) 83 = .ok (.iaload, 1) := by decide +kernel
theorem dW_putCalled_84 : decode (am_by jW_putCalled) 84 = .ok (.istore 7, 2) := by decide +kernel
theorem dW_putCalled_86 : decode (am_by jW_putCalled) 86 = .ok (.iload 5, 2) := by decide +kernel
theorem dW_putCalled_88 : decode (am_by jW_putCalled) 88 = .ok (.invokestatic 41, 3) := by decide +kernel
theorem dW_putCalled_91 : decode (am_by jW_putCalled) 91 = .ok (.ifCond .eq 14, 3) := by decide +kernel
theorem dW_putCalled_94 : decode (am_by jW_putCalled) 94 = .ok (.aload_n 1, 1) := by decide +kernel
theorem dW_putCalled_95 : decode (am_by jW_putCalled) 95 = .ok (.getfield 22, 3) := by decide +kernel
theorem dW_putCalled_98 : decode (am_by jW_putCalled) 98 = .ok (.iload_n 2, 1) := by decide +kernel
theorem dW_putCalled_99 : decode (am_by jW_putCalled) 99 = .ok (.iaload, 1) := by decide +kernel
theorem dW_putCalled_100 : decode (am_by jW_putCalled) 100 = .ok (.iload_n 3, 1) := by decide +kernel
theorem dW_putCalled_101 : decode (am_by jW_putCalled) 101 = .ok (.iadd, 1) := by decide +kernel
theorem dW_putCalled_102 : decode (am_by jW_putCalled) 102 = .ok (.goto 9, 3) := by decide +kernel
theorem dW_putCalled_105 : decode (am_by jW_putCalled) 105 = .ok (.aload_n 1, 1) := by decide +kernel
theorem dW_putCalled_106 : decode (am_by jW_putCalled) 106 = .ok (.getfield 22, 3) := by decide +kernel
theorem dW_putCalled_109 : decode (am_by jW_putCalled) 109 = .ok (.iload_n 2, 1) := by decide +kernel
theorem dW_putCalled_110 : decode (am_by jW_putCalled) 110 = .ok (.iaload, 1) := by decide +kernel
theorem dW_putCalled_111 : decode (am_by jW_putCalled) 111 = .ok (.istore 8, 2) := by decide +kernel
theorem dW_putCalled_113 : decode (am_by jW_putCalled) 113 = .ok (.aload_n 0, 1) := by decide +kernel
theorem dW_putCalled_114 : decode (am_by jW_putCalled) 114 = .ok (.getfield 12, 3) := by decide +kernel
theorem dW_putCalled_117 : decode (am_by jW_putCalled) 117 = .ok (.iload_n 3, 1) := by decide +kernel
theorem dW_putCalled_118 : decode (am_by jW_putCalled) 118 = .ok (.iload_n 2, 1) := by decide +kernel
theorem dW_putCalled_119 : decode (am_by jW_putCalled) 119 = .ok (.iadd, 1) := by decide +kernel
theorem dW_putCalled_120 : decode (am_by jW_putCalled) 120 = .ok (.iload 5, 2) := by decide +kernel
theorem dW_putCalled_122 : decode (am_by jW_putCalled) 122 = .ok (.iload 7, 2) := by decide +kernel
theorem dW_putCalled_124 : decode (am_by jW_putCalled) 124 = .ok (.iload 8, 2) := by decide +kernel
theorem dW_putCalled_126 : decode (am_by jW_putCalled) 126 = .ok (.invokevirtual 48, 3) := by decide +kernel
theorem dW_putCalled_129 : decode (am_by jW_putCalled) 129 = .ok (.return_, 1) := by decide +kernel
theorem dW_spread_0 : decode (am_by jW_spread) 0 = .ok (.aload_n 0, 1) := by decide +kernel
theorem dW_spread_1 : decode (am_by jW_spread) 1 = .ok (.iload_n 2, 1) := by decide +kernel
theorem dW_spread_2 : decode (am_by jW_spread) 2 = .ok (.putfield 101, 3) := by decide +kernel
theorem dW_spread_5 : decode (am_by jW_spread) 5 = .ok (.aload_n 0, 1) := by decide +kernel
theorem dW_spread_6 : decode (am_by jW_spread) 6 = .ok (.iload_n 3, 1) := by decide +kernel
theorem dW_spread_7 : decode (am_by jW_spread) 7 = .ok (.iconst 1, 1) := by decide +kernel
theorem dW_spread_8 : decode (am_by jW_spread) 8 = .ok (.isub, 1) := by decide +kernel
theorem dW_spread_9 : decode (am_by jW_spread) 9 = .ok (.putfield 104, 3) := by decide +kernel
theorem dW_spread_12 : decode (am_by jW_spread) 12 = .ok (.aload_n 0, 1) := by decide +kernel
theorem dW_spread_13 : decode (am_by jW_spread) 13 = .ok (.aload_n 1, 1) := by decide +kernel
theorem dW_spread_14 : decode (am_by jW_spread) 14 = .ok (.getfield 67, 3) := by decide +kernel
theorem dW_spread_17 : decode (am_by jW_spread) 17 = .ok (.aload_n 0, 1) := by decide +kernel
theorem dW_spread_18 : decode (am_by jW_spread) 18 = .ok (.getfield 104, 3) := by decide +kernel
theorem dW_spread_21 : decode (am_by jW_spread) 21 = .ok (.iadd, 1) := by decide +kernel
theorem dW_spread_22 : decode (am_by jW_spread) 22 = .ok (.bipush 60, 2) := by decide +kernel
theorem dW_spread_24 : decode (am_by jW_spread) 24 = .ok (.if_icmp .le 7, 3) := by decide +kernel
theorem dW_spread_27 : decode (am_by jW_spread) 27 = .ok (.iconst 1, 1) := by decide +kernel
theorem dW_spread_28 : decode (am_by jW_spread) 28 = .ok (.goto 4, 3) := by decide +kernel
theorem dW_spread_31 : decode (am_by jW_spread) 31 = .ok (.iconst 0, 1) := by decide +kernel
theorem dW_spread_32 : decode (am_by jW_spread) 32 = .ok (.putfield 34, 3) := by decide +kernel
theorem dW_spread_35 : decode (am_by jW_spread) 35 = .ok (.aload_n 0, 1) := by decide +kernel
theorem dW_spread_36 : decode (am_by jW_spread) 36 = .ok (.getfield 34, 3) := by decide +kernel
theorem dW_spread_39 : decode (am_by jW_spread) 39 = .ok (.ifCond .eq 4, 3) := by decide +kernel
theorem dW_spread_42 : decode (am_by jW_spread) 42 = .ok (.return_, 1) := by decide +kernel
theorem dW_spread_43 : decode (am_by jW_spread) 43 = .ok (.aload_n 0, 1) := by decide +kernel
theorem dW_spread_44 : decode (am_by jW_spread) 44 = .ok (.getfield 12, 3) := by decide +kernel
theorem dW_spread_47 : decode (am_by jW_spread) 47 = .ok (.aload_n 1, 1) := by decide +kernel
theorem dW_spread_48 : decode (am_by jW_spread) 48 = .ok (.getfield 64, 3) := by decide +kernel
theorem dW_spread_51 : decode (am_by jW_spread) 51 = .ok (.aload_n 1, 1) := by decide +kernel
theorem dW_spread_52 : decode (am_by jW_spread) 52 = .ok (.getfield 107, 3) := by decide +kernel
theorem dW_spread_55 : decode (am_by jW_spread) 55 = .ok (.invokevirtual 110, 3) := by decide +kernel
theorem dW_spread_58 : decode (am_by jW_spread) 58 = .ok (.aload_n 0, 1) := by decide +kernel
theorem dW_spread_59 : decode (am_by jW_spread) 59 = .ok (.getfield 12, 3) := by decide +kernel
theorem dW_spread_62 : decode (am_by jW_spread) 62 = .ok (.aload_n 1, 1) := by decide +kernel
theorem dW_spread_63 : decode (am_by jW_spread) 63 = .ok (.getfield 67, 3) := by decide +kernel
theorem dW_spread_66 : decode (am_by jW_spread) 66 = .ok (.aload_n 0, 1) := by decide +kernel
theorem dW_spread_67 : decode (am_by jW_spread) 67 = .ok (.getfield 104, 3) := by decide +kernel
theorem dW_spread_70 : decode (am_by jW_spread) 70 = .ok (.iadd, 1) := by decide +kernel
theorem dW_spread_71 : decode (am_by jW_spread) 71 = .ok (.putfield 67, 3) := by decide +kernel
theorem dW_spread_74 : decode (am_by jW_spread) 74 = .ok (.iconst 0, 1) := by decide +kernel
theorem dW_spread_75 : decode (am_by jW_spread) 75 = .ok (.istore 4, 2) := by decide +kernel
theorem dW_spread_77 : decode (am_by jW_spread) 77 = .ok (.iload 4, 2) := by decide +kernel
theorem dW_spread_79 : decode (am_by jW_spread) 79 = .ok (.aload_n 1, 1) := by decide +kernel
theorem dW_spread_80 : decode (am_by jW_spread) 80 = .ok (.getfield 67, 3) := by decide +kernel
theorem dW_spread_83 : decode (am_by jW_spread) 83 = .ok (.if_icmp .ge 86, 3) := by decide +kernel
theorem dW_spread_86 : decode (am_by jW_spread) 86 = .ok (.aload_n 1, 1) := by decide +kernel
theorem dW_spread_87 : decode (am_by jW_spread) 87 = .ok (.getfield 38, 3) := by decide +kernel
theorem dW_spread_90 : decode (am_by jW_spread) 90 = .ok (.iload 4, 2) := by decide +kernel
theorem dW_spread_92 : decode (am_by jW_spread) 92 = .ok (.iaload, 1) := by decide +kernel
theorem dW_spread_93 : decode (am_by jW_spread) 93 = .ok (.istore 5, 2) := by decide +kernel
theorem dW_spread_95 : decode (am_by jW_spread) 95 = .ok (.iload 5, 2) := by decide +kernel
theorem dW_spread_97 : decode (am_by jW_spread) 97 = .ok (.invokestatic 41, 3) := by decide +kernel
theorem dW_spread_100 : decode (am_by jW_spread) 100 = .ok (.ifCond .ne 10, 3) := by decide +kernel
theorem dW_spread_103 : decode (am_by jW_spread) 103 = .ok (.iload 5, 2) := by decide +kernel
theorem dW_spread_105 : decode (am_by jW_spread) 105 = .ok (.bipush 23, 2) := by decide +kernel
theorem dW_spread_107 : decode (am_by jW_spread) 107 = .ok (.if_icmp .ne 17, 3) := by decide +kernel
theorem dW_spread_110 : decode (am_by jW_spread) 110 = .ok (.aload_n 0, 1) := by decide +kernel
theorem dW_spread_111 : decode (am_by jW_spread) 111 = .ok (.aload_n 1, 1) := by decide +kernel
theorem dW_spread_112 : decode (am_by jW_spread) 112 = .ok (.getfield 22, 3) := by decide +kernel
theorem dW_spread_115 : decode (am_by jW_spread) 115 = .ok (.iload 4, 2) := by decide +kernel
theorem dW_spread_117 : decode (am_by jW_spread) 117 = .ok (.iaload, 1) := by decide +kernel
theorem dW_spread_118 : decode (am_by jW_spread) 118 = .ok (.invokevirtual 98, 3) := by decide +kernel
theorem dW_spread_121 : decode (am_by jW_spread) 121 = .ok (.goto 10, 3) := by decide +kernel
theorem dW_spread_124 : decode (am_by jW_spread) 124 = .ok (.aload_n 1, 1) := by decide +kernel
theorem dW_spread_125 : decode (am_by jW_spread) 125 = .ok (.getfield 22, 3) := by decide +kernel
theorem dW_spread_128 : decode (am_by jW_spread) 128 = .ok (.iload 4, 2) := by decide +kernel
theorem dW_spread_130 : decode (am_by jW_spread) 130 = .ok (.iaload, 1) := by decide +kernel
theorem dW_spread_131 : decode (am_by jW_spread) 131 = .ok (.istore 6, 2) := by decide +kernel
theorem dW_spread_133 : decode (am_by jW_spread) 133 = .ok (.iload 4, 2) := by decide +kernel
theorem dW_spread_135 : decode (am_by jW_spread) 135 = .ok (.iload_n 2, 1) := by decide +kernel
theorem dW_spread_136 : decode (am_by jW_spread) 136 = .ok (.if_icmp .eq 27, 3) := by decide +kernel
theorem dW_spread_139 : decode (am_by jW_spread) 139 = .ok (.aload_n 0, 1) := by decide +kernel
theorem dW_spread_140 : decode (am_by jW_spread) 140 = .ok (.getfield 12, 3) := by decide +kernel
theorem dW_spread_143 : decode (am_by jW_spread) 143 = .ok (.aload_n 0, 1) := by decide +kernel
theorem dW_spread_144 : decode (am_by jW_spread) 144 = .ok (.iload 4, 2) := by decide +kernel
theorem dW_spread_146 : decode (am_by jW_spread) 146 = .ok (.invokevirtual 98, 3) := by decide +kernel
theorem dW_spread_149 : decode (am_by jW_spread) 149 = .ok (.iload 5, 2) := by decide +kernel
theorem dW_spread_151 : decode (am_by jW_spread) 151 = .ok (.aload_n 1, 1) := by decide +kernel
theorem dW_spread_152 : decode (am_by jW_spread) 152 = .ok (.getfield 45, 3) := by decide +kernel
theorem dW_spread_155 : decode (am_by jW_spread) 155 = .ok (.iload 4, 2) := by decide +kernel
theorem dW_spread_157 : decode (am_by jW_spread) 157 = .ok (.iaload, 1) := by decide +kernel
theorem dW_spread_158 : decode (am_by jW_spread) 158 = .ok (.iload 6, 2) := by decide +kernel
theorem dW_spread_160 : decode (am_by jW_spread) 160 = .ok (.invokevirtual 48, 3) := by decide +kernel
theorem dW_spread_163 : decode (am_by jW_spread) 163 = .ok (.iinc 4 1, 3) := by decide +kernel
theorem dW_spread_166 : decode (am_by jW_spread) 166 = .ok (.goto (-89), 3) := by decide +kernel
theorem dW_spread_169 : decode (am_by jW_spread) 169 = .ok (.return_, 1) := by decide +kernel
theorem dW_moved_0 : decode (am_by jW_moved) 0 = .ok (.iload_n 1, 1) := by decide +kernel
theorem dW_moved_1 : decode (am_by jW_moved) 1 = .ok (.aload_n 0, 1) := by decide +kernel
theorem dW_moved_2 : decode (am_by jW_moved) 2 = .ok (.getfield 101, 3) := by decide +kernel
theorem dW_moved_5 : decode (am_by jW_moved) 5 = .ok (.if_icmp .le 12, 3) := by decide +kernel
theorem dW_moved_8 : decode (am_by jW_moved) 8 = .ok (.iload_n 1, 1) := by decide +kernel
theorem dW_moved_9 : decode (am_by jW_moved) 9 = .ok (.aload_n 0, 1) := by decide +kernel
theorem dW_moved_10 : decode (am_by jW_moved) 10 = .ok (.getfield 104, 3) := by decide +kernel
theorem dW_moved_13 : decode (am_by jW_moved) 13 = .ok (.iadd, 1) := by decide +kernel
theorem dW_moved_14 : decode (am_by jW_moved) 14 = .ok (.goto 4, 3) := by decide +kernel
theorem dW_moved_17 : decode (am_by jW_moved) 17 = .ok (.iload_n 1, 1) := by decide +kernel
theorem dW_moved_18 : decode (am_by jW_moved) 18 = .ok (.ireturn, 1) := by decide +kernel
theorem dW_splitRow_0 : decode (am_by jW_splitRow) 0 = .ok (.aload_n 1, 1) := by decide +kernel
theorem dW_splitRow_1 : decode (am_by jW_splitRow) 1 = .ok (.getfield 86, 3) := by decide +kernel
theorem dW_splitRow_4 : decode (am_by jW_splitRow) 4 = .ok (.iload_n 2, 1) := by decide +kernel
theorem dW_splitRow_5 : decode (am_by jW_splitRow) 5 = .ok (.iaload, 1) := by decide +kernel
theorem dW_splitRow_6 : decode (am_by jW_splitRow) 6 = .ok (.istore 5, 2) := by decide +kernel
theorem dW_splitRow_8 : decode (am_by jW_splitRow) 8 = .ok (.aload_n 1, 1) := by decide +kernel
theorem dW_splitRow_9 : decode (am_by jW_splitRow) 9 = .ok (.getfield 77, 3) := by decide +kernel
theorem dW_splitRow_12 : decode (am_by jW_splitRow) 12 = .ok (.iload_n 2, 1) := by decide +kernel
theorem dW_splitRow_13 : decode (am_by jW_splitRow) 13 = .ok (.iaload, 1) := by decide +kernel
theorem dW_splitRow_14 : decode (am_by jW_splitRow) 14 = .ok (.istore 6, 2) := by decide +kernel
theorem dW_splitRow_16 : decode (am_by jW_splitRow) 16 = .ok (.aload_n 0, 1) := by decide +kernel
theorem dW_splitRow_17 : decode (am_by jW_splitRow) 17 = .ok (.aload_n 1, 1) := by decide +kernel
theorem dW_splitRow_18 : decode (am_by jW_splitRow) 18 = .ok (.getfield 89, 3) := by decide +kernel
theorem dW_splitRow_21 : decode (am_by jW_splitRow) 21 = .ok (.iload_n 2, 1) := by decide +kernel
theorem dW_splitRow_22 : decode (am_by jW_splitRow) 22 = .ok (.iaload, 1) := by decide +kernel
theorem dW_splitRow_23 : decode (am_by jW_splitRow) 23 = .ok (.invokevirtual 98, 3) := by decide +kernel
theorem dW_splitRow_26 : decode (am_by jW_splitRow) 26 = .ok (.istore 7, 2) := by decide +kernel
theorem dW_splitRow_28 : decode (am_by jW_splitRow) 28 = .ok (.aload_n 1, 1) := by decide +kernel
theorem dW_splitRow_29 : decode (am_by jW_splitRow) 29 = .ok (.getfield 92, 3) := by decide +kernel
theorem dW_splitRow_32 : decode (am_by jW_splitRow) 32 = .ok (.iload_n 2, 1) := by decide +kernel
theorem dW_splitRow_33 : decode (am_by jW_splitRow) 33 = .ok (.iaload, 1) := by decide +kernel
theorem dW_splitRow_34 : decode (am_by jW_splitRow) 34 = .ok (.istore 8, 2) := by decide +kernel
theorem dW_splitRow_36 : decode (am_by jW_splitRow) 36 = .ok (.aload_n 0, 1) := by decide +kernel
theorem dW_splitRow_37 : decode (am_by jW_splitRow) 37 = .ok (.iload 5, 2) := by decide +kernel
theorem dW_splitRow_39 : decode (am_by jW_splitRow) 39 = .ok (.iload 6, 2) := by decide +kernel
theorem dW_splitRow_41 : decode (am_by jW_splitRow) 41 = .ok (.aload_n 0, 1) := by decide +kernel
theorem dW_splitRow_42 : decode (am_by jW_splitRow) 42 = .ok (.getfield 101, 3) := by decide +kernel
theorem dW_splitRow_45 : decode (am_by jW_splitRow) 45 = .ok (.invokestatic 80, 3) := by decide +kernel
theorem dW_splitRow_48 : decode (am_by jW_splitRow) 48 = .ok (.iload 7, 2) := by decide +kernel
theorem dW_splitRow_50 : decode (am_by jW_splitRow) 50 = .ok (.iload 8, 2) := by decide +kernel
theorem dW_splitRow_52 : decode (am_by jW_splitRow) 52 = .ok (.invokevirtual 95, 3) := by decide +kernel
theorem dW_splitRow_55 : decode (am_by jW_splitRow) 55 = .ok (.aload_n 0, 1) := by decide +kernel
theorem dW_splitRow_56 : decode (am_by jW_splitRow) 56 = .ok (.getfield 101, 3) := by decide +kernel
theorem dW_splitRow_59 : decode (am_by jW_splitRow) 59 = .ok (.iload_n 3, 1) := by decide +kernel
theorem dW_splitRow_60 : decode (am_by jW_splitRow) 60 = .ok (.isub, 1) := by decide +kernel
theorem dW_splitRow_61 : decode (am_by jW_splitRow) 61 = .ok (.iconst 1, 1) := by decide +kernel
theorem dW_splitRow_62 : decode (am_by jW_splitRow) 62 = .ok (.isub, 1) := by decide +kernel
theorem dW_splitRow_63 : decode (am_by jW_splitRow) 63 = .ok (.istore 9, 2) := by decide +kernel
theorem dW_splitRow_65 : decode (am_by jW_splitRow) 65 = .ok (.aload_n 0, 1) := by decide +kernel
theorem dW_splitRow_66 : decode (am_by jW_splitRow) 66 = .ok (.iload 5, 2) := by decide +kernel
theorem dW_splitRow_68 : decode (am_by jW_splitRow) 68 = .ok (.iload_n 3, 1) := by decide +kernel
theorem dW_splitRow_69 : decode (am_by jW_splitRow) 69 = .ok (.iconst 1, 1) := by decide +kernel
theorem dW_splitRow_70 : decode (am_by jW_splitRow) 70 = .ok (.iadd, 1) := by decide +kernel
theorem dW_splitRow_71 : decode (am_by jW_splitRow) 71 = .ok (.invokestatic 114, 3) := by decide +kernel
theorem dW_splitRow_74 : decode (am_by jW_splitRow) 74 = .ok (.iload 9, 2) := by decide +kernel
theorem dW_splitRow_76 : decode (am_by jW_splitRow) 76 = .ok (.iadd, 1) := by decide +kernel
theorem dW_splitRow_77 : decode (am_by jW_splitRow) 77 = .ok (.iload 6, 2) := by decide +kernel
theorem dW_splitRow_79 : decode (am_by jW_splitRow) 79 = .ok (.iload 4, 2) := by decide +kernel
theorem dW_splitRow_81 : decode (am_by jW_splitRow) 81 = .ok (.invokestatic 80, 3) := by decide +kernel
theorem dW_splitRow_84 : decode (am_by jW_splitRow) 84 = .ok (.iload 9, 2) := by decide +kernel
theorem dW_splitRow_86 : decode (am_by jW_splitRow) 86 = .ok (.iadd, 1) := by decide +kernel
theorem dW_splitRow_87 : decode (am_by jW_splitRow) 87 = .ok (.iload 7, 2) := by decide +kernel
theorem dW_splitRow_89 : decode (am_by jW_splitRow) 89 = .ok (.iload 8, 2) := by decide +kernel
theorem dW_splitRow_91 : decode (am_by jW_splitRow) 91 = .ok (.invokevirtual 95, 3) := by decide +kernel
theorem dW_splitRow_94 : decode (am_by jW_splitRow) 94 = .ok (.aload_n 0, 1) := by decide +kernel
theorem dW_splitRow_95 : decode (am_by jW_splitRow) 95 = .ok (.iload 5, 2) := by decide +kernel
theorem dW_splitRow_97 : decode (am_by jW_splitRow) 97 = .ok (.aload_n 0, 1) := by decide +kernel
theorem dW_splitRow_98 : decode (am_by jW_splitRow) 98 = .ok (.getfield 101, 3) := by decide +kernel
theorem dW_splitRow_101 : decode (am_by jW_splitRow) 101 = .ok (.iconst 1, 1) := by decide +kernel
theorem dW_splitRow_102 : decode (am_by jW_splitRow) 102 = .ok (.iadd, 1) := by decide +kernel
theorem dW_splitRow_103 : decode (am_by jW_splitRow) 103 = .ok (.invokestatic 114, 3) := by decide +kernel
theorem dW_splitRow_106 : decode (am_by jW_splitRow) 106 = .ok (.aload_n 0, 1) := by decide +kernel
theorem dW_splitRow_107 : decode (am_by jW_splitRow) 107 = .ok (.getfield 104, 3) := by decide +kernel
theorem dW_splitRow_110 : decode (am_by jW_splitRow) 110 = .ok (.iadd, 1) := by decide +kernel
theorem dW_splitRow_111 : decode (am_by jW_splitRow) 111 = .ok (.iload 6, 2) := by decide +kernel
theorem dW_splitRow_113 : decode (am_by jW_splitRow) 113 = .ok (.aload_n 0, 1) := by decide +kernel
theorem dW_splitRow_114 : decode (am_by jW_splitRow) 114 = .ok (.getfield 104, 3) := by decide +kernel
theorem dW_splitRow_117 : decode (am_by jW_splitRow) 117 = .ok (.iadd, 1) := by decide +kernel
theorem dW_splitRow_118 : decode (am_by jW_splitRow) 118 = .ok (.iload 7, 2) := by decide +kernel
theorem dW_splitRow_120 : decode (am_by jW_splitRow) 120 = .ok (.iload 8, 2) := by decide +kernel
theorem dW_splitRow_122 : decode (am_by jW_splitRow) 122 = .ok (.invokevirtual 95, 3) := by decide +kernel
theorem dW_splitRow_125 : decode (am_by jW_splitRow) 125 = .ok (.return_, 1) := by decide +kernel
theorem dW_draftRow_0 : decode (am_by jW_draftRow) 0 = .ok (.iload_n 1, 1) := by decide +kernel
theorem dW_draftRow_1 : decode (am_by jW_draftRow) 1 = .ok (.iload_n 2, 1) := by decide +kernel
theorem dW_draftRow_2 : decode (am_by jW_draftRow) 2 = .ok (.if_icmp .ge 23, 3) := by decide +kernel
theorem dW_draftRow_5 : decode (am_by jW_draftRow) 5 = .ok (.aload_n 0, 1) := by decide +kernel
theorem dW_draftRow_6 : decode (am_by jW_draftRow) 6 = .ok (.getfield 12, 3) := by decide +kernel
theorem dW_draftRow_9 : decode (am_by jW_draftRow) 9 = .ok (.iload_n 1, 1) := by decide +kernel
theorem dW_draftRow_10 : decode (am_by jW_draftRow) 10 = .ok (.iload_n 2, 1) := by decide +kernel
theorem dW_draftRow_11 : decode (am_by jW_draftRow) 11 = .ok (.iload_n 3, 1) := by decide +kernel
theorem dW_draftRow_12 : decode (am_by jW_draftRow) 12 = .ok (.iload 4, 2) := by decide +kernel
theorem dW_draftRow_14 : decode (am_by jW_draftRow) 14 = .ok (.invokevirtual 117, 3) := by decide +kernel
theorem dW_draftRow_17 : decode (am_by jW_draftRow) 17 = .ok (.ifCond .ne 8, 3) := by decide +kernel
theorem dW_draftRow_20 : decode (am_by jW_draftRow) 20 = .ok (.aload_n 0, 1) := by decide +kernel
theorem dW_draftRow_21 : decode (am_by jW_draftRow) 21 = .ok (.iconst 1, 1) := by decide +kernel
theorem dW_draftRow_22 : decode (am_by jW_draftRow) 22 = .ok (.putfield 34, 3) := by decide +kernel
theorem dW_draftRow_25 : decode (am_by jW_draftRow) 25 = .ok (.return_, 1) := by decide +kernel
theorem dW_takeOver_0 : decode (am_by jW_takeOver) 0 = .ok (.aload_n 0, 1) := by decide +kernel
theorem dW_takeOver_1 : decode (am_by jW_takeOver) 1 = .ok (.getfield 34, 3) := by decide +kernel
theorem dW_takeOver_4 : decode (am_by jW_takeOver) 4 = .ok (.ifCond .eq 6, 3) := by decide +kernel
theorem dW_takeOver_7 : decode (am_by jW_takeOver) 7 = .ok (.bipush (-3), 2) := by decide +kernel
theorem dW_takeOver_9 : decode (am_by jW_takeOver) 9 = .ok (.ireturn, 1) := by decide +kernel
theorem dW_takeOver_10 : decode (am_by jW_takeOver) 10 = .ok (.aload_n 1, 1) := by decide +kernel
theorem dW_takeOver_11 : decode (am_by jW_takeOver) 11 = .ok (.aload_n 0, 1) := by decide +kernel
theorem dW_takeOver_12 : decode (am_by jW_takeOver) 12 = .ok (.getfield 12, 3) := by decide +kernel
theorem dW_takeOver_15 : decode (am_by jW_takeOver) 15 = .ok (.invokevirtual 121, 3) := by decide +kernel
theorem dW_takeOver_18 : decode (am_by jW_takeOver) 18 = .ok (.aload_n 1, 1) := by decide +kernel
theorem dW_takeOver_19 : decode (am_by jW_takeOver) 19 = .ok (.getfield 67, 3) := by decide +kernel
theorem dW_takeOver_22 : decode (am_by jW_takeOver) 22 = .ok (.ireturn, 1) := by decide +kernel
