theorem dR_run_38 : decode (am_by jR_run) 38 = .ok (.invokevirtual 270, 3) := by decide +kernel
theorem dR_run_41 : decode (am_by jR_run) 41 = .ok (.istore 7, 2) := by decide +kernel
theorem dR_run_43 : decode (am_by jR_run) 43 = .ok (.iload 7, 2) := by decide +kernel
theorem dR_run_45 : decode (am_by jR_run) 45 = .ok (.ifCond .eq 23, 3) := by decide +kernel
theorem dR_run_48 : decode (am_by jR_run) 48 = .ok (.aload_n 0, 1) := by decide +kernel
theorem dR_run_49 : decode (am_by jR_run) 49 = .ok (.bipush 6, 2) := by decide +kernel
theorem dR_run_51 : decode (am_by jR_run) 51 = .ok (.iload_n 1, 1) := by decide +kernel
theorem dR_run_52 : decode (am_by jR_run) 52 = .ok (.imul, 1) := by decide +kernel
theorem dR_run_53 : decode (am_by jR_run) 53 = .ok (.iload_n 2, 1) := by decide +kernel
theorem dR_run_54 : decode (am_by jR_run) 54 = .ok (.iadd, 1) := by decide +kernel
theorem dR_run_55 : decode (am_by jR_run) 55 = .ok (.iload_n 3, 1) := by decide +kernel
theorem dR_run_56 : decode (am_by jR_run) 56 = .ok (.iload 4, 2) := by decide +kernel
theorem dR_run_58 : decode (am_by jR_run) 58 = .ok (.iload 5, 2) := by decide +kernel
theorem dR_run_60 : decode (am_by jR_run) 60 = .ok (.iload 6, 2) := by decide +kernel
theorem dR_run_62 : decode (am_by jR_run) 62 = .ok (.invokevirtual 273, 3) := by decide +kernel
theorem dR_run_65 : decode (am_by jR_run) 65 = .ok (.goto 5, 3) := by decide +kernel
theorem dR_run_68 : decode (am_by jR_run) 68 = .ok (.bipush (-4), 2) := by decide +kernel
theorem dR_run_70 : decode (am_by jR_run) 70 = .ok (.ireturn, 1) := by decide +kernel
theorem dR_ran_0 : decode (am_by jR_ran) 0 = .ok (.iload_n 1, 1) := by decide +kernel
theorem dR_ran_1 : decode (am_by jR_ran) 1 = .ok (.ifCond .ne 10, 3) := by decide +kernel
theorem dR_ran_4 : decode (am_by jR_ran) 4 = .ok (.aload_n 0, 1) := by decide +kernel
theorem dR_ran_5 : decode (am_by jR_ran) 5 = .ok (.getfield 241, 3) := by decide +kernel
theorem dR_ran_8 : decode (am_by jR_ran) 8 = .ok (.goto 64, 3) := by decide +kernel
theorem dR_ran_11 : decode (am_by jR_ran) 11 = .ok (.iload_n 1, 1) := by decide +kernel
theorem dR_ran_12 : decode (am_by jR_ran) 12 = .ok (.iconst 1, 1) := by decide +kernel
theorem dR_ran_13 : decode (am_by jR_ran) 13 = .ok (.if_icmp .ne 10, 3) := by decide +kernel
theorem dR_ran_16 : decode (am_by jR_ran) 16 = .ok (.aload_n 0, 1) := by decide +kernel
theorem dR_ran_17 : decode (am_by jR_ran) 17 = .ok (.getfield 264, 3) := by decide +kernel
theorem dR_ran_20 : decode (am_by jR_ran) 20 = .ok (.goto 52, 3) := by decide +kernel
theorem dR_ran_23 : decode (am_by jR_ran) 23 = .ok (.iload_n 1, 1) := by decide +kernel
theorem dR_ran_24 : decode (am_by jR_ran) 24 = .ok (.iconst 2, 1) := by decide +kernel
theorem dR_ran_25 : decode (am_by jR_ran) 25 = .ok (.if_icmp .ne 10, 3) := by decide +kernel
theorem dR_ran_28 : decode (am_by jR_ran) 28 = .ok (.aload_n 0, 1) := by decide +kernel
theorem dR_ran_29 : decode (am_by jR_ran) 29 = .ok (.getfield 194, 3) := by decide +kernel
theorem dR_ran_32 : decode (am_by jR_ran) 32 = .ok (.goto 40, 3) := by decide +kernel
theorem dR_ran_35 : decode (am_by jR_ran) 35 = .ok (.iload_n 1, 1) := by decide +kernel
theorem dR_ran_36 : decode (am_by jR_ran) 36 = .ok (.iconst 3, 1) := by decide +kernel
theorem dR_ran_37 : decode (am_by jR_ran) 37 = .ok (.if_icmp .ne 10, 3) := by decide +kernel
theorem dR_ran_40 : decode (am_by jR_ran) 40 = .ok (.aload_n 0, 1) := by decide +kernel
theorem dR_ran_41 : decode (am_by jR_ran) 41 = .ok (.getfield 206, 3) := by decide +kernel
theorem dR_ran_44 : decode (am_by jR_ran) 44 = .ok (.goto 28, 3) := by decide +kernel
theorem dR_ran_47 : decode (am_by jR_ran) 47 = .ok (.iload_n 1, 1) := by decide +kernel
theorem dR_ran_48 : decode (am_by jR_ran) 48 = .ok (.iconst 4, 1) := by decide +kernel
theorem dR_ran_49 : decode (am_by jR_ran) 49 = .ok (.if_icmp .ne 10, 3) := by decide +kernel
theorem dR_ran_52 : decode (am_by jR_ran) 52 = .ok (.aload_n 0, 1) := by decide +kernel
theorem dR_ran_53 : decode (am_by jR_ran) 53 = .ok (.getfield 191, 3) := by decide +kernel
theorem dR_ran_56 : decode (am_by jR_ran) 56 = .ok (.goto 16, 3) := by decide +kernel
theorem dR_ran_59 : decode (am_by jR_ran) 59 = .ok (.iload_n 1, 1) := by decide +kernel
theorem dR_ran_60 : decode (am_by jR_ran) 60 = .ok (.iconst 5, 1) := by decide +kernel
theorem dR_ran_61 : decode (am_by jR_ran) 61 = .ok (.if_icmp .ne 10, 3) := by decide +kernel
theorem dR_ran_64 : decode (am_by jR_ran) 64 = .ok (.aload_n 0, 1) := by decide +kernel
theorem dR_ran_65 : decode (am_by jR_ran) 65 = .ok (.getfield 216, 3) := by decide +kernel
theorem dR_ran_68 : decode (am_by jR_ran) 68 = .ok (.goto 4, 3) := by decide +kernel
theorem dR_ran_71 : decode (am_by jR_ran) 71 = .ok (.iconst (-1), 1) := by decide +kernel
theorem dR_ran_72 : decode (am_by jR_ran) 72 = .ok (.ireturn, 1) := by decide +kernel
theorem dR_trace_0 : decode (am_by jR_trace) 0 = .ok (.iload_n 1, 1) := by decide +kernel
theorem dR_trace_1 : decode (am_by jR_trace) 1 = .ok (.iconst 0, 1) := by decide +kernel
theorem dR_trace_2 : decode (am_by jR_trace) 2 = .ok (.aload_n 0, 1) := by decide +kernel
theorem dR_trace_3 : decode (am_by jR_trace) 3 = .ok (.getfield 191, 3) := by decide +kernel
theorem dR_trace_6 : decode (am_by jR_trace) 6 = .ok (.bipush 120, 2) := by decide +kernel
theorem dR_trace_8 : decode (am_by jR_trace) 8 = .ok (.if_icmp .ge 10, 3) := by decide +kernel
theorem dR_trace_11 : decode (am_by jR_trace) 11 = .ok (.aload_n 0, 1) := by decide +kernel
theorem dR_trace_12 : decode (am_by jR_trace) 12 = .ok (.getfield 191, 3) := by decide +kernel
theorem dR_trace_15 : decode (am_by jR_trace) 15 = .ok (.goto 5, 3) := by decide +kernel
theorem dR_trace_18 : decode (am_by jR_trace) 18 = .ok (.bipush 120, 2) := by decide +kernel
theorem dR_trace_20 : decode (am_by jR_trace) 20 = .ok (.iconst 1, 1) := by decide +kernel
theorem dR_trace_21 : decode (am_by jR_trace) 21 = .ok (.isub, 1) := by decide +kernel
theorem dR_trace_22 : decode (am_by jR_trace) 22 = .ok (.invokestatic 123, 3) := by decide +kernel
theorem dR_trace_25 : decode (am_by jR_trace) 25 = .ok (.ifCond .eq 12, 3) := by decide +kernel
theorem dR_trace_28 : decode (am_by jR_trace) 28 = .ok (.aload_n 0, 1) := by decide +kernel
theorem dR_trace_29 : decode (am_by jR_trace) 29 = .ok (.getfield 92, 3) := by decide +kernel
theorem dR_trace_32 : decode (am_by jR_trace) 32 = .ok (.iload_n 1, 1) := by decide +kernel
theorem dR_trace_33 : decode (am_by jR_trace) 33 = .ok (.iaload, 1) := by decide +kernel
theorem dR_trace_34 : decode (am_by jR_trace) 34 = .ok (.goto 5, 3) := by decide +kernel
theorem dR_trace_37 : decode (am_by jR_trace) 37 = .ok (.bipush (-2), 2) := by decide +kernel
theorem dR_trace_39 : decode (am_by jR_trace) 39 = .ok (.ireturn, 1) := by decide +kernel
theorem dR_compare_0 : decode (am_by jR_compare) 0 = .ok (.iload_n 1, 1) := by decide +kernel
theorem dR_compare_1 : decode (am_by jR_compare) 1 = .ok (.iconst 0, 1) := by decide +kernel
theorem dR_compare_2 : decode (am_by jR_compare) 2 = .ok (.iconst 5, 1) := by decide +kernel
theorem dR_compare_3 : decode (am_by jR_compare) 3 = .ok (.invokestatic 123, 3) := by decide +kernel
theorem dR_compare_6 : decode (am_by jR_compare) 6 = .ok (.ifCond .ne 5, 3) := by decide +kernel
theorem dR_compare_9 : decode (am_by jR_compare) 9 = .ok (.iconst (-1), 1) := by decide +kernel
theorem dR_compare_10 : decode (am_by jR_compare) 10 = .ok (.ireturn, 1) := by decide +kernel
theorem dR_compare_11 : decode (am_by jR_compare) 11 = .ok (.aload_n 0, 1) := by decide +kernel
theorem dR_compare_12 : decode (am_by jR_compare) 12 = .ok (.iload_n 1, 1) := by decide +kernel
theorem dR_compare_13 : decode (am_by jR_compare) 13 = .ok (.invokevirtual 270, 3) := by decide +kernel
theorem dR_compare_16 : decode (am_by jR_compare) 16 = .ok (.ifCond .eq 18, 3) := by decide +kernel
theorem dR_compare_19 : decode (am_by jR_compare) 19 = .ok (.aload_n 0, 1) := by decide +kernel
theorem dR_compare_20 : decode (am_by jR_compare) 20 = .ok (.bipush 6, 2) := by decide +kernel
theorem dR_compare_22 : decode (am_by jR_compare) 22 = .ok (.iload_n 1, 1) := by decide +kernel
theorem dR_compare_23 : decode (am_by jR_compare) 23 = .ok (.iadd, 1) := by decide +kernel
theorem dR_compare_24 : decode (am_by jR_compare) 24 = .ok (.invokevirtual 270, 3) := by decide +kernel
theorem dR_compare_27 : decode (am_by jR_compare) 27 = .ok (.ifCond .eq 7, 3) := by decide +kernel
theorem dR_compare_30 : decode (am_by jR_compare) 30 = .ok (.iconst 1, 1) := by decide +kernel
theorem dR_compare_31 : decode (am_by jR_compare) 31 = .ok (.goto 4, 3) := by decide +kernel
theorem dR_compare_34 : decode (am_by jR_compare) 34 = .ok (.iconst 0, 1) := by decide +kernel
theorem dR_compare_35 : decode (am_by jR_compare) 35 = .ok (.istore 5, 2) := by decide +kernel
theorem dR_compare_37 : decode (am_by jR_compare) 37 = .ok (.iload 5, 2) := by decide +kernel
theorem dR_compare_39 : decode (am_by jR_compare) 39 = .ok (.ifCond .ne 6, 3) := by decide +kernel
theorem dR_compare_42 : decode (am_by jR_compare) 42 = .ok (.bipush (-4), 2) := by decide +kernel
theorem dR_compare_44 : decode (am_by jR_compare) 44 = .ok (.ireturn, 1) := by decide +kernel
theorem dR_compare_45 : decode (am_by jR_compare) 45 = .ok (.aload_n 0, 1) := by decide +kernel
theorem dR_compare_46 : decode (am_by jR_compare) 46 = .ok (.iload_n 1, 1) := by decide +kernel
theorem dR_compare_47 : decode (am_by jR_compare) 47 = .ok (.sipush 1000, 3) := by decide +kernel
theorem dR_compare_50 : decode (am_by jR_compare) 50 = .ok (.iload_n 2, 1) := by decide +kernel
theorem dR_compare_51 : decode (am_by jR_compare) 51 = .ok (.iload_n 3, 1) := by decide +kernel
theorem dR_compare_52 : decode (am_by jR_compare) 52 = .ok (.iload 4, 2) := by decide +kernel
theorem dR_compare_54 : decode (am_by jR_compare) 54 = .ok (.invokevirtual 273, 3) := by decide +kernel
theorem dR_compare_57 : decode (am_by jR_compare) 57 = .ok (.istore 6, 2) := by decide +kernel
theorem dR_compare_59 : decode (am_by jR_compare) 59 = .ok (.aload_n 0, 1) := by decide +kernel
theorem dR_compare_60 : decode (am_by jR_compare) 60 = .ok (.getfield 241, 3) := by decide +kernel
theorem dR_compare_63 : decode (am_by jR_compare) 63 = .ok (.istore 7, 2) := by decide +kernel
theorem dR_compare_65 : decode (am_by jR_compare) 65 = .ok (.aload_n 0, 1) := by decide +kernel
theorem dR_compare_66 : decode (am_by jR_compare) 66 = .ok (.getfield 191, 3) := by decide +kernel
theorem dR_compare_69 : decode (am_by jR_compare) 69 = .ok (.istore 8, 2) := by decide +kernel
theorem dR_compare_71 : decode (am_by jR_compare) 71 = .ok (.iconst 0, 1) := by decide +kernel
theorem dR_compare_72 : decode (am_by jR_compare) 72 = .ok (.istore 9, 2) := by decide +kernel
theorem dR_compare_74 : decode (am_by jR_compare) 74 = .ok (.iload 9, 2) := by decide +kernel
theorem dR_compare_76 : decode (am_by jR_compare) 76 = .ok (.bipush 120, 2) := by decide +kernel
theorem dR_compare_78 : decode (am_by jR_compare) 78 = .ok (.if_icmp .ge 23, 3) := by decide +kernel
theorem dR_compare_81 : decode (am_by jR_compare) 81 = .ok (.aload_n 0, 1) := by decide +kernel
theorem dR_compare_82 : decode (am_by jR_compare) 82 = .ok (.getfield 95, 3) := by decide +kernel
theorem dR_compare_85 : decode (am_by jR_compare) 85 = .ok (.iload 9, 2) := by decide +kernel
theorem dR_compare_87 : decode (am_by jR_compare) 87 = .ok (.aload_n 0, 1) := by decide +kernel
theorem dR_compare_88 : decode (am_by jR_compare) 88 = .ok (.getfield 92, 3) := by decide +kernel
theorem dR_compare_91 : decode (am_by jR_compare) 91 = .ok (.iload 9, 2) := by decide +kernel
theorem dR_compare_93 : decode (am_by jR_compare) 93 = .ok (.iaload, 1) := by decide +kernel
theorem dR_compare_94 : decode (am_by jR_compare) 94 = .ok (.iastore, 1) := by decide +kernel
theorem dR_compare_95 : decode (am_by jR_compare) 95 = .ok (.iinc 9 1, 3) := by decide +kernel
theorem dR_compare_98 : decode (am_by jR_compare) 98 = .ok (.goto (-24), 3) := by decide +kernel
theorem dR_compare_101 : decode (am_by jR_compare) 101 = .ok (.aload_n 0, 1) := by decide +kernel
theorem dR_compare_102 : decode (am_by jR_compare) 102 = .ok (.bipush 6, 2) := by decide +kernel
theorem dR_compare_104 : decode (am_by jR_compare) 104 = .ok (.iload_n 1, 1) := by decide +kernel
theorem dR_compare_105 : decode (am_by jR_compare) 105 = .ok (.iadd, 1) := by decide +kernel
theorem dR_compare_106 : decode (am_by jR_compare) 106 = .ok (.sipush 1000, 3) := by decide +kernel
theorem dR_compare_109 : decode (am_by jR_compare) 109 = .ok (.iload_n 2, 1) := by decide +kernel
theorem dR_compare_110 : decode (am_by jR_compare) 110 = .ok (.iload_n 3, 1) := by decide +kernel
theorem dR_compare_111 : decode (am_by jR_compare) 111 = .ok (.iload 4, 2) := by decide +kernel
theorem dR_compare_113 : decode (am_by jR_compare) 113 = .ok (.invokevirtual 273, 3) := by decide +kernel
theorem dR_compare_116 : decode (am_by jR_compare) 116 = .ok (.istore 9, 2) := by decide +kernel
theorem dR_compare_118 : decode (am_by jR_compare) 118 = .ok (.iload 6, 2) := by decide +kernel
theorem dR_compare_120 : decode (am_by jR_compare) 120 = .ok (.bipush (-5), 2) := by decide +kernel
theorem dR_compare_122 : decode (am_by jR_compare) 122 = .ok (.if_icmp .eq 10, 3) := by decide +kernel
theorem dR_compare_125 : decode (am_by jR_compare) 125 = .ok (.iload 9, 2) := by decide +kernel
theorem dR_compare_127 : decode (am_by jR_compare) 127 = .ok (.bipush (-5), 2) := by decide +kernel
theorem dR_compare_129 : decode (am_by jR_compare) 129 = .ok (.if_icmp .ne 5, 3) := by decide +kernel
theorem dR_compare_132 : decode (am_by jR_compare) 132 = .ok (.iconst 3, 1) := by decide +kernel
theorem dR_compare_133 : decode (am_by jR_compare) 133 = .ok (.ireturn, 1) := by decide +kernel
theorem dR_compare_134 : decode (am_by jR_compare) 134 = .ok (.iload 6, 2) := by decide +kernel
theorem dR_compare_136 : decode (am_by jR_compare) 136 = .ok (.iload 9, 2) := by decide +kernel
theorem dR_compare_138 : decode (am_by jR_compare) 138 = .ok (.if_icmp .ne 12, 3) := by decide +kernel
theorem dR_compare_141 : decode (am_by jR_compare) 141 = .ok (.iload 7, 2) := by decide +kernel
theorem dR_compare_143 : decode (am_by jR_compare) 143 = .ok (.aload_n 0, 1) := by decide +kernel
theorem dR_compare_144 : decode (am_by jR_compare) 144 = .ok (.getfield 241, 3) := by decide +kernel
theorem dR_compare_147 : decode (am_by jR_compare) 147 = .ok (.if_icmp .eq 5, 3) := by decide +kernel
theorem dR_compare_150 : decode (am_by jR_compare) 150 = .ok (.iconst 1, 1) := by decide +kernel
theorem dR_compare_151 : decode (am_by jR_compare) 151 = .ok (.ireturn, 1) := by decide +kernel
theorem dR_compare_152 : decode (am_by jR_compare) 152 = .ok (.iload 8, 2) := by decide +kernel
theorem dR_compare_154 : decode (am_by jR_compare) 154 = .ok (.aload_n 0, 1) := by decide +kernel
theorem dR_compare_155 : decode (am_by jR_compare) 155 = .ok (.getfield 191, 3) := by decide +kernel
theorem dR_compare_158 : decode (am_by jR_compare) 158 = .ok (.if_icmp .eq 5, 3) := by decide +kernel
theorem dR_compare_161 : decode (am_by jR_compare) 161 = .ok (.iconst 2, 1) := by decide +kernel
theorem dR_compare_162 : decode (am_by jR_compare) 162 = .ok (.ireturn, 1) := by decide +kernel
theorem dR_compare_163 : decode (am_by jR_compare) 163 = .ok (.iconst 0, 1) := by decide +kernel
theorem dR_compare_164 : decode (am_by jR_compare) 164 = .ok (.istore 10, 2) := by decide +kernel
theorem dR_compare_166 : decode (am_by jR_compare) 166 = .ok (.iload 10, 2) := by decide +kernel
theorem dR_compare_168 : decode (am_by jR_compare) 168 = .ok (.aload_n 0, 1) := by decide +kernel
theorem dR_compare_169 : decode (am_by jR_compare) 169 = .ok (.getfield 191, 3) := by decide +kernel
theorem dR_compare_172 : decode (am_by jR_compare) 172 = .ok (.if_icmp .ge 35, 3) := by decide +kernel
theorem dR_compare_175 : decode (am_by jR_compare) 175 = .ok (.iload 10, 2) := by decide +kernel
theorem dR_compare_177 : decode (am_by jR_compare) 177 = .ok (.bipush 120, 2) := by decide +kernel
theorem dR_compare_179 : decode (am_by jR_compare) 179 = .ok (.if_icmp .ge 28, 3) := by decide +kernel
theorem dR_compare_182 : decode (am_by jR_compare) 182 = .ok (.aload_n 0, 1) := by decide +kernel
theorem dR_compare_183 : decode (am_by jR_compare) 183 = .ok (.getfield 95, 3) := by decide +kernel
theorem dR_compare_186 : decode (am_by jR_compare) 186 = .ok (.iload 10, 2) := by decide +kernel
theorem dR_compare_188 : decode (am_by jR_compare) 188 = .ok (.iaload, 1) := by decide +kernel
theorem dR_compare_189 : decode (am_by jR_compare) 189 = .ok (.aload_n 0, 1) := by decide +kernel
theorem dR_compare_190 : decode (am_by jR_compare) 190 = .ok (.getfield 92, 3) := by decide +kernel
theorem dR_compare_193 : decode (am_by jR_compare) 193 = .ok (.iload 10, 2) := by decide +kernel
theorem dR_compare_195 : decode (am_by jR_compare) 195 = .ok (.iaload, 1) := by decide +kernel
theorem dR_compare_196 : decode (am_by jR_compare) 196 = .ok (.if_icmp .eq 5, 3) := by decide +kernel
theorem dR_compare_199 : decode (am_by jR_compare) 199 = .ok (.iconst 2, 1) := by decide +kernel
theorem dR_compare_200 : decode (am_by jR_compare) 200 = .ok (.ireturn, 1) := by decide +kernel
theorem dR_compare_201 : decode (am_by jR_compare) 201 = .ok (.iinc 10 1, 3) := by decide +kernel
theorem dR_compare_204 : decode (am_by jR_compare) 204 = .ok (.goto (-38), 3) := by decide +kernel
theorem dR_compare_207 : decode (am_by jR_compare) 207 = .ok (.iconst 0, 1) := by decide +kernel
theorem dR_compare_208 : decode (am_by jR_compare) 208 = .ok (.ireturn, 1) := by decide +kernel
theorem dR_shifted_0 : decode (am_by jR_shifted) 0 = .ok (.iload_n 0, 1) := by decide +kernel
theorem dR_shifted_1 : decode (am_by jR_shifted) 1 = .ok (.iload_n 1, 1) := by decide +kernel
theorem dR_shifted_2 : decode (am_by jR_shifted) 2 = .ok (.if_icmp .le 11, 3) := by decide +kernel
theorem dR_shifted_5 : decode (am_by jR_shifted) 5 = .ok (.iload_n 0, 1) := by decide +kernel
theorem dR_shifted_6 : decode (am_by jR_shifted) 6 = .ok (.iload_n 2, 1) := by decide +kernel
theorem dR_shifted_7 : decode (am_by jR_shifted) 7 = .ok (.iadd, 1) := by decide +kernel
theorem dR_shifted_8 : decode (am_by jR_shifted) 8 = .ok (.iconst 1, 1) := by decide +kernel
theorem dR_shifted_9 : decode (am_by jR_shifted) 9 = .ok (.isub, 1) := by decide +kernel
theorem dR_shifted_10 : decode (am_by jR_shifted) 10 = .ok (.goto 4, 3) := by decide +kernel
theorem dR_shifted_13 : decode (am_by jR_shifted) 13 = .ok (.iload_n 0, 1) := by decide +kernel
theorem dR_shifted_14 : decode (am_by jR_shifted) 14 = .ok (.ireturn, 1) := by decide +kernel
theorem dR_newRow_0 : decode (am_by jR_newRow) 0 = .ok (.iload_n 1, 1) := by decide +kernel
theorem dR_newRow_1 : decode (am_by jR_newRow) 1 = .ok (.iload_n 2, 1) := by decide +kernel
theorem dR_newRow_2 : decode (am_by jR_newRow) 2 = .ok (.if_icmp .lt 4, 3) := by decide +kernel
theorem dR_newRow_5 : decode (am_by jR_newRow) 5 = .ok (.return_, 1) := by decide +kernel
theorem dR_newRow_6 : decode (am_by jR_newRow) 6 = .ok (.aload_n 0, 1) := by decide +kernel
theorem dR_newRow_7 : decode (am_by jR_newRow) 7 = .ok (.getfield 107, 3) := by decide +kernel
theorem dR_newRow_10 : decode (am_by jR_newRow) 10 = .ok (.aload_n 0, 1) := by decide +kernel
theorem dR_newRow_11 : decode (am_by jR_newRow) 11 = .ok (.getfield 277, 3) := by decide +kernel
theorem dR_newRow_14 : decode (am_by jR_newRow) 14 = .ok (.iload_n 1, 1) := by decide +kernel
theorem dR_newRow_15 : decode (am_by jR_newRow) 15 = .ok (.iastore, 1) := by decide +kernel
theorem dR_newRow_16 : decode (am_by jR_newRow) 16 = .ok (.aload_n 0, 1) := by decide +kernel
theorem dR_newRow_17 : decode (am_by jR_newRow) 17 = .ok (.getfield 110, 3) := by decide +kernel
theorem dR_newRow_20 : decode (am_by jR_newRow) 20 = .ok (.aload_n 0, 1) := by decide +kernel
theorem dR_newRow_21 : decode (am_by jR_newRow) 21 = .ok (.getfield 277, 3) := by decide +kernel
theorem dR_newRow_24 : decode (am_by jR_newRow) 24 = .ok (.iload_n 2, 1) := by decide +kernel
theorem dR_newRow_25 : decode (am_by jR_newRow) 25 = .ok (.iastore, 1) := by decide +kernel
theorem dR_newRow_26 : decode (am_by jR_newRow) 26 = .ok (.aload_n 0, 1) := by decide +kernel
theorem dR_newRow_27 : decode (am_by jR_newRow) 27 = .ok (.getfield 113, 3) := by decide +kernel
theorem dR_newRow_30 : decode (am_by jR_newRow) 30 = .ok (.aload_n 0, 1) := by decide +kernel
theorem dR_newRow_31 : decode (am_by jR_newRow) 31 = .ok (.getfield 277, 3) := by decide +kernel
theorem dR_newRow_34 : decode (am_by jR_newRow) 34 = .ok (.iload_n 3, 1) := by decide +kernel
theorem dR_newRow_35 : decode (am_by jR_newRow) 35 = .ok (.iastore, 1) := by decide +kernel
theorem dR_newRow_36 : decode (am_by jR_newRow) 36 = .ok (.aload_n 0, 1) := by decide +kernel
theorem dR_newRow_37 : decode (am_by jR_newRow) 37 = .ok (.getfield 116, 3) := by decide +kernel
theorem dR_newRow_40 : decode (am_by jR_newRow) 40 = .ok (.aload_n 0, 1) := by decide +kernel
theorem dR_newRow_41 : decode (am_by jR_newRow) 41 = .ok (.getfield 277, 3) := by decide +kernel
theorem dR_newRow_44 : decode (am_by jR_newRow) 44 = .ok (.iload 4, 2) := by decide +kernel
theorem dR_newRow_46 : decode (am_by jR_newRow) 46 = .ok (.iastore, 1) := by decide +kernel
theorem dR_newRow_47 : decode (am_by jR_newRow) 47 = .ok (.aload_n 0, 1) := by decide +kernel
theorem dR_newRow_48 : decode (am_by jR_newRow) 48 = .ok (.dup, 1) := by decide +kernel
theorem dR_newRow_49 : decode (am_by jR_newRow) 49 = .ok (.getfield 277, 3) := by decide +kernel
theorem dR_newRow_52 : decode (am_by jR_newRow) 52 = .ok (.iconst 1, 1) := by decide +kernel
theorem dR_newRow_53 : decode (am_by jR_newRow) 53 = .ok (.iadd, 1) := by decide +kernel
theorem dR_newRow_54 : decode (am_by jR_newRow) 54 = .ok (.putfield 277, 3) := by decide +kernel
theorem dR_newRow_57 : decode (am_by jR_newRow) 57 = .ok (.return_, 1) := by decide +kernel
theorem dR_replace_0 : decode (am_by jR_replace) 0 = .ok (.aload_n 0, 1) := by decide +kernel
theorem dR_replace_1 : decode (am_by jR_replace) 1 = .ok (.getfield 19, 3) := by decide +kernel
theorem dR_replace_4 : decode (am_by jR_replace) 4 = .ok (.iload_n 1, 1) := by decide +kernel
theorem dR_replace_5 : decode (am_by jR_replace) 5 = .ok (.iaload, 1) := by decide +kernel
theorem dR_replace_6 : decode (am_by jR_replace) 6 = .ok (.iload_n 3, 1) := by decide +kernel
theorem dR_replace_7 : decode (am_by jR_replace) 7 = .ok (.iadd, 1) := by decide +kernel
theorem dR_replace_8 : decode (am_by jR_replace) 8 = .ok (.iconst 1, 1) := by decide +kernel
theorem dR_replace_9 : decode (am_by jR_replace) 9 = .ok (.isub, 1) := by decide +kernel
theorem dR_replace_10 : decode (am_by jR_replace) 10 = .ok (.istore 4, 2) := by decide +kernel
theorem dR_replace_12 : decode (am_by jR_replace) 12 = .ok (.aload_n 0, 1) := by decide +kernel
theorem dR_replace_13 : decode (am_by jR_replace) 13 = .ok (.getfield 19, 3) := by decide +kernel
theorem dR_replace_16 : decode (am_by jR_replace) 16 = .ok (.iload_n 1, 1) := by decide +kernel
theorem dR_replace_17 : decode (am_by jR_replace) 17 = .ok (.iaload, 1) := by decide +kernel
theorem dR_replace_18 : decode (am_by jR_replace) 18 = .ok (.iconst 1, 1) := by decide +kernel
theorem dR_replace_19 : decode (am_by jR_replace) 19 = .ok (.isub, 1) := by decide +kernel
theorem dR_replace_20 : decode (am_by jR_replace) 20 = .ok (.istore 5, 2) := by decide +kernel
theorem dR_replace_22 : decode (am_by jR_replace) 22 = .ok (.iload 5, 2) := by decide +kernel
theorem dR_replace_24 : decode (am_by jR_replace) 24 = .ok (.ifCond .lt 120, 3) := by decide +kernel
theorem dR_replace_27 : decode (am_by jR_replace) 27 = .ok (.iload 5, 2) := by decide +kernel
theorem dR_replace_29 : decode (am_by jR_replace) 29 = .ok (.iload_n 2, 1) := by decide +kernel
theorem dR_replace_30 : decode (am_by jR_replace) 30 = .ok (.if_icmp .ne 6, 3) := by decide +kernel
theorem dR_replace_33 : decode (am_by jR_replace) 33 = .ok (.goto 105, 3) := by decide +kernel
theorem dR_replace_36 : decode (am_by jR_replace) 36 = .ok (.bipush 60, 2) := by decide +kernel
theorem dR_replace_38 : decode (am_by jR_replace) 38 = .ok (.iload_n 1, 1) := by decide +kernel
theorem dR_replace_39 : decode (am_by jR_replace) 39 = .ok (.imul, 1) := by decide +kernel
theorem dR_replace_40 : decode (am_by jR_replace) 40 = .ok (.iload 5, 2) := by decide +kernel
theorem dR_replace_42 : decode (am_by jR_replace) 42 = .ok (.iadd, 1) := by decide +kernel
theorem dR_replace_43 : decode (am_by jR_replace) 43 = .ok (.istore 6, 2) := by decide +kernel
theorem dR_replace_45 : decode (am_by jR_replace) 45 = .ok (.iload 5, 2) := by decide +kernel
theorem dR_replace_47 : decode (am_by jR_replace) 47 = .ok (.iload_n 2, 1) := by decide +kernel
theorem dR_replace_48 : decode (am_by jR_replace) 48 = .ok (.if_icmp .ge 8, 3) := by decide +kernel
theorem dR_replace_51 : decode (am_by jR_replace) 51 = .ok (.iload 5, 2) := by decide +kernel
theorem dR_replace_53 : decode (am_by jR_replace) 53 = .ok (.goto 9, 3) := by decide +kernel
theorem dR_replace_56 : decode (am_by jR_replace) 56 = .ok (.iload 5, 2) := by decide +kernel
theorem dR_replace_58 : decode (am_by jR_replace) 58 = .ok (.iload_n 3, 1) := by decide +kernel
theorem dR_replace_59 : decode (am_by jR_replace) 59 = .ok (.iadd, 1) := by decide +kernel
theorem dR_replace_60 : decode (am_by jR_replace) 60 = .ok (.iconst 1, 1) := by decide +kernel
theorem dR_replace_61 : decode (am_by jR_replace) 61 = .ok (.isub, 1) := by decide +kernel
theorem dR_replace_62 : decode (am_by jR_replace) 62 = .ok (.istore 7, 2) := by decide +kernel
theorem dR_replace_64 : decode (am_by jR_replace) 64 = .ok (.aload_n 0, 1) := by decide +kernel
theorem dR_replace_65 : decode (am_by jR_replace) 65 = .ok (.getfield 7, 3) := by decide +kernel
theorem dR_replace_68 : decode (am_by jR_replace) 68 = .ok (.iload 6, 2) := by decide +kernel
theorem dR_replace_70 : decode (am_by jR_replace) 70 = .ok (.iaload, 1) := by decide +kernel
theorem dR_replace_71 : decode (am_by jR_replace) 71 = .ok (.invokestatic 139, 3) := by decide +kernel
theorem dR_replace_74 : decode (am_by jR_replace) 74 = .ok (.ifCond .eq 18, 3) := by decide +kernel
theorem dR_replace_77 : decode (am_by jR_replace) 77 = .ok (.aload_n 0, 1) := by decide +kernel
theorem dR_replace_78 : decode (am_by jR_replace) 78 = .ok (.getfield 16, 3) := by decide +kernel
theorem dR_replace_81 : decode (am_by jR_replace) 81 = .ok (.iload 6, 2) := by decide +kernel
theorem dR_replace_83 : decode (am_by jR_replace) 83 = .ok (.iaload, 1) := by decide +kernel
theorem dR_replace_84 : decode (am_by jR_replace) 84 = .ok (.iload_n 2, 1) := by decide +kernel
theorem dR_replace_85 : decode (am_by jR_replace) 85 = .ok (.iload_n 3, 1) := by decide +kernel
theorem dR_replace_86 : decode (am_by jR_replace) 86 = .ok (.invokestatic 280, 3) := by decide +kernel
theorem dR_replace_89 : decode (am_by jR_replace) 89 = .ok (.goto 10, 3) := by decide +kernel
theorem dR_replace_92 : decode (am_by jR_replace) 92 = .ok (.aload_n 0, 1) := by decide +kernel
theorem dR_replace_93 : decode (am_by jR_replace) 93 = .ok (.getfield 16, 3) := by decide +kernel
theorem dR_replace_96 : decode (am_by jR_replace) 96 = .ok (.iload 6, 2) := by decide +kernel
theorem dR_replace_98 : decode (am_by jR_replace) 98 = .ok (.iaload, 1) := by decide +kernel
theorem dR_replace_99 : decode (am_by jR_replace) 99 = .ok (.istore 8, 2) := by decide +kernel
theorem dR_replace_101 : decode (am_by jR_replace) 101 = .ok (.aload_n 0, 1) := by decide +kernel
theorem dR_replace_102 : decode (am_by jR_replace) 102 = .ok (.getfield 98, 3) := by decide +kernel
theorem dR_replace_105 : decode (am_by jR_replace) 105 = .ok (.iload 7, 2) := by decide +kernel
theorem dR_replace_107 : decode (am_by jR_replace) 107 = .ok (.aload_n 0, 1) := by decide +kernel
theorem dR_replace_108 : decode (am_by jR_replace) 108 = .ok (.getfield 7, 3) := by decide +kernel
theorem dR_replace_111 : decode (am_by jR_replace) 111 = .ok (.iload 6, 2) := by decide +kernel
theorem dR_replace_113 : decode (am_by jR_replace) 113 = .ok (.iaload, 1) := by decide +kernel
theorem dR_replace_114 : decode (am_by jR_replace) 114 = .ok (.iastore, 1) := by decide +kernel
theorem dR_replace_115 : decode (am_by jR_replace) 115 = .ok (.aload_n 0, 1) := by decide +kernel
theorem dR_replace_116 : decode (am_by jR_replace) 116 = .ok (.getfield 101, 3) := by decide +kernel
theorem dR_replace_119 : decode (am_by jR_replace) 119 = .ok (.iload 7, 2) := by decide +kernel
theorem dR_replace_121 : decode (am_by jR_replace) 121 = .ok (.aload_n 0, 1) := by decide +kernel
theorem dR_replace_122 : decode (am_by jR_replace) 122 = .ok (.getfield 13, 3) := by decide +kernel
theorem dR_replace_125 : decode (am_by jR_replace) 125 = .ok (.iload 6, 2) := by decide +kernel
theorem dR_replace_127 : decode (am_by jR_replace) 127 = .ok (.iaload, 1) := by decide +kernel
theorem dR_replace_128 : decode (am_by jR_replace) 128 = .ok (.iastore, 1) := by decide +kernel
theorem dR_replace_129 : decode (am_by jR_replace) 129 = .ok (.aload_n 0, 1) := by decide +kernel
theorem dR_replace_130 : decode (am_by jR_replace) 130 = .ok (.getfield 104, 3) := by decide +kernel
theorem dR_replace_133 : decode (am_by jR_replace) 133 = .ok (.iload 7, 2) := by decide +kernel
theorem dR_replace_135 : decode (am_by jR_replace) 135 = .ok (.iload 8, 2) := by decide +kernel
theorem dR_replace_137 : decode (am_by jR_replace) 137 = .ok (.iastore, 1) := by decide +kernel
theorem dR_replace_138 : decode (am_by jR_replace) 138 = .ok (.iinc 5 (-1), 3) := by decide +kernel
theorem dR_replace_141 : decode (am_by jR_replace) 141 = .ok (.goto (-119), 3) := by decide +kernel
theorem dR_replace_144 : decode (am_by jR_replace) 144 = .ok (.iconst 0, 1) := by decide +kernel
theorem dR_replace_145 : decode (am_by jR_replace) 145 = .ok (.istore 5, 2) := by decide +kernel
theorem dR_replace_147 : decode (am_by jR_replace) 147 = .ok (.iload 5, 2) := by decide +kernel
theorem dR_replace_149 : decode (am_by jR_replace) 149 = .ok (.iload 4, 2) := by decide +kernel
theorem dR_replace_151 : decode (am_by jR_replace) 151 = .ok (.if_icmp .ge 37, 3) := by decide +kernel
theorem dR_replace_154 : decode (am_by jR_replace) 154 = .ok (.aload_n 0, 1) := by decide +kernel
theorem dR_replace_155 : decode (am_by jR_replace) 155 = .ok (.iload_n 1, 1) := by decide +kernel
theorem dR_replace_156 : decode (am_by jR_replace) 156 = .ok (.iload 5, 2) := by decide +kernel
theorem dR_replace_158 : decode (am_by jR_replace) 158 = .ok (.aload_n 0, 1) := by decide +kernel
theorem dR_replace_159 : decode (am_by jR_replace) 159 = .ok (.getfield 98, 3) := by decide +kernel
theorem dR_replace_162 : decode (am_by jR_replace) 162 = .ok (.iload 5, 2) := by decide +kernel
theorem dR_replace_164 : decode (am_by jR_replace) 164 = .ok (.iaload, 1) := by decide +kernel
theorem dR_replace_165 : decode (am_by jR_replace) 165 = .ok (.aload_n 0, 1) := by decide +kernel
theorem dR_replace_166 : decode (am_by jR_replace) 166 = .ok (.getfield 101, 3) := by decide +kernel
theorem dR_replace_169 : decode (am_by jR_replace) 169 = .ok (.iload 5, 2) := by decide +kernel
theorem dR_replace_171 : decode (am_by jR_replace) 171 = .ok (.iaload, 1) := by decide +kernel
theorem dR_replace_172 : decode (am_by jR_replace) 172 = .ok (.aload_n 0, 1) := by decide +kernel
theorem dR_replace_173 : decode (am_by jR_replace) 173 = .ok (.getfield 104, 3) := by decide +kernel
theorem dR_replace_176 : decode (am_by jR_replace) 176 = .ok (.iload 5, 2) := by decide +kernel
theorem dR_replace_178 : decode (am_by jR_replace) 178 = .ok (.iaload, 1) := by decide +kernel
theorem dR_replace_179 : decode (am_by jR_replace) 179 = .ok (.invokevirtual 127, 3) := by decide +kernel
theorem dR_replace_182 : decode (am_by jR_replace) 182 = .ok (.iinc 5 1, 3) := by decide +kernel
theorem dR_replace_185 : decode (am_by jR_replace) 185 = .ok (.goto (-38), 3) := by decide +kernel
theorem dR_replace_188 : decode (am_by jR_replace) 188 = .ok (.iconst 0, 1) := by decide +kernel
theorem dR_replace_189 : decode (am_by jR_replace) 189 = .ok (.istore 5, 2) := by decide +kernel
theorem dR_replace_191 : decode (am_by jR_replace) 191 = .ok (.iload 5, 2) := by decide +kernel
theorem dR_replace_193 : decode (am_by jR_replace) 193 = .ok (.aload_n 0, 1) := by decide +kernel
theorem dR_replace_194 : decode (am_by jR_replace) 194 = .ok (.getfield 277, 3) := by decide +kernel
theorem dR_replace_197 : decode (am_by jR_replace) 197 = .ok (.if_icmp .ge 44, 3) := by decide +kernel
theorem dR_replace_200 : decode (am_by jR_replace) 200 = .ok (.aload_n 0, 1) := by decide +kernel
theorem dR_replace_201 : decode (am_by jR_replace) 201 = .ok (.iload_n 1, 1) := by decide +kernel
theorem dR_replace_202 : decode (am_by jR_replace) 202 = .ok (.iload 5, 2) := by decide +kernel
theorem dR_replace_204 : decode (am_by jR_replace) 204 = .ok (.aload_n 0, 1) := by decide +kernel
theorem dR_replace_205 : decode (am_by jR_replace) 205 = .ok (.getfield 107, 3) := by decide +kernel
theorem dR_replace_208 : decode (am_by jR_replace) 208 = .ok (.iload 5, 2) := by decide +kernel
theorem dR_replace_210 : decode (am_by jR_replace) 210 = .ok (.iaload, 1) := by decide +kernel
theorem dR_replace_211 : decode (am_by jR_replace) 211 = .ok (.aload_n 0, 1) := by decide +kernel
theorem dR_replace_212 : decode (am_by jR_replace) 212 = .ok (.getfield 110, 3) := by decide +kernel
theorem dR_replace_215 : decode (am_by jR_replace) 215 = .ok (.iload 5, 2) := by decide +kernel
theorem dR_replace_217 : decode (am_by jR_replace) 217 = .ok (.iaload, 1) := by decide +kernel
theorem dR_replace_218 : decode (am_by jR_replace) 218 = .ok (.aload_n 0, 1) := by decide +kernel
theorem dR_replace_219 : decode (am_by jR_replace) 219 = .ok (.getfield 113, 3) := by decide +kernel
theorem dR_replace_222 : decode (am_by jR_replace) 222 = .ok (.iload 5, 2) := by decide +kernel
theorem dR_replace_224 : decode (am_by jR_replace) 224 = .ok (.iaload, 1) := by decide +kernel
theorem dR_replace_225 : decode (am_by jR_replace) 225 = .ok (.aload_n 0, 1) := by decide +kernel
theorem dR_replace_226 : decode (am_by jR_replace) 226 = .ok (.getfield 116, 3) := by decide +kernel
theorem dR_replace_229 : decode (am_by jR_replace) 229 = .ok (.iload 5, 2) := by decide +kernel
theorem dR_replace_231 : decode (am_by jR_replace) 231 = .ok (.iaload, 1) := by decide +kernel
theorem dR_replace_232 : decode (am_by jR_replace) 232 = .ok (.invokevirtual 131, 3) := by decide +kernel
theorem dR_replace_235 : decode (am_by jR_replace) 235 = .ok (.iinc 5 1, 3) := by decide +kernel
theorem dR_replace_238 : decode (am_by jR_replace) 238 = .ok (.goto (-47), 3) := by decide +kernel
theorem dR_replace_241 : decode (am_by jR_replace) 241 = .ok (.aload_n 0, 1) := by decide +kernel
theorem dR_replace_242 : decode (am_by jR_replace) 242 = .ok (.getfield 19, 3) := by decide +kernel
theorem dR_replace_245 : decode (am_by jR_replace) 245 = .ok (.iload_n 1, 1) := by decide +kernel
theorem dR_replace_246 : decode (am_by jR_replace) 246 = .ok (.iload 4, 2) := by decide +kernel
theorem dR_replace_248 : decode (am_by jR_replace) 248 = .ok (.iastore, 1) := by decide +kernel
theorem dR_replace_249 : decode (am_by jR_replace) 249 = .ok (.aload_n 0, 1) := by decide +kernel
theorem dR_replace_250 : decode (am_by jR_replace) 250 = .ok (.getfield 25, 3) := by decide +kernel
theorem dR_replace_253 : decode (am_by jR_replace) 253 = .ok (.iload_n 1, 1) := by decide +kernel
theorem dR_replace_254 : decode (am_by jR_replace) 254 = .ok (.aload_n 0, 1) := by decide +kernel
theorem dR_replace_255 : decode (am_by jR_replace) 255 = .ok (.getfield 277, 3) := by decide +kernel
theorem dR_replace_258 : decode (am_by jR_replace) 258 = .ok (.iastore, 1) := by decide +kernel
theorem dR_replace_259 : decode (am_by jR_replace) 259 = .ok (.iload 4, 2) := by decide +kernel
theorem dR_replace_261 : decode (am_by jR_replace) 261 = .ok (.ireturn, 1) := by decide +kernel
theorem dR_newInstruction_0 : decode (am_by jR_newInstruction) 0 = .ok (.aload_n 0, 1) := by decide +kernel
theorem dR_newInstruction_1 : decode (am_by jR_newInstruction) 1 = .ok (.getfield 98, 3) := by decide +kernel
theorem dR_newInstruction_4 : decode (am_by jR_newInstruction) 4 = .ok (.iload_n 1, 1) := by decide +kernel
theorem dR_newInstruction_5 : decode (am_by jR_newInstruction) 5 = .ok (.iload_n 2, 1) := by decide +kernel
theorem dR_newInstruction_6 : decode (am_by jR_newInstruction) 6 = .ok (.iastore, 1) := by decide +kernel
theorem dR_newInstruction_7 : decode (am_by jR_newInstruction) 7 = .ok (.aload_n 0, 1) := by decide +kernel
theorem dR_newInstruction_8 : decode (am_by jR_newInstruction) 8 = .ok (.getfield 101, 3) := by decide +kernel
theorem dR_newInstruction_11 : decode (am_by jR_newInstruction) 11 = .ok (.iload_n 1, 1) := by decide +kernel
theorem dR_newInstruction_12 : decode (am_by jR_newInstruction) 12 = .ok (.iload_n 3, 1) := by decide +kernel
theorem dR_newInstruction_13 : decode (am_by jR_newInstruction) 13 = .ok (.iastore, 1) := by decide +kernel
theorem dR_newInstruction_14 : decode (am_by jR_newInstruction) 14 = .ok (.aload_n 0, 1) := by decide +kernel
theorem dR_newInstruction_15 : decode (am_by jR_newInstruction) 15 = .ok (.getfield 104, 3) := by decide +kernel
theorem dR_newInstruction_18 : decode (am_by jR_newInstruction) 18 = .ok (.iload_n 1, 1) := by decide +kernel
theorem dR_newInstruction_19 : decode (am_by jR_newInstruction) 19 = .ok (.iload 4, 2) := by decide +kernel
theorem dR_newInstruction_21 : decode (am_by jR_newInstruction) 21 = .ok (.iastore, 1) := by decide +kernel
theorem dR_newInstruction_22 : decode (am_by jR_newInstruction) 22 = .ok (.return_, 1) := by decide +kernel
theorem dR_endOf_0 : decode (am_by jR_endOf) 0 = .ok (.bipush 60, 2) := by decide +kernel
theorem dR_endOf_2 : decode (am_by jR_endOf) 2 = .ok (.iload_n 1, 1) := by decide +kernel
theorem dR_endOf_3 : decode (am_by jR_endOf) 3 = .ok (.imul, 1) := by decide +kernel
theorem dR_endOf_4 : decode (am_by jR_endOf) 4 = .ok (.istore_n 3, 1) := by decide +kernel
theorem dR_endOf_5 : decode (am_by jR_endOf) 5 = .ok (.iload_n 2, 1) := by decide +kernel
theorem dR_endOf_6 : decode (am_by jR_endOf) 6 = .ok (.istore 4, 2) := by decide +kernel
theorem dR_endOf_8 : decode (am_by jR_endOf) 8 = .ok (.aload_n 0, 1) := by decide +kernel
theorem dR_endOf_9 : decode (am_by jR_endOf) 9 = .ok (.getfield 7, 3) := by decide +kernel
theorem dR_endOf_12 : decode (am_by jR_endOf) 12 = .ok (.iload_n 3, 1) := by decide +kernel
theorem dR_endOf_13 : decode (am_by jR_endOf) 13 = .ok (.iload_n 2, 1) := by decide +kernel
theorem dR_endOf_14 : decode (am_by jR_endOf) 14 = .ok (.iadd, 1) := by decide +kernel
theorem dR_endOf_15 : decode (am_by jR_endOf) 15 = .ok (.iaload, 1) := by decide +kernel
theorem dR_endOf_16 : decode (am_by jR_endOf) 16 = .ok (.iconst 3, 1) := by decide +kernel
theorem dR_endOf_17 : decode (am_by jR_endOf) 17 = .ok (.if_icmp .eq 5, 3) := by decide +kernel
theorem dR_endOf_20 : decode (am_by jR_endOf) 20 = .ok (.iconst (-1), 1) := by decide +kernel
theorem dR_endOf_21 : decode (am_by jR_endOf) 21 = .ok (.ireturn, 1) := by decide +kernel
theorem dR_endOf_22 : decode (am_by jR_endOf) 22 = .ok (.iload 4, 2) := by decide +kernel
theorem dR_endOf_24 : decode (am_by jR_endOf) 24 = .ok (.aload_n 0, 1) := by decide +kernel
theorem dR_endOf_25 : decode (am_by jR_endOf) 25 = .ok (.getfield 19, 3) := by decide +kernel
theorem dR_endOf_28 : decode (am_by jR_endOf) 28 = .ok (.iload_n 1, 1) := by decide +kernel
theorem dR_endOf_29 : decode (am_by jR_endOf) 29 = .ok (.iaload, 1) := by decide +kernel
theorem dR_endOf_30 : decode (am_by jR_endOf) 30 = .ok (.if_icmp .ge 23, 3) := by decide +kernel
theorem dR_endOf_33 : decode (am_by jR_endOf) 33 = .ok (.aload_n 0, 1) := by decide +kernel
theorem dR_endOf_34 : decode (am_by jR_endOf) 34 = .ok (.getfield 7, 3) := by decide +kernel
theorem dR_endOf_37 : decode (am_by jR_endOf) 37 = .ok (.iload_n 3, 1) := by decide +kernel
theorem dR_endOf_38 : decode (am_by jR_endOf) 38 = .ok (.iload 4, 2) := by decide +kernel
theorem dR_endOf_40 : decode (am_by jR_endOf) 40 = .ok (.iadd, 1) := by decide +kernel
theorem dR_endOf_41 : decode (am_by jR_endOf) 41 = .ok (.iaload, 1) := by decide +kernel
theorem dR_endOf_42 : decode (am_by jR_endOf) 42 = .ok (.bipush 24, 2) := by decide +kernel
theorem dR_endOf_44 : decode (am_by jR_endOf) 44 = .ok (.if_icmp .eq 9, 3) := by decide +kernel
theorem dR_endOf_47 : decode (am_by jR_endOf) 47 = .ok (.iinc 4 1, 3) := by decide +kernel
theorem dR_endOf_50 : decode (am_by jR_endOf) 50 = .ok (.goto (-28), 3) := by decide +kernel
theorem dR_endOf_53 : decode (am_by jR_endOf) 53 = .ok (.iload 4, 2) := by decide +kernel
theorem dR_endOf_55 : decode (am_by jR_endOf) 55 = .ok (.aload_n 0, 1) := by decide +kernel
theorem dR_endOf_56 : decode (am_by jR_endOf) 56 = .ok (.getfield 19, 3) := by decide +kernel
theorem dR_endOf_59 : decode (am_by jR_endOf) 59 = .ok (.iload_n 1, 1) := by decide +kernel
theorem dR_endOf_60 : decode (am_by jR_endOf) 60 = .ok (.iaload, 1) := by decide +kernel
theorem dR_endOf_61 : decode (am_by jR_endOf) 61 = .ok (.if_icmp .eq 23, 3) := by decide +kernel
theorem dR_endOf_64 : decode (am_by jR_endOf) 64 = .ok (.aload_n 0, 1) := by decide +kernel
theorem dR_endOf_65 : decode (am_by jR_endOf) 65 = .ok (.getfield 13, 3) := by decide +kernel
theorem dR_endOf_68 : decode (am_by jR_endOf) 68 = .ok (.iload_n 3, 1) := by decide +kernel
theorem dR_endOf_69 : decode (am_by jR_endOf) 69 = .ok (.iload 4, 2) := by decide +kernel
theorem dR_endOf_71 : decode (am_by jR_endOf) 71 = .ok (.iadd, 1) := by decide +kernel
theorem dR_endOf_72 : decode (am_by jR_endOf) 72 = .ok (.iaload, 1) := by decide +kernel
theorem dR_endOf_73 : decode (am_by jR_endOf) 73 = .ok (.aload_n 0, 1) := by decide +kernel
theorem dR_endOf_74 : decode (am_by jR_endOf) 74 = .ok (.getfield 13, 3) := by decide +kernel
theorem dR_endOf_77 : decode (am_by jR_endOf) 77 = .ok (.iload_n 3, 1) := by decide +kernel
theorem dR_endOf_78 : decode (am_by jR_endOf) 78 = .ok (.iload_n 2, 1) := by decide +kernel
theorem dR_endOf_79 : decode (am_by jR_endOf) 79 = .ok (.iadd, 1) := by decide +kernel
theorem dR_endOf_80 : decode (am_by jR_endOf) 80 = .ok (.iaload, 1) := by decide +kernel
theorem dR_endOf_81 : decode (am_by jR_endOf) 81 = .ok (.if_icmp .eq 5, 3) := by decide +kernel
theorem dR_endOf_84 : decode (am_by jR_endOf) 84 = .ok (.iconst (-1), 1) := by decide +kernel
theorem dR_endOf_85 : decode (am_by jR_endOf) 85 = .ok (.ireturn, 1) := by decide +kernel
theorem dR_endOf_86 : decode (am_by jR_endOf) 86 = .ok (.iconst 0, 1) := by decide +kernel
theorem dR_endOf_87 : decode (am_by jR_endOf) 87 = .ok (.istore 5, 2) := by decide +kernel
theorem dR_endOf_89 : decode (am_by jR_endOf) 89 = .ok (.iload 5, 2) := by decide +kernel
theorem dR_endOf_91 : decode (am_by jR_endOf) 91 = .ok (.aload_n 0, 1) := by decide +kernel
theorem dR_endOf_92 : decode (am_by jR_endOf) 92 = .ok (.getfield 19, 3) := by decide +kernel
theorem dR_endOf_95 : decode (am_by jR_endOf) 95 = .ok (.iload_n 1, 1) := by decide +kernel
theorem dR_endOf_96 : decode (am_by jR_endOf) 96 = .ok (.iaload, 1) := by decide +kernel
theorem dR_endOf_97 : decode (am_by jR_endOf) 97 = .ok (.if_icmp .ge 182, 3) := by decide +kernel
theorem dR_endOf_100 : decode (am_by jR_endOf) 100 = .ok (.aload_n 0, 1) := by decide +kernel
theorem dR_endOf_101 : decode (am_by jR_endOf) 101 = .ok (.getfield 7, 3) := by decide +kernel
theorem dR_endOf_104 : decode (am_by jR_endOf) 104 = .ok (.iload_n 3, 1) := by decide +kernel
theorem dR_endOf_105 : decode (am_by jR_endOf) 105 = .ok (.iload 5, 2) := by decide +kernel
theorem dR_endOf_107 : decode (am_by jR_endOf) 107 = .ok (.iadd, 1) := by decide +kernel
theorem dR_endOf_108 : decode (am_by jR_endOf) 108 = .ok (.iaload, 1) := by decide +kernel
theorem dR_endOf_109 : decode (am_by jR_endOf) 109 = .ok (.istore 6, 2) := by decide +kernel
theorem dR_endOf_111 : decode (am_by jR_endOf) 111 = .ok (.aload_n 0, 1) := by decide +kernel
theorem dR_endOf_112 : decode (am_by jR_endOf) 112 = .ok (.getfield 16, 3) := by decide +kernel
theorem dR_endOf_115 : decode (am_by jR_endOf) 115 = .ok (.iload_n 3, 1) := by decide +kernel
theorem dR_endOf_116 : decode (am_by jR_endOf) 116 = .ok (.iload 5, 2) := by decide +kernel
theorem dR_endOf_118 : decode (am_by jR_endOf) 118 = .ok (.iadd, 1) := by decide +kernel
theorem dR_endOf_119 : decode (am_by jR_endOf) 119 = .ok (.iaload, 1) := by decide +kernel
theorem dR_endOf_120 : decode (am_by jR_endOf) 120 = .ok (.istore 7, 2) := by decide +kernel
theorem dR_endOf_122 : decode (am_by jR_endOf) 122 = .ok (.iload 5, 2) := by decide +kernel
theorem dR_endOf_124 : decode (am_by jR_endOf) 124 = .ok (.iload_n 2, 1) := by decide +kernel
theorem dR_endOf_125 : decode (am_by jR_endOf) 125 = .ok (.if_icmp .le 14, 3) := by decide +kernel
theorem dR_endOf_128 : decode (am_by jR_endOf) 128 = .ok (.iload 5, 2) := by decide +kernel
theorem dR_endOf_130 : decode (am_by jR_endOf) 130 = .ok (.iload 4, 2) := by decide +kernel
theorem dR_endOf_132 : decode (am_by jR_endOf) 132 = .ok (.if_icmp .ge 7, 3) := by decide +kernel
theorem dR_endOf_135 : decode (am_by jR_endOf) 135 = .ok (.iconst 1, 1) := by decide +kernel
theorem dR_endOf_136 : decode (am_by jR_endOf) 136 = .ok (.goto 4, 3) := by decide +kernel
theorem dR_endOf_139 : decode (am_by jR_endOf) 139 = .ok (.iconst 0, 1) := by decide +kernel
theorem dR_endOf_140 : decode (am_by jR_endOf) 140 = .ok (.istore 8, 2) := by decide +kernel
theorem dR_endOf_142 : decode (am_by jR_endOf) 142 = .ok (.iload 6, 2) := by decide +kernel
theorem dR_endOf_144 : decode (am_by jR_endOf) 144 = .ok (.bipush 11, 2) := by decide +kernel
theorem dR_endOf_146 : decode (am_by jR_endOf) 146 = .ok (.if_icmp .eq 17, 3) := by decide +kernel
theorem dR_endOf_149 : decode (am_by jR_endOf) 149 = .ok (.iload 6, 2) := by decide +kernel
theorem dR_endOf_151 : decode (am_by jR_endOf) 151 = .ok (.bipush 12, 2) := by decide +kernel
theorem dR_endOf_153 : decode (am_by jR_endOf) 153 = .ok (.if_icmp .eq 10, 3) := by decide +kernel
theorem dR_endOf_156 : decode (am_by jR_endOf) 156 = .ok (.iload 6, 2) := by decide +kernel
theorem dR_endOf_158 : decode (am_by jR_endOf) 158 = .ok (.bipush 17, 2) := by decide +kernel
theorem dR_endOf_160 : decode (am_by jR_endOf) 160 = .ok (.if_icmp .ne 7, 3) := by decide +kernel
theorem dR_endOf_163 : decode (am_by jR_endOf) 163 = .ok (.iconst 1, 1) := by decide +kernel
theorem dR_endOf_164 : decode (am_by jR_endOf) 164 = .ok (.goto 4, 3) := by decide +kernel
theorem dR_endOf_167 : decode (am_by jR_endOf) 167 = .ok (.iconst 0, 1) := by decide +kernel
theorem dR_endOf_168 : decode (am_by jR_endOf) 168 = .ok (.istore 9, 2) := by decide +kernel
theorem dR_endOf_170 : decode (am_by jR_endOf) 170 = .ok (.iload 8, 2) := by decide +kernel
theorem dR_endOf_172 : decode (am_by jR_endOf) 172 = .ok (.ifCond .eq 51, 3) := by decide +kernel
theorem dR_endOf_175 : decode (am_by jR_endOf) 175 = .ok (.iload 6, 2) := by decide +kernel
theorem dR_endOf_177 : decode (am_by jR_endOf) 177 = .ok (.bipush 23, 2) := by decide +kernel
theorem dR_endOf_179 : decode (am_by jR_endOf) 179 = .ok (.if_icmp .eq 42, 3) := by decide +kernel
theorem dR_endOf_182 : decode (am_by jR_endOf) 182 = .ok (.iload 6, 2) := by decide +kernel
theorem dR_endOf_184 : decode (am_by jR_endOf) 184 = .ok (.iconst 2, 1) := by decide +kernel
theorem dR_endOf_185 : decode (am_by jR_endOf) 185 = .ok (.if_icmp .eq 16, 3) := by decide +kernel
theorem dR_endOf_188 : decode (am_by jR_endOf) 188 = .ok (.iload 6, 2) := by decide +kernel
theorem dR_endOf_190 : decode (am_by jR_endOf) 190 = .ok (.iconst 3, 1) := by decide +kernel
theorem dR_endOf_191 : decode (am_by jR_endOf) 191 = .ok (.if_icmp .eq 10, 3) := by decide +kernel
theorem dR_endOf_194 : decode (am_by jR_endOf) 194 = .ok (.iload 6, 2) := by decide +kernel
theorem dR_endOf_196 : decode (am_by jR_endOf) 196 = .ok (.bipush 27, 2) := by decide +kernel
theorem dR_endOf_198 : decode (am_by jR_endOf) 198 = .ok (.if_icmp .ne 25, 3) := by decide +kernel
theorem dR_endOf_201 : decode (am_by jR_endOf) 201 = .ok (.aload_n 0, 1) := by decide +kernel
theorem dR_endOf_202 : decode (am_by jR_endOf) 202 = .ok (.getfield 13, 3) := by decide +kernel
theorem dR_endOf_205 : decode (am_by jR_endOf) 205 = .ok (.iload_n 3, 1) := by decide +kernel
theorem dR_endOf_206 : decode (am_by jR_endOf) 206 = .ok (.iload 5, 2) := by decide +kernel
theorem dR_endOf_208 : decode (am_by jR_endOf) 208 = .ok (.iadd, 1) := by decide +kernel
theorem dR_endOf_209 : decode (am_by jR_endOf) 209 = .ok (.iaload, 1) := by decide +kernel
theorem dR_endOf_210 : decode (am_by jR_endOf) 210 = .ok (.aload_n 0, 1) := by decide +kernel
theorem dR_endOf_211 : decode (am_by jR_endOf) 211 = .ok (.getfield 13, 3) := by decide +kernel
theorem dR_endOf_214 : decode (am_by jR_endOf) 214 = .ok (.iload_n 3, 1) := by decide +kernel
theorem dR_endOf_215 : decode (am_by jR_endOf) 215 = .ok (.iload_n 2, 1) := by decide +kernel
theorem dR_endOf_216 : decode (am_by jR_endOf) 216 = .ok (.iadd, 1) := by decide +kernel
theorem dR_endOf_217 : decode (am_by jR_endOf) 217 = .ok (.iaload, 1) := by decide +kernel
theorem dR_endOf_218 : decode (am_by jR_endOf) 218 = .ok (.if_icmp .ne 5, 3) := by decide +kernel
theorem dR_endOf_221 : decode (am_by jR_endOf) 221 = .ok (.iconst (-1), 1) := by decide +kernel
theorem dR_endOf_222 : decode (am_by jR_endOf) 222 = .ok (.ireturn, 1) := by decide +kernel
theorem dR_endOf_223 : decode (am_by jR_endOf) 223 = .ok (.iload 8, 2) := by decide +kernel
theorem dR_endOf_225 : decode (am_by jR_endOf) 225 = .ok (.ifCond .eq 23, 3) := by decide +kernel
theorem dR_endOf_228 : decode (am_by jR_endOf) 228 = .ok (.iload 9, 2) := by decide +kernel
theorem dR_endOf_230 : decode (am_by jR_endOf) 230 = .ok (.ifCond .eq 18, 3) := by decide +kernel
theorem dR_endOf_233 : decode (am_by jR_endOf) 233 = .ok (.iload 7, 2) := by decide +kernel
theorem dR_endOf_235 : decode (am_by jR_endOf) 235 = .ok (.iload_n 2, 1) := by decide +kernel
theorem dR_endOf_236 : decode (am_by jR_endOf) 236 = .ok (.if_icmp .le 10, 3) := by decide +kernel
theorem dR_endOf_239 : decode (am_by jR_endOf) 239 = .ok (.iload 7, 2) := by decide +kernel
theorem dR_endOf_241 : decode (am_by jR_endOf) 241 = .ok (.iload 4, 2) := by decide +kernel
theorem dR_endOf_243 : decode (am_by jR_endOf) 243 = .ok (.if_icmp .le 5, 3) := by decide +kernel
theorem dR_endOf_246 : decode (am_by jR_endOf) 246 = .ok (.iconst (-1), 1) := by decide +kernel
theorem dR_endOf_247 : decode (am_by jR_endOf) 247 = .ok (.ireturn, 1) := by decide +kernel
theorem dR_endOf_248 : decode (am_by jR_endOf) 248 = .ok (.iload 8, 2) := by decide +kernel
theorem dR_endOf_250 : decode (am_by jR_endOf) 250 = .ok (.ifCond .ne 23, 3) := by decide +kernel
theorem dR_endOf_253 : decode (am_by jR_endOf) 253 = .ok (.iload 9, 2) := by decide +kernel
theorem dR_endOf_255 : decode (am_by jR_endOf) 255 = .ok (.ifCond .eq 18, 3) := by decide +kernel
theorem dR_endOf_258 : decode (am_by jR_endOf) 258 = .ok (.iload 7, 2) := by decide +kernel
theorem dR_endOf_260 : decode (am_by jR_endOf) 260 = .ok (.iload_n 2, 1) := by decide +kernel
theorem dR_endOf_261 : decode (am_by jR_endOf) 261 = .ok (.if_icmp .lt 12, 3) := by decide +kernel
theorem dR_endOf_264 : decode (am_by jR_endOf) 264 = .ok (.iload 7, 2) := by decide +kernel
theorem dR_endOf_266 : decode (am_by jR_endOf) 266 = .ok (.iload 4, 2) := by decide +kernel
theorem dR_endOf_268 : decode (am_by jR_endOf) 268 = .ok (.if_icmp .gt 5, 3) := by decide +kernel
theorem dR_endOf_271 : decode (am_by jR_endOf) 271 = .ok (.iconst (-1), 1) := by decide +kernel
theorem dR_endOf_272 : decode (am_by jR_endOf) 272 = .ok (.ireturn, 1) := by decide +kernel
theorem dR_endOf_273 : decode (am_by jR_endOf) 273 = .ok (.iinc 5 1, 3) := by decide +kernel
theorem dR_endOf_276 : decode (am_by jR_endOf) 276 = .ok (.goto (-187), 3) := by decide +kernel
theorem dR_endOf_279 : decode (am_by jR_endOf) 279 = .ok (.iconst 0, 1) := by decide +kernel
theorem dR_endOf_280 : decode (am_by jR_endOf) 280 = .ok (.istore 5, 2) := by decide +kernel
theorem dR_endOf_282 : decode (am_by jR_endOf) 282 = .ok (.iload 5, 2) := by decide +kernel
theorem dR_endOf_284 : decode (am_by jR_endOf) 284 = .ok (.aload_n 0, 1) := by decide +kernel
theorem dR_endOf_285 : decode (am_by jR_endOf) 285 = .ok (.getfield 25, 3) := by decide +kernel
theorem dR_endOf_288 : decode (am_by jR_endOf) 288 = .ok (.iload_n 1, 1) := by decide +kernel
theorem dR_endOf_289 : decode (am_by jR_endOf) 289 = .ok (.iaload, 1) := by decide +kernel
theorem dR_endOf_290 : decode (am_by jR_endOf) 290 = .ok (.if_icmp .ge 44, 3) := by decide +kernel
theorem dR_endOf_293 : decode (am_by jR_endOf) 293 = .ok (.aload_n 0, 1) := by decide +kernel
theorem dR_endOf_294 : decode (am_by jR_endOf) 294 = .ok (.getfield 34, 3) := by decide +kernel
theorem dR_endOf_297 : decode (am_by jR_endOf) 297 = .ok (.bipush 8, 2) := by decide +kernel
theorem dR_endOf_299 : decode (am_by jR_endOf) 299 = .ok (.iload_n 1, 1) := by decide +kernel
theorem dR_endOf_300 : decode (am_by jR_endOf) 300 = .ok (.imul, 1) := by decide +kernel
theorem dR_endOf_301 : decode (am_by jR_endOf) 301 = .ok (.iload 5, 2) := by decide +kernel
theorem dR_endOf_303 : decode (am_by jR_endOf) 303 = .ok (.iadd, 1) := by decide +kernel
theorem dR_endOf_304 : decode (am_by jR_endOf) 304 = .ok (.iaload, 1) := by decide +kernel
theorem dR_endOf_305 : decode (am_by jR_endOf) 305 = .ok (.iload_n 2, 1) := by decide +kernel
theorem dR_endOf_306 : decode (am_by jR_endOf) 306 = .ok (.if_icmp .lt 22, 3) := by decide +kernel
theorem dR_endOf_309 : decode (am_by jR_endOf) 309 = .ok (.aload_n 0, 1) := by decide +kernel
theorem dR_endOf_310 : decode (am_by jR_endOf) 310 = .ok (.getfield 34, 3) := by decide +kernel
theorem dR_endOf_313 : decode (am_by jR_endOf) 313 = .ok (.bipush 8, 2) := by decide +kernel
theorem dR_endOf_315 : decode (am_by jR_endOf) 315 = .ok (.iload_n 1, 1) := by decide +kernel
theorem dR_endOf_316 : decode (am_by jR_endOf) 316 = .ok (.imul, 1) := by decide +kernel
theorem dR_endOf_317 : decode (am_by jR_endOf) 317 = .ok (.iload 5, 2) := by decide +kernel
theorem dR_endOf_319 : decode (am_by jR_endOf) 319 = .ok (.iadd, 1) := by decide +kernel
theorem dR_endOf_320 : decode (am_by jR_endOf) 320 = .ok (.iaload, 1) := by decide +kernel
theorem dR_endOf_321 : decode (am_by jR_endOf) 321 = .ok (.iload 4, 2) := by decide +kernel
theorem dR_endOf_323 : decode (am_by jR_endOf) 323 = .ok (.if_icmp .gt 5, 3) := by decide +kernel
theorem dR_endOf_326 : decode (am_by jR_endOf) 326 = .ok (.iconst (-1), 1) := by decide +kernel
theorem dR_endOf_327 : decode (am_by jR_endOf) 327 = .ok (.ireturn, 1) := by decide +kernel
theorem dR_endOf_328 : decode (am_by jR_endOf) 328 = .ok (.iinc 5 1, 3) := by decide +kernel
theorem dR_endOf_331 : decode (am_by jR_endOf) 331 = .ok (.goto (-49), 3) := by decide +kernel
theorem dR_endOf_334 : decode (am_by jR_endOf) 334 = .ok (.iload 4, 2) := by decide +kernel
theorem dR_endOf_336 : decode (am_by jR_endOf) 336 = .ok (.ireturn, 1) := by decide +kernel
theorem dR_unfold_0 : decode (am_by jR_unfold) 0 = .ok (.iload_n 1, 1) := by decide +kernel
theorem dR_unfold_1 : decode (am_by jR_unfold) 1 = .ok (.iconst 0, 1) := by decide +kernel
theorem dR_unfold_2 : decode (am_by jR_unfold) 2 = .ok (.iconst 5, 1) := by decide +kernel
theorem dR_unfold_3 : decode (am_by jR_unfold) 3 = .ok (.invokestatic 123, 3) := by decide +kernel
theorem dR_unfold_6 : decode (am_by jR_unfold) 6 = .ok (.ifCond .ne 5, 3) := by decide +kernel
theorem dR_unfold_9 : decode (am_by jR_unfold) 9 = .ok (.iconst (-1), 1) := by decide +kernel
theorem dR_unfold_10 : decode (am_by jR_unfold) 10 = .ok (.ireturn, 1) := by decide +kernel
theorem dR_unfold_11 : decode (am_by jR_unfold) 11 = .ok (.aload_n 0, 1) := by decide +kernel
theorem dR_unfold_12 : decode (am_by jR_unfold) 12 = .ok (.iload_n 1, 1) := by decide +kernel
theorem dR_unfold_13 : decode (am_by jR_unfold) 13 = .ok (.invokevirtual 135, 3) := by decide +kernel
theorem dR_unfold_16 : decode (am_by jR_unfold) 16 = .ok (.istore_n 3, 1) := by decide +kernel
theorem dR_unfold_17 : decode (am_by jR_unfold) 17 = .ok (.bipush 60, 2) := by decide +kernel
theorem dR_unfold_19 : decode (am_by jR_unfold) 19 = .ok (.iload_n 3, 1) := by decide +kernel
theorem dR_unfold_20 : decode (am_by jR_unfold) 20 = .ok (.imul, 1) := by decide +kernel
theorem dR_unfold_21 : decode (am_by jR_unfold) 21 = .ok (.istore 4, 2) := by decide +kernel
theorem dR_unfold_23 : decode (am_by jR_unfold) 23 = .ok (.aload_n 0, 1) := by decide +kernel
theorem dR_unfold_24 : decode (am_by jR_unfold) 24 = .ok (.iload_n 3, 1) := by decide +kernel
theorem dR_unfold_25 : decode (am_by jR_unfold) 25 = .ok (.invokevirtual 188, 3) := by decide +kernel
theorem dR_unfold_28 : decode (am_by jR_unfold) 28 = .ok (.istore 5, 2) := by decide +kernel
theorem dR_unfold_30 : decode (am_by jR_unfold) 30 = .ok (.iload 5, 2) := by decide +kernel
theorem dR_unfold_32 : decode (am_by jR_unfold) 32 = .ok (.ifCond .ne 6, 3) := by decide +kernel
theorem dR_unfold_35 : decode (am_by jR_unfold) 35 = .ok (.bipush (-4), 2) := by decide +kernel
theorem dR_unfold_37 : decode (am_by jR_unfold) 37 = .ok (.ireturn, 1) := by decide +kernel
theorem dR_unfold_38 : decode (am_by jR_unfold) 38 = .ok (.iload_n 2, 1) := by decide +kernel
theorem dR_unfold_39 : decode (am_by jR_unfold) 39 = .ok (.iconst 0, 1) := by decide +kernel
theorem dR_unfold_40 : decode (am_by jR_unfold) 40 = .ok (.aload_n 0, 1) := by decide +kernel
theorem dR_unfold_41 : decode (am_by jR_unfold) 41 = .ok (.getfield 19, 3) := by decide +kernel
theorem dR_unfold_44 : decode (am_by jR_unfold) 44 = .ok (.iload_n 3, 1) := by decide +kernel
theorem dR_unfold_45 : decode (am_by jR_unfold) 45 = .ok (.iaload, 1) := by decide +kernel
theorem dR_unfold_46 : decode (am_by jR_unfold) 46 = .ok (.iconst 1, 1) := by decide +kernel
theorem dR_unfold_47 : decode (am_by jR_unfold) 47 = .ok (.isub, 1) := by decide +kernel
theorem dR_unfold_48 : decode (am_by jR_unfold) 48 = .ok (.invokestatic 123, 3) := by decide +kernel
theorem dR_unfold_51 : decode (am_by jR_unfold) 51 = .ok (.ifCond .eq 35, 3) := by decide +kernel
theorem dR_unfold_54 : decode (am_by jR_unfold) 54 = .ok (.aload_n 0, 1) := by decide +kernel
theorem dR_unfold_55 : decode (am_by jR_unfold) 55 = .ok (.getfield 7, 3) := by decide +kernel
theorem dR_unfold_58 : decode (am_by jR_unfold) 58 = .ok (.iload 4, 2) := by decide +kernel
theorem dR_unfold_60 : decode (am_by jR_unfold) 60 = .ok (.iload_n 2, 1) := by decide +kernel
theorem dR_unfold_61 : decode (am_by jR_unfold) 61 = .ok (.iadd, 1) := by decide +kernel
theorem dR_unfold_62 : decode (am_by jR_unfold) 62 = .ok (.iaload, 1) := by decide +kernel
theorem dR_unfold_63 : decode (am_by jR_unfold) 63 = .ok (.bipush 23, 2) := by decide +kernel
theorem dR_unfold_65 : decode (am_by jR_unfold) 65 = .ok (.if_icmp .ne 21, 3) := by decide +kernel
theorem dR_unfold_68 : decode (am_by jR_unfold) 68 = .ok (.aload_n 0, 1) := by decide +kernel
theorem dR_unfold_69 : decode (am_by jR_unfold) 69 = .ok (.getfield 16, 3) := by decide +kernel
theorem dR_unfold_72 : decode (am_by jR_unfold) 72 = .ok (.iload 4, 2) := by decide +kernel
theorem dR_unfold_74 : decode (am_by jR_unfold) 74 = .ok (.iload_n 2, 1) := by decide +kernel
theorem dR_unfold_75 : decode (am_by jR_unfold) 75 = .ok (.iadd, 1) := by decide +kernel
theorem dR_unfold_76 : decode (am_by jR_unfold) 76 = .ok (.iaload, 1) := by decide +kernel
theorem dR_unfold_77 : decode (am_by jR_unfold) 77 = .ok (.aload_n 0, 1) := by decide +kernel
theorem dR_unfold_78 : decode (am_by jR_unfold) 78 = .ok (.getfield 19, 3) := by decide +kernel
theorem dR_unfold_81 : decode (am_by jR_unfold) 81 = .ok (.iload_n 3, 1) := by decide +kernel
theorem dR_unfold_82 : decode (am_by jR_unfold) 82 = .ok (.iaload, 1) := by decide +kernel
theorem dR_unfold_83 : decode (am_by jR_unfold) 83 = .ok (.if_icmp .lt 6, 3) := by decide +kernel
theorem dR_unfold_86 : decode (am_by jR_unfold) 86 = .ok (.bipush (-2), 2) := by decide +kernel
theorem dR_unfold_88 : decode (am_by jR_unfold) 88 = .ok (.ireturn, 1) := by decide +kernel
theorem dR_unfold_89 : decode (am_by jR_unfold) 89 = .ok (.aload_n 0, 1) := by decide +kernel
theorem dR_unfold_90 : decode (am_by jR_unfold) 90 = .ok (.getfield 16, 3) := by decide +kernel
theorem dR_unfold_93 : decode (am_by jR_unfold) 93 = .ok (.iload 4, 2) := by decide +kernel
theorem dR_unfold_95 : decode (am_by jR_unfold) 95 = .ok (.iload_n 2, 1) := by decide +kernel
theorem dR_unfold_96 : decode (am_by jR_unfold) 96 = .ok (.iadd, 1) := by decide +kernel
theorem dR_unfold_97 : decode (am_by jR_unfold) 97 = .ok (.iaload, 1) := by decide +kernel
theorem dR_unfold_98 : decode (am_by jR_unfold) 98 = .ok (.istore 6, 2) := by decide +kernel
theorem dR_unfold_100 : decode (am_by jR_unfold) 100 = .ok (.aload_n 0, 1) := by decide +kernel
theorem dR_unfold_101 : decode (am_by jR_unfold) 101 = .ok (.iload_n 3, 1) := by decide +kernel
theorem dR_unfold_102 : decode (am_by jR_unfold) 102 = .ok (.iload 6, 2) := by decide +kernel
theorem dR_unfold_104 : decode (am_by jR_unfold) 104 = .ok (.invokevirtual 284, 3) := by decide +kernel
theorem dR_unfold_107 : decode (am_by jR_unfold) 107 = .ok (.istore 7, 2) := by decide +kernel
theorem dR_unfold_109 : decode (am_by jR_unfold) 109 = .ok (.iload 7, 2) := by decide +kernel
theorem dR_unfold_111 : decode (am_by jR_unfold) 111 = .ok (.iload 6, 2) := by decide +kernel
theorem dR_unfold_113 : decode (am_by jR_unfold) 113 = .ok (.isub, 1) := by decide +kernel
theorem dR_unfold_114 : decode (am_by jR_unfold) 114 = .ok (.iconst 1, 1) := by decide +kernel
theorem dR_unfold_115 : decode (am_by jR_unfold) 115 = .ok (.isub, 1) := by decide +kernel
theorem dR_unfold_116 : decode (am_by jR_unfold) 116 = .ok (.istore 8, 2) := by decide +kernel
theorem dR_unfold_118 : decode (am_by jR_unfold) 118 = .ok (.iload 7, 2) := by decide +kernel
theorem dR_unfold_120 : decode (am_by jR_unfold) 120 = .ok (.ifCond .lt 15, 3) := by decide +kernel
theorem dR_unfold_123 : decode (am_by jR_unfold) 123 = .ok (.iload_n 2, 1) := by decide +kernel
theorem dR_unfold_124 : decode (am_by jR_unfold) 124 = .ok (.iload 6, 2) := by decide +kernel
theorem dR_unfold_126 : decode (am_by jR_unfold) 126 = .ok (.if_icmp .lt 12, 3) := by decide +kernel
theorem dR_unfold_129 : decode (am_by jR_unfold) 129 = .ok (.iload_n 2, 1) := by decide +kernel
theorem dR_unfold_130 : decode (am_by jR_unfold) 130 = .ok (.iload 7, 2) := by decide +kernel
theorem dR_unfold_132 : decode (am_by jR_unfold) 132 = .ok (.if_icmp .gt 6, 3) := by decide +kernel
theorem dR_unfold_135 : decode (am_by jR_unfold) 135 = .ok (.bipush (-2), 2) := by decide +kernel
theorem dR_unfold_137 : decode (am_by jR_unfold) 137 = .ok (.ireturn, 1) := by decide +kernel
theorem dR_unfold_138 : decode (am_by jR_unfold) 138 = .ok (.aload_n 0, 1) := by decide +kernel
theorem dR_unfold_139 : decode (am_by jR_unfold) 139 = .ok (.iconst 0, 1) := by decide +kernel
theorem dR_unfold_140 : decode (am_by jR_unfold) 140 = .ok (.putfield 277, 3) := by decide +kernel
theorem dR_unfold_143 : decode (am_by jR_unfold) 143 = .ok (.iconst 0, 1) := by decide +kernel
theorem dR_unfold_144 : decode (am_by jR_unfold) 144 = .ok (.istore 9, 2) := by decide +kernel
theorem dR_unfold_146 : decode (am_by jR_unfold) 146 = .ok (.iload 9, 2) := by decide +kernel
theorem dR_unfold_148 : decode (am_by jR_unfold) 148 = .ok (.aload_n 0, 1) := by decide +kernel
theorem dR_unfold_149 : decode (am_by jR_unfold) 149 = .ok (.getfield 25, 3) := by decide +kernel
theorem dR_unfold_152 : decode (am_by jR_unfold) 152 = .ok (.iload_n 3, 1) := by decide +kernel
theorem dR_unfold_153 : decode (am_by jR_unfold) 153 = .ok (.iaload, 1) := by decide +kernel
theorem dR_unfold_154 : decode (am_by jR_unfold) 154 = .ok (.if_icmp .ge 186, 3) := by decide +kernel
theorem dR_unfold_157 : decode (am_by jR_unfold) 157 = .ok (.bipush 8, 2) := by decide +kernel
theorem dR_unfold_159 : decode (am_by jR_unfold) 159 = .ok (.iload_n 3, 1) := by decide +kernel
theorem dR_unfold_160 : decode (am_by jR_unfold) 160 = .ok (.imul, 1) := by decide +kernel
theorem dR_unfold_161 : decode (am_by jR_unfold) 161 = .ok (.iload 9, 2) := by decide +kernel
theorem dR_unfold_163 : decode (am_by jR_unfold) 163 = .ok (.iadd, 1) := by decide +kernel
theorem dR_unfold_164 : decode (am_by jR_unfold) 164 = .ok (.istore 10, 2) := by decide +kernel
theorem dR_unfold_166 : decode (am_by jR_unfold) 166 = .ok (.aload_n 0, 1) := by decide +kernel
theorem dR_unfold_167 : decode (am_by jR_unfold) 167 = .ok (.getfield 28, 3) := by decide +kernel
theorem dR_unfold_170 : decode (am_by jR_unfold) 170 = .ok (.iload 10, 2) := by decide +kernel
theorem dR_unfold_172 : decode (am_by jR_unfold) 172 = .ok (.iaload, 1) := by decide +kernel
theorem dR_unfold_173 : decode (am_by jR_unfold) 173 = .ok (.istore 11, 2) := by decide +kernel
theorem dR_unfold_175 : decode (am_by jR_unfold) 175 = .ok (.aload_n 0, 1) := by decide +kernel
theorem dR_unfold_176 : decode (am_by jR_unfold) 176 = .ok (.getfield 31, 3) := by decide +kernel
theorem dR_unfold_179 : decode (am_by jR_unfold) 179 = .ok (.iload 10, 2) := by decide +kernel
theorem dR_unfold_181 : decode (am_by jR_unfold) 181 = .ok (.iaload, 1) := by decide +kernel
theorem dR_unfold_182 : decode (am_by jR_unfold) 182 = .ok (.istore 12, 2) := by decide +kernel
theorem dR_unfold_184 : decode (am_by jR_unfold) 184 = .ok (.aload_n 0, 1) := by decide +kernel
theorem dR_unfold_185 : decode (am_by jR_unfold) 185 = .ok (.getfield 34, 3) := by decide +kernel
theorem dR_unfold_188 : decode (am_by jR_unfold) 188 = .ok (.iload 10, 2) := by decide +kernel
theorem dR_unfold_190 : decode (am_by jR_unfold) 190 = .ok (.iaload, 1) := by decide +kernel
theorem dR_unfold_191 : decode (am_by jR_unfold) 191 = .ok (.iload_n 2, 1) := by decide +kernel
theorem dR_unfold_192 : decode (am_by jR_unfold) 192 = .ok (.iload 8, 2) := by decide +kernel
theorem dR_unfold_194 : decode (am_by jR_unfold) 194 = .ok (.invokestatic 280, 3) := by decide +kernel
theorem dR_unfold_197 : decode (am_by jR_unfold) 197 = .ok (.istore 13, 2) := by decide +kernel
theorem dR_unfold_199 : decode (am_by jR_unfold) 199 = .ok (.iload 11, 2) := by decide +kernel
theorem dR_unfold_201 : decode (am_by jR_unfold) 201 = .ok (.iload 6, 2) := by decide +kernel
theorem dR_unfold_203 : decode (am_by jR_unfold) 203 = .ok (.if_icmp .le 8, 3) := by decide +kernel
theorem dR_unfold_206 : decode (am_by jR_unfold) 206 = .ok (.iload 11, 2) := by decide +kernel
theorem dR_unfold_208 : decode (am_by jR_unfold) 208 = .ok (.goto 7, 3) := by decide +kernel
theorem dR_unfold_211 : decode (am_by jR_unfold) 211 = .ok (.iload 6, 2) := by decide +kernel
theorem dR_unfold_213 : decode (am_by jR_unfold) 213 = .ok (.iconst 1, 1) := by decide +kernel
theorem dR_unfold_214 : decode (am_by jR_unfold) 214 = .ok (.iadd, 1) := by decide +kernel
theorem dR_unfold_215 : decode (am_by jR_unfold) 215 = .ok (.istore 14, 2) := by decide +kernel
theorem dR_unfold_217 : decode (am_by jR_unfold) 217 = .ok (.iload 12, 2) := by decide +kernel
theorem dR_unfold_219 : decode (am_by jR_unfold) 219 = .ok (.iload 7, 2) := by decide +kernel
theorem dR_unfold_221 : decode (am_by jR_unfold) 221 = .ok (.if_icmp .ge 8, 3) := by decide +kernel
theorem dR_unfold_224 : decode (am_by jR_unfold) 224 = .ok (.iload 12, 2) := by decide +kernel
theorem dR_unfold_226 : decode (am_by jR_unfold) 226 = .ok (.goto 5, 3) := by decide +kernel
theorem dR_unfold_229 : decode (am_by jR_unfold) 229 = .ok (.iload 7, 2) := by decide +kernel
theorem dR_unfold_231 : decode (am_by jR_unfold) 231 = .ok (.istore 15, 2) := by decide +kernel
theorem dR_unfold_233 : decode (am_by jR_unfold) 233 = .ok (.iload 11, 2) := by decide +kernel
theorem dR_unfold_235 : decode (am_by jR_unfold) 235 = .ok (.iload_n 2, 1) := by decide +kernel
theorem dR_unfold_236 : decode (am_by jR_unfold) 236 = .ok (.if_icmp .le 8, 3) := by decide +kernel
theorem dR_unfold_239 : decode (am_by jR_unfold) 239 = .ok (.iload 11, 2) := by decide +kernel
theorem dR_unfold_241 : decode (am_by jR_unfold) 241 = .ok (.goto 6, 3) := by decide +kernel
theorem dR_unfold_244 : decode (am_by jR_unfold) 244 = .ok (.iload_n 2, 1) := by decide +kernel
theorem dR_unfold_245 : decode (am_by jR_unfold) 245 = .ok (.iconst 1, 1) := by decide +kernel
theorem dR_unfold_246 : decode (am_by jR_unfold) 246 = .ok (.iadd, 1) := by decide +kernel
theorem dR_unfold_247 : decode (am_by jR_unfold) 247 = .ok (.istore 16, 2) := by decide +kernel
theorem dR_unfold_249 : decode (am_by jR_unfold) 249 = .ok (.aload_n 0, 1) := by decide +kernel
theorem dR_unfold_250 : decode (am_by jR_unfold) 250 = .ok (.iload 11, 2) := by decide +kernel
theorem dR_unfold_252 : decode (am_by jR_unfold) 252 = .ok (.iload 12, 2) := by decide +kernel
theorem dR_unfold_254 : decode (am_by jR_unfold) 254 = .ok (.iload_n 2, 1) := by decide +kernel
theorem dR_unfold_255 : decode (am_by jR_unfold) 255 = .ok (.if_icmp .ge 8, 3) := by decide +kernel
theorem dR_unfold_258 : decode (am_by jR_unfold) 258 = .ok (.iload 12, 2) := by decide +kernel
theorem dR_unfold_260 : decode (am_by jR_unfold) 260 = .ok (.goto 4, 3) := by decide +kernel
theorem dR_unfold_263 : decode (am_by jR_unfold) 263 = .ok (.iload_n 2, 1) := by decide +kernel
theorem dR_unfold_264 : decode (am_by jR_unfold) 264 = .ok (.iload 13, 2) := by decide +kernel
theorem dR_unfold_266 : decode (am_by jR_unfold) 266 = .ok (.aload_n 0, 1) := by decide +kernel
theorem dR_unfold_267 : decode (am_by jR_unfold) 267 = .ok (.getfield 37, 3) := by decide +kernel
theorem dR_unfold_270 : decode (am_by jR_unfold) 270 = .ok (.iload 10, 2) := by decide +kernel
theorem dR_unfold_272 : decode (am_by jR_unfold) 272 = .ok (.iaload, 1) := by decide +kernel
theorem dR_unfold_273 : decode (am_by jR_unfold) 273 = .ok (.invokevirtual 288, 3) := by decide +kernel
theorem dR_unfold_276 : decode (am_by jR_unfold) 276 = .ok (.aload_n 0, 1) := by decide +kernel
theorem dR_unfold_277 : decode (am_by jR_unfold) 277 = .ok (.iload_n 2, 1) := by decide +kernel
theorem dR_unfold_278 : decode (am_by jR_unfold) 278 = .ok (.iload 14, 2) := by decide +kernel
theorem dR_unfold_280 : decode (am_by jR_unfold) 280 = .ok (.iadd, 1) := by decide +kernel
theorem dR_unfold_281 : decode (am_by jR_unfold) 281 = .ok (.iload 6, 2) := by decide +kernel
theorem dR_unfold_283 : decode (am_by jR_unfold) 283 = .ok (.isub, 1) := by decide +kernel
theorem dR_unfold_284 : decode (am_by jR_unfold) 284 = .ok (.iconst 1, 1) := by decide +kernel
theorem dR_unfold_285 : decode (am_by jR_unfold) 285 = .ok (.isub, 1) := by decide +kernel
theorem dR_unfold_286 : decode (am_by jR_unfold) 286 = .ok (.iload_n 2, 1) := by decide +kernel
theorem dR_unfold_287 : decode (am_by jR_unfold) 287 = .ok (.iload 15, 2) := by decide +kernel
theorem dR_unfold_289 : decode (am_by jR_unfold) 289 = .ok (.iadd, 1) := by decide +kernel
theorem dR_unfold_290 : decode (am_by jR_unfold) 290 = .ok (.iload 6, 2) := by decide +kernel
theorem dR_unfold_292 : decode (am_by jR_unfold) 292 = .ok (.isub, 1) := by decide +kernel
theorem dR_unfold_293 : decode (am_by jR_unfold) 293 = .ok (.iconst 1, 1) := by decide +kernel
theorem dR_unfold_294 : decode (am_by jR_unfold) 294 = .ok (.isub, 1) := by decide +kernel
theorem dR_unfold_295 : decode (am_by jR_unfold) 295 = .ok (.iload 13, 2) := by decide +kernel
theorem dR_unfold_297 : decode (am_by jR_unfold) 297 = .ok (.aload_n 0, 1) := by decide +kernel
theorem dR_unfold_298 : decode (am_by jR_unfold) 298 = .ok (.getfield 37, 3) := by decide +kernel
theorem dR_unfold_301 : decode (am_by jR_unfold) 301 = .ok (.iload 10, 2) := by decide +kernel
theorem dR_unfold_303 : decode (am_by jR_unfold) 303 = .ok (.iaload, 1) := by decide +kernel
theorem dR_unfold_304 : decode (am_by jR_unfold) 304 = .ok (.invokevirtual 288, 3) := by decide +kernel
theorem dR_unfold_307 : decode (am_by jR_unfold) 307 = .ok (.aload_n 0, 1) := by decide +kernel
theorem dR_unfold_308 : decode (am_by jR_unfold) 308 = .ok (.iload 16, 2) := by decide +kernel
theorem dR_unfold_310 : decode (am_by jR_unfold) 310 = .ok (.iload 8, 2) := by decide +kernel
theorem dR_unfold_312 : decode (am_by jR_unfold) 312 = .ok (.iadd, 1) := by decide +kernel
theorem dR_unfold_313 : decode (am_by jR_unfold) 313 = .ok (.iconst 1, 1) := by decide +kernel
theorem dR_unfold_314 : decode (am_by jR_unfold) 314 = .ok (.isub, 1) := by decide +kernel
theorem dR_unfold_315 : decode (am_by jR_unfold) 315 = .ok (.iload 12, 2) := by decide +kernel
theorem dR_unfold_317 : decode (am_by jR_unfold) 317 = .ok (.iload 8, 2) := by decide +kernel
theorem dR_unfold_319 : decode (am_by jR_unfold) 319 = .ok (.iadd, 1) := by decide +kernel
theorem dR_unfold_320 : decode (am_by jR_unfold) 320 = .ok (.iconst 1, 1) := by decide +kernel
theorem dR_unfold_321 : decode (am_by jR_unfold) 321 = .ok (.isub, 1) := by decide +kernel
theorem dR_unfold_322 : decode (am_by jR_unfold) 322 = .ok (.iload 13, 2) := by decide +kernel
theorem dR_unfold_324 : decode (am_by jR_unfold) 324 = .ok (.aload_n 0, 1) := by decide +kernel
theorem dR_unfold_325 : decode (am_by jR_unfold) 325 = .ok (.getfield 37, 3) := by decide +kernel
theorem dR_unfold_328 : decode (am_by jR_unfold) 328 = .ok (.iload 10, 2) := by decide +kernel
theorem dR_unfold_330 : decode (am_by jR_unfold) 330 = .ok (.iaload, 1) := by decide +kernel
theorem dR_unfold_331 : decode (am_by jR_unfold) 331 = .ok (.invokevirtual 288, 3) := by decide +kernel
theorem dR_unfold_334 : decode (am_by jR_unfold) 334 = .ok (.iinc 9 1, 3) := by decide +kernel
theorem dR_unfold_337 : decode (am_by jR_unfold) 337 = .ok (.goto (-191), 3) := by decide +kernel
theorem dR_unfold_340 : decode (am_by jR_unfold) 340 = .ok (.aload_n 0, 1) := by decide +kernel
theorem dR_unfold_341 : decode (am_by jR_unfold) 341 = .ok (.getfield 19, 3) := by decide +kernel
theorem dR_unfold_344 : decode (am_by jR_unfold) 344 = .ok (.iload_n 3, 1) := by decide +kernel
theorem dR_unfold_345 : decode (am_by jR_unfold) 345 = .ok (.iaload, 1) := by decide +kernel
theorem dR_unfold_346 : decode (am_by jR_unfold) 346 = .ok (.iload 8, 2) := by decide +kernel
theorem dR_unfold_348 : decode (am_by jR_unfold) 348 = .ok (.iadd, 1) := by decide +kernel
theorem dR_unfold_349 : decode (am_by jR_unfold) 349 = .ok (.iconst 1, 1) := by decide +kernel
theorem dR_unfold_350 : decode (am_by jR_unfold) 350 = .ok (.isub, 1) := by decide +kernel
theorem dR_unfold_351 : decode (am_by jR_unfold) 351 = .ok (.bipush 60, 2) := by decide +kernel
theorem dR_unfold_353 : decode (am_by jR_unfold) 353 = .ok (.if_icmp .gt 12, 3) := by decide +kernel
theorem dR_unfold_356 : decode (am_by jR_unfold) 356 = .ok (.aload_n 0, 1) := by decide +kernel
theorem dR_unfold_357 : decode (am_by jR_unfold) 357 = .ok (.getfield 277, 3) := by decide +kernel
theorem dR_unfold_360 : decode (am_by jR_unfold) 360 = .ok (.bipush 8, 2) := by decide +kernel
theorem dR_unfold_362 : decode (am_by jR_unfold) 362 = .ok (.if_icmp .le 6, 3) := by decide +kernel
theorem dR_unfold_365 : decode (am_by jR_unfold) 365 = .ok (.bipush (-3), 2) := by decide +kernel
theorem dR_unfold_367 : decode (am_by jR_unfold) 367 = .ok (.ireturn, 1) := by decide +kernel
theorem dR_unfold_368 : decode (am_by jR_unfold) 368 = .ok (.iconst 0, 1) := by decide +kernel
theorem dR_unfold_369 : decode (am_by jR_unfold) 369 = .ok (.istore 9, 2) := by decide +kernel
theorem dR_unfold_371 : decode (am_by jR_unfold) 371 = .ok (.iload 9, 2) := by decide +kernel
theorem dR_unfold_373 : decode (am_by jR_unfold) 373 = .ok (.iload 8, 2) := by decide +kernel
theorem dR_unfold_375 : decode (am_by jR_unfold) 375 = .ok (.if_icmp .ge 84, 3) := by decide +kernel
theorem dR_unfold_378 : decode (am_by jR_unfold) 378 = .ok (.iload 4, 2) := by decide +kernel
theorem dR_unfold_380 : decode (am_by jR_unfold) 380 = .ok (.iload 6, 2) := by decide +kernel
theorem dR_unfold_382 : decode (am_by jR_unfold) 382 = .ok (.iadd, 1) := by decide +kernel
theorem dR_unfold_383 : decode (am_by jR_unfold) 383 = .ok (.iconst 1, 1) := by decide +kernel
theorem dR_unfold_384 : decode (am_by jR_unfold) 384 = .ok (.iadd, 1) := by decide +kernel
theorem dR_unfold_385 : decode (am_by jR_unfold) 385 = .ok (.iload 9, 2) := by decide +kernel
theorem dR_unfold_387 : decode (am_by jR_unfold) 387 = .ok (.iadd, 1) := by decide +kernel
theorem dR_unfold_388 : decode (am_by jR_unfold) 388 = .ok (.istore 10, 2) := by decide +kernel
theorem dR_unfold_390 : decode (am_by jR_unfold) 390 = .ok (.aload_n 0, 1) := by decide +kernel
theorem dR_unfold_391 : decode (am_by jR_unfold) 391 = .ok (.getfield 7, 3) := by decide +kernel
theorem dR_unfold_394 : decode (am_by jR_unfold) 394 = .ok (.iload 10, 2) := by decide +kernel
theorem dR_unfold_396 : decode (am_by jR_unfold) 396 = .ok (.iaload, 1) := by decide +kernel
theorem dR_unfold_397 : decode (am_by jR_unfold) 397 = .ok (.invokestatic 139, 3) := by decide +kernel
theorem dR_unfold_400 : decode (am_by jR_unfold) 400 = .ok (.istore 11, 2) := by decide +kernel
theorem dR_unfold_402 : decode (am_by jR_unfold) 402 = .ok (.aload_n 0, 1) := by decide +kernel
theorem dR_unfold_403 : decode (am_by jR_unfold) 403 = .ok (.iload_n 2, 1) := by decide +kernel
theorem dR_unfold_404 : decode (am_by jR_unfold) 404 = .ok (.iload 9, 2) := by decide +kernel
theorem dR_unfold_406 : decode (am_by jR_unfold) 406 = .ok (.iadd, 1) := by decide +kernel
theorem dR_unfold_407 : decode (am_by jR_unfold) 407 = .ok (.aload_n 0, 1) := by decide +kernel
theorem dR_unfold_408 : decode (am_by jR_unfold) 408 = .ok (.getfield 7, 3) := by decide +kernel
theorem dR_unfold_411 : decode (am_by jR_unfold) 411 = .ok (.iload 10, 2) := by decide +kernel
theorem dR_unfold_413 : decode (am_by jR_unfold) 413 = .ok (.iaload, 1) := by decide +kernel
theorem dR_unfold_414 : decode (am_by jR_unfold) 414 = .ok (.aload_n 0, 1) := by decide +kernel
theorem dR_unfold_415 : decode (am_by jR_unfold) 415 = .ok (.getfield 13, 3) := by decide +kernel
theorem dR_unfold_418 : decode (am_by jR_unfold) 418 = .ok (.iload 10, 2) := by decide +kernel
theorem dR_unfold_420 : decode (am_by jR_unfold) 420 = .ok (.iaload, 1) := by decide +kernel
theorem dR_unfold_421 : decode (am_by jR_unfold) 421 = .ok (.iload 11, 2) := by decide +kernel
theorem dR_unfold_423 : decode (am_by jR_unfold) 423 = .ok (.ifCond .eq 20, 3) := by decide +kernel
theorem dR_unfold_426 : decode (am_by jR_unfold) 426 = .ok (.iload_n 2, 1) := by decide +kernel
theorem dR_unfold_427 : decode (am_by jR_unfold) 427 = .ok (.aload_n 0, 1) := by decide +kernel
theorem dR_unfold_428 : decode (am_by jR_unfold) 428 = .ok (.getfield 16, 3) := by decide +kernel
theorem dR_unfold_431 : decode (am_by jR_unfold) 431 = .ok (.iload 10, 2) := by decide +kernel
theorem dR_unfold_433 : decode (am_by jR_unfold) 433 = .ok (.iaload, 1) := by decide +kernel
theorem dR_unfold_434 : decode (am_by jR_unfold) 434 = .ok (.iadd, 1) := by decide +kernel
theorem dR_unfold_435 : decode (am_by jR_unfold) 435 = .ok (.iload 6, 2) := by decide +kernel
theorem dR_unfold_437 : decode (am_by jR_unfold) 437 = .ok (.isub, 1) := by decide +kernel
theorem dR_unfold_438 : decode (am_by jR_unfold) 438 = .ok (.iconst 1, 1) := by decide +kernel
theorem dR_unfold_439 : decode (am_by jR_unfold) 439 = .ok (.isub, 1) := by decide +kernel
theorem dR_unfold_440 : decode (am_by jR_unfold) 440 = .ok (.goto 10, 3) := by decide +kernel
theorem dR_unfold_443 : decode (am_by jR_unfold) 443 = .ok (.aload_n 0, 1) := by decide +kernel
theorem dR_unfold_444 : decode (am_by jR_unfold) 444 = .ok (.getfield 16, 3) := by decide +kernel
theorem dR_unfold_447 : decode (am_by jR_unfold) 447 = .ok (.iload 10, 2) := by decide +kernel
theorem dR_unfold_449 : decode (am_by jR_unfold) 449 = .ok (.iaload, 1) := by decide +kernel
theorem dR_unfold_450 : decode (am_by jR_unfold) 450 = .ok (.invokevirtual 292, 3) := by decide +kernel
theorem dR_unfold_453 : decode (am_by jR_unfold) 453 = .ok (.iinc 9 1, 3) := by decide +kernel
theorem dR_unfold_456 : decode (am_by jR_unfold) 456 = .ok (.goto (-85), 3) := by decide +kernel
theorem dR_unfold_459 : decode (am_by jR_unfold) 459 = .ok (.aload_n 0, 1) := by decide +kernel
theorem dR_unfold_460 : decode (am_by jR_unfold) 460 = .ok (.iload_n 3, 1) := by decide +kernel
theorem dR_unfold_461 : decode (am_by jR_unfold) 461 = .ok (.iload_n 2, 1) := by decide +kernel
theorem dR_unfold_462 : decode (am_by jR_unfold) 462 = .ok (.iload 8, 2) := by decide +kernel
theorem dR_unfold_464 : decode (am_by jR_unfold) 464 = .ok (.invokevirtual 295, 3) := by decide +kernel
theorem dR_unfold_467 : decode (am_by jR_unfold) 467 = .ok (.ireturn, 1) := by decide +kernel
theorem dR_greatest_0 : decode (am_by jR_greatest) 0 = .ok (.aload_n 0, 1) := by decide +kernel
theorem dR_greatest_1 : decode (am_by jR_greatest) 1 = .ok (.getfield 22, 3) := by decide +kernel
theorem dR_greatest_4 : decode (am_by jR_greatest) 4 = .ok (.iload_n 1, 1) := by decide +kernel
theorem dR_greatest_5 : decode (am_by jR_greatest) 5 = .ok (.iaload, 1) := by decide +kernel
theorem dR_greatest_6 : decode (am_by jR_greatest) 6 = .ok (.iconst 1, 1) := by decide +kernel
theorem dR_greatest_7 : decode (am_by jR_greatest) 7 = .ok (.isub, 1) := by decide +kernel
theorem dR_greatest_8 : decode (am_by jR_greatest) 8 = .ok (.istore_n 3, 1) := by decide +kernel
theorem dR_greatest_9 : decode (am_by jR_greatest) 9 = .ok (.iconst 0, 1) := by decide +kernel
theorem dR_greatest_10 : decode (am_by jR_greatest) 10 = .ok (.istore 4, 2) := by decide +kernel
theorem dR_greatest_12 : decode (am_by jR_greatest) 12 = .ok (.iload 4, 2) := by decide +kernel
theorem dR_greatest_14 : decode (am_by jR_greatest) 14 = .ok (.aload_n 0, 1) := by decide +kernel
theorem dR_greatest_15 : decode (am_by jR_greatest) 15 = .ok (.getfield 19, 3) := by decide +kernel
theorem dR_greatest_18 : decode (am_by jR_greatest) 18 = .ok (.iload_n 1, 1) := by decide +kernel
theorem dR_greatest_19 : decode (am_by jR_greatest) 19 = .ok (.iaload, 1) := by decide +kernel
theorem dR_greatest_20 : decode (am_by jR_greatest) 20 = .ok (.if_icmp .ge 76, 3) := by decide +kernel
theorem dR_greatest_23 : decode (am_by jR_greatest) 23 = .ok (.aload_n 0, 1) := by decide +kernel
theorem dR_greatest_24 : decode (am_by jR_greatest) 24 = .ok (.getfield 7, 3) := by decide +kernel
theorem dR_greatest_27 : decode (am_by jR_greatest) 27 = .ok (.bipush 60, 2) := by decide +kernel
theorem dR_greatest_29 : decode (am_by jR_greatest) 29 = .ok (.iload_n 1, 1) := by decide +kernel
theorem dR_greatest_30 : decode (am_by jR_greatest) 30 = .ok (.imul, 1) := by decide +kernel
theorem dR_greatest_31 : decode (am_by jR_greatest) 31 = .ok (.iload 4, 2) := by decide +kernel
theorem dR_greatest_33 : decode (am_by jR_greatest) 33 = .ok (.iadd, 1) := by decide +kernel
theorem dR_greatest_34 : decode (am_by jR_greatest) 34 = .ok (.iaload, 1) := by decide +kernel
theorem dR_greatest_35 : decode (am_by jR_greatest) 35 = .ok (.istore 5, 2) := by decide +kernel
theorem dR_greatest_37 : decode (am_by jR_greatest) 37 = .ok (.aload_n 0, 1) := by decide +kernel
theorem dR_greatest_38 : decode (am_by jR_greatest) 38 = .ok (.getfield 13, 3) := by decide +kernel
theorem dR_greatest_41 : decode (am_by jR_greatest) 41 = .ok (.bipush 60, 2) := by decide +kernel
theorem dR_greatest_43 : decode (am_by jR_greatest) 43 = .ok (.iload_n 1, 1) := by decide +kernel
theorem dR_greatest_44 : decode (am_by jR_greatest) 44 = .ok (.imul, 1) := by decide +kernel
theorem dR_greatest_45 : decode (am_by jR_greatest) 45 = .ok (.iload 4, 2) := by decide +kernel
theorem dR_greatest_47 : decode (am_by jR_greatest) 47 = .ok (.iadd, 1) := by decide +kernel
theorem dR_greatest_48 : decode (am_by jR_greatest) 48 = .ok (.iaload, 1) := by decide +kernel
theorem dR_greatest_49 : decode (am_by jR_greatest) 49 = .ok (.istore 6, 2) := by decide +kernel
theorem dR_greatest_51 : decode (am_by jR_greatest) 51 = .ok (.iload 5, 2) := by decide +kernel
theorem dR_greatest_53 : decode (am_by jR_greatest) 53 = .ok (.iconst 2, 1) := by decide +kernel
theorem dR_greatest_54 : decode (am_by jR_greatest) 54 = .ok (.if_icmp .eq 27, 3) := by decide +kernel
theorem dR_greatest_57 : decode (am_by jR_greatest) 57 = .ok (.iload 5, 2) := by decide +kernel
theorem dR_greatest_59 : decode (am_by jR_greatest) 59 = .ok (.iconst 3, 1) := by decide +kernel
theorem dR_greatest_60 : decode (am_by jR_greatest) 60 = .ok (.if_icmp .eq 21, 3) := by decide +kernel
theorem dR_greatest_63 : decode (am_by jR_greatest) 63 = .ok (.iload 5, 2) := by decide +kernel
theorem dR_greatest_65 : decode (am_by jR_greatest) 65 = .ok (.bipush 27, 2) := by decide +kernel
theorem dR_greatest_67 : decode (am_by jR_greatest) 67 = .ok (.if_icmp .eq 14, 3) := by decide +kernel
theorem dR_greatest_70 : decode (am_by jR_greatest) 70 = .ok (.iload_n 2, 1) := by decide +kernel
theorem dR_greatest_71 : decode (am_by jR_greatest) 71 = .ok (.ifCond .eq 19, 3) := by decide +kernel
theorem dR_greatest_74 : decode (am_by jR_greatest) 74 = .ok (.iload 5, 2) := by decide +kernel
theorem dR_greatest_76 : decode (am_by jR_greatest) 76 = .ok (.bipush 24, 2) := by decide +kernel
theorem dR_greatest_78 : decode (am_by jR_greatest) 78 = .ok (.if_icmp .ne 12, 3) := by decide +kernel
theorem dR_greatest_81 : decode (am_by jR_greatest) 81 = .ok (.iload 6, 2) := by decide +kernel
theorem dR_greatest_83 : decode (am_by jR_greatest) 83 = .ok (.iload_n 3, 1) := by decide +kernel
theorem dR_greatest_84 : decode (am_by jR_greatest) 84 = .ok (.if_icmp .le 6, 3) := by decide +kernel
