theorem dR_raise_71 : decode (am_by jR_raise) 71 = .ok (.iaload, 1) := by decide +kernel
theorem dR_raise_72 : decode (am_by jR_raise) 72 = .ok (.if_icmp .lt 85, 3) := by decide +kernel
theorem dR_raise_75 : decode (am_by jR_raise) 75 = .ok (.aload_n 0, 1) := by decide +kernel
theorem dR_raise_76 : decode (am_by jR_raise) 76 = .ok (.getfield 77, 3) := by decide +kernel
theorem dR_raise_79 : decode (am_by jR_raise) 79 = .ok (.iload_n 3, 1) := by decide +kernel
theorem dR_raise_80 : decode (am_by jR_raise) 80 = .ok (.iaload, 1) := by decide +kernel
theorem dR_raise_81 : decode (am_by jR_raise) 81 = .ok (.aload_n 0, 1) := by decide +kernel
theorem dR_raise_82 : decode (am_by jR_raise) 82 = .ok (.getfield 31, 3) := by decide +kernel
theorem dR_raise_85 : decode (am_by jR_raise) 85 = .ok (.iload 7, 2) := by decide +kernel
theorem dR_raise_87 : decode (am_by jR_raise) 87 = .ok (.iaload, 1) := by decide +kernel
theorem dR_raise_88 : decode (am_by jR_raise) 88 = .ok (.if_icmp .ge 69, 3) := by decide +kernel
theorem dR_raise_91 : decode (am_by jR_raise) 91 = .ok (.iload 5, 2) := by decide +kernel
theorem dR_raise_93 : decode (am_by jR_raise) 93 = .ok (.aload_n 0, 1) := by decide +kernel
theorem dR_raise_94 : decode (am_by jR_raise) 94 = .ok (.getfield 37, 3) := by decide +kernel
theorem dR_raise_97 : decode (am_by jR_raise) 97 = .ok (.iload 7, 2) := by decide +kernel
theorem dR_raise_99 : decode (am_by jR_raise) 99 = .ok (.iaload, 1) := by decide +kernel
theorem dR_raise_100 : decode (am_by jR_raise) 100 = .ok (.invokestatic 212, 3) := by decide +kernel
theorem dR_raise_103 : decode (am_by jR_raise) 103 = .ok (.ifCond .ne 6, 3) := by decide +kernel
theorem dR_raise_106 : decode (am_by jR_raise) 106 = .ok (.goto 51, 3) := by decide +kernel
theorem dR_raise_109 : decode (am_by jR_raise) 109 = .ok (.aload_n 0, 1) := by decide +kernel
theorem dR_raise_110 : decode (am_by jR_raise) 110 = .ok (.dup, 1) := by decide +kernel
theorem dR_raise_111 : decode (am_by jR_raise) 111 = .ok (.getfield 216, 3) := by decide +kernel
theorem dR_raise_114 : decode (am_by jR_raise) 114 = .ok (.iconst 1, 1) := by decide +kernel
theorem dR_raise_115 : decode (am_by jR_raise) 115 = .ok (.iadd, 1) := by decide +kernel
theorem dR_raise_116 : decode (am_by jR_raise) 116 = .ok (.putfield 216, 3) := by decide +kernel
theorem dR_raise_119 : decode (am_by jR_raise) 119 = .ok (.aload_n 0, 1) := by decide +kernel
theorem dR_raise_120 : decode (am_by jR_raise) 120 = .ok (.iload 5, 2) := by decide +kernel
theorem dR_raise_122 : decode (am_by jR_raise) 122 = .ok (.iconst 5, 1) := by decide +kernel
theorem dR_raise_123 : decode (am_by jR_raise) 123 = .ok (.invokevirtual 197, 3) := by decide +kernel
theorem dR_raise_126 : decode (am_by jR_raise) 126 = .ok (.aload_n 0, 1) := by decide +kernel
theorem dR_raise_127 : decode (am_by jR_raise) 127 = .ok (.getfield 80, 3) := by decide +kernel
theorem dR_raise_130 : decode (am_by jR_raise) 130 = .ok (.iload_n 3, 1) := by decide +kernel
theorem dR_raise_131 : decode (am_by jR_raise) 131 = .ok (.iconst 1, 1) := by decide +kernel
theorem dR_raise_132 : decode (am_by jR_raise) 132 = .ok (.iastore, 1) := by decide +kernel
theorem dR_raise_133 : decode (am_by jR_raise) 133 = .ok (.aload_n 0, 1) := by decide +kernel
theorem dR_raise_134 : decode (am_by jR_raise) 134 = .ok (.getfield 86, 3) := by decide +kernel
theorem dR_raise_137 : decode (am_by jR_raise) 137 = .ok (.bipush 8, 2) := by decide +kernel
theorem dR_raise_139 : decode (am_by jR_raise) 139 = .ok (.iload_n 3, 1) := by decide +kernel
theorem dR_raise_140 : decode (am_by jR_raise) 140 = .ok (.imul, 1) := by decide +kernel
theorem dR_raise_141 : decode (am_by jR_raise) 141 = .ok (.iload_n 2, 1) := by decide +kernel
theorem dR_raise_142 : decode (am_by jR_raise) 142 = .ok (.iastore, 1) := by decide +kernel
theorem dR_raise_143 : decode (am_by jR_raise) 143 = .ok (.aload_n 0, 1) := by decide +kernel
theorem dR_raise_144 : decode (am_by jR_raise) 144 = .ok (.getfield 77, 3) := by decide +kernel
theorem dR_raise_147 : decode (am_by jR_raise) 147 = .ok (.iload_n 3, 1) := by decide +kernel
theorem dR_raise_148 : decode (am_by jR_raise) 148 = .ok (.aload_n 0, 1) := by decide +kernel
theorem dR_raise_149 : decode (am_by jR_raise) 149 = .ok (.getfield 34, 3) := by decide +kernel
theorem dR_raise_152 : decode (am_by jR_raise) 152 = .ok (.iload 7, 2) := by decide +kernel
theorem dR_raise_154 : decode (am_by jR_raise) 154 = .ok (.iaload, 1) := by decide +kernel
theorem dR_raise_155 : decode (am_by jR_raise) 155 = .ok (.iastore, 1) := by decide +kernel
theorem dR_raise_156 : decode (am_by jR_raise) 156 = .ok (.return_, 1) := by decide +kernel
theorem dR_raise_157 : decode (am_by jR_raise) 157 = .ok (.iinc 6 1, 3) := by decide +kernel
theorem dR_raise_160 : decode (am_by jR_raise) 160 = .ok (.goto (-123), 3) := by decide +kernel
theorem dR_raise_163 : decode (am_by jR_raise) 163 = .ok (.aload_n 0, 1) := by decide +kernel
theorem dR_raise_164 : decode (am_by jR_raise) 164 = .ok (.iload_n 2, 1) := by decide +kernel
theorem dR_raise_165 : decode (am_by jR_raise) 165 = .ok (.invokevirtual 219, 3) := by decide +kernel
theorem dR_raise_168 : decode (am_by jR_raise) 168 = .ok (.istore_n 2, 1) := by decide +kernel
theorem dR_raise_169 : decode (am_by jR_raise) 169 = .ok (.goto (-167), 3) := by decide +kernel
theorem dR_raise_172 : decode (am_by jR_raise) 172 = .ok (.aload_n 0, 1) := by decide +kernel
theorem dR_raise_173 : decode (am_by jR_raise) 173 = .ok (.iconst 1, 1) := by decide +kernel
theorem dR_raise_174 : decode (am_by jR_raise) 174 = .ok (.putfield 222, 3) := by decide +kernel
theorem dR_raise_177 : decode (am_by jR_raise) 177 = .ok (.aload_n 0, 1) := by decide +kernel
theorem dR_raise_178 : decode (am_by jR_raise) 178 = .ok (.bipush 16, 2) := by decide +kernel
theorem dR_raise_180 : decode (am_by jR_raise) 180 = .ok (.aload_n 0, 1) := by decide +kernel
theorem dR_raise_181 : decode (am_by jR_raise) 181 = .ok (.getfield 65, 3) := by decide +kernel
theorem dR_raise_184 : decode (am_by jR_raise) 184 = .ok (.iload_n 2, 1) := by decide +kernel
theorem dR_raise_185 : decode (am_by jR_raise) 185 = .ok (.iconst 1, 1) := by decide +kernel
theorem dR_raise_186 : decode (am_by jR_raise) 186 = .ok (.isub, 1) := by decide +kernel
theorem dR_raise_187 : decode (am_by jR_raise) 187 = .ok (.iaload, 1) := by decide +kernel
theorem dR_raise_188 : decode (am_by jR_raise) 188 = .ok (.iadd, 1) := by decide +kernel
theorem dR_raise_189 : decode (am_by jR_raise) 189 = .ok (.putfield 225, 3) := by decide +kernel
theorem dR_raise_192 : decode (am_by jR_raise) 192 = .ok (.return_, 1) := by decide +kernel
theorem dR_machine_0 : decode (am_by jR_machine) 0 = .ok (.aload_n 0, 1) := by decide +kernel
theorem dR_machine_1 : decode (am_by jR_machine) 1 = .ok (.iload_n 1, 1) := by decide +kernel
theorem dR_machine_2 : decode (am_by jR_machine) 2 = .ok (.invokevirtual 209, 3) := by decide +kernel
theorem dR_machine_5 : decode (am_by jR_machine) 5 = .ok (.istore_n 2, 1) := by decide +kernel
theorem dR_machine_6 : decode (am_by jR_machine) 6 = .ok (.aload_n 0, 1) := by decide +kernel
theorem dR_machine_7 : decode (am_by jR_machine) 7 = .ok (.iload_n 1, 1) := by decide +kernel
theorem dR_machine_8 : decode (am_by jR_machine) 8 = .ok (.iconst 4, 1) := by decide +kernel
theorem dR_machine_9 : decode (am_by jR_machine) 9 = .ok (.invokevirtual 197, 3) := by decide +kernel
theorem dR_machine_12 : decode (am_by jR_machine) 12 = .ok (.aload_n 0, 1) := by decide +kernel
theorem dR_machine_13 : decode (am_by jR_machine) 13 = .ok (.iload_n 2, 1) := by decide +kernel
theorem dR_machine_14 : decode (am_by jR_machine) 14 = .ok (.invokevirtual 228, 3) := by decide +kernel
theorem dR_machine_17 : decode (am_by jR_machine) 17 = .ok (.return_, 1) := by decide +kernel
theorem dR_pop_0 : decode (am_by jR_pop) 0 = .ok (.aload_n 0, 1) := by decide +kernel
theorem dR_pop_1 : decode (am_by jR_pop) 1 = .ok (.getfield 200, 3) := by decide +kernel
theorem dR_pop_4 : decode (am_by jR_pop) 4 = .ok (.iconst 1, 1) := by decide +kernel
theorem dR_pop_5 : decode (am_by jR_pop) 5 = .ok (.isub, 1) := by decide +kernel
theorem dR_pop_6 : decode (am_by jR_pop) 6 = .ok (.istore_n 1, 1) := by decide +kernel
theorem dR_pop_7 : decode (am_by jR_pop) 7 = .ok (.aload_n 0, 1) := by decide +kernel
theorem dR_pop_8 : decode (am_by jR_pop) 8 = .ok (.getfield 80, 3) := by decide +kernel
theorem dR_pop_11 : decode (am_by jR_pop) 11 = .ok (.iload_n 1, 1) := by decide +kernel
theorem dR_pop_12 : decode (am_by jR_pop) 12 = .ok (.dup2, 1) := by decide +kernel
theorem dR_pop_13 : decode (am_by jR_pop) 13 = .ok (.iaload, 1) := by decide +kernel
theorem dR_pop_14 : decode (am_by jR_pop) 14 = .ok (.iconst 1, 1) := by decide +kernel
theorem dR_pop_15 : decode (am_by jR_pop) 15 = .ok (.isub, 1) := by decide +kernel
theorem dR_pop_16 : decode (am_by jR_pop) 16 = .ok (.iastore, 1) := by decide +kernel
theorem dR_pop_17 : decode (am_by jR_pop) 17 = .ok (.aload_n 0, 1) := by decide +kernel
theorem dR_pop_18 : decode (am_by jR_pop) 18 = .ok (.getfield 86, 3) := by decide +kernel
theorem dR_pop_21 : decode (am_by jR_pop) 21 = .ok (.bipush 8, 2) := by decide +kernel
theorem dR_pop_23 : decode (am_by jR_pop) 23 = .ok (.iload_n 1, 1) := by decide +kernel
theorem dR_pop_24 : decode (am_by jR_pop) 24 = .ok (.imul, 1) := by decide +kernel
theorem dR_pop_25 : decode (am_by jR_pop) 25 = .ok (.aload_n 0, 1) := by decide +kernel
theorem dR_pop_26 : decode (am_by jR_pop) 26 = .ok (.getfield 80, 3) := by decide +kernel
theorem dR_pop_29 : decode (am_by jR_pop) 29 = .ok (.iload_n 1, 1) := by decide +kernel
theorem dR_pop_30 : decode (am_by jR_pop) 30 = .ok (.iaload, 1) := by decide +kernel
theorem dR_pop_31 : decode (am_by jR_pop) 31 = .ok (.iadd, 1) := by decide +kernel
theorem dR_pop_32 : decode (am_by jR_pop) 32 = .ok (.iaload, 1) := by decide +kernel
theorem dR_pop_33 : decode (am_by jR_pop) 33 = .ok (.ireturn, 1) := by decide +kernel
theorem dR_give_0 : decode (am_by jR_give) 0 = .ok (.aload_n 0, 1) := by decide +kernel
theorem dR_give_1 : decode (am_by jR_give) 1 = .ok (.getfield 200, 3) := by decide +kernel
theorem dR_give_4 : decode (am_by jR_give) 4 = .ok (.iconst 1, 1) := by decide +kernel
theorem dR_give_5 : decode (am_by jR_give) 5 = .ok (.isub, 1) := by decide +kernel
theorem dR_give_6 : decode (am_by jR_give) 6 = .ok (.istore_n 2, 1) := by decide +kernel
theorem dR_give_7 : decode (am_by jR_give) 7 = .ok (.aload_n 0, 1) := by decide +kernel
theorem dR_give_8 : decode (am_by jR_give) 8 = .ok (.getfield 86, 3) := by decide +kernel
theorem dR_give_11 : decode (am_by jR_give) 11 = .ok (.bipush 8, 2) := by decide +kernel
theorem dR_give_13 : decode (am_by jR_give) 13 = .ok (.iload_n 2, 1) := by decide +kernel
theorem dR_give_14 : decode (am_by jR_give) 14 = .ok (.imul, 1) := by decide +kernel
theorem dR_give_15 : decode (am_by jR_give) 15 = .ok (.aload_n 0, 1) := by decide +kernel
theorem dR_give_16 : decode (am_by jR_give) 16 = .ok (.getfield 80, 3) := by decide +kernel
theorem dR_give_19 : decode (am_by jR_give) 19 = .ok (.iload_n 2, 1) := by decide +kernel
theorem dR_give_20 : decode (am_by jR_give) 20 = .ok (.iaload, 1) := by decide +kernel
theorem dR_give_21 : decode (am_by jR_give) 21 = .ok (.iadd, 1) := by decide +kernel
theorem dR_give_22 : decode (am_by jR_give) 22 = .ok (.iload_n 1, 1) := by decide +kernel
theorem dR_give_23 : decode (am_by jR_give) 23 = .ok (.iastore, 1) := by decide +kernel
theorem dR_give_24 : decode (am_by jR_give) 24 = .ok (.aload_n 0, 1) := by decide +kernel
theorem dR_give_25 : decode (am_by jR_give) 25 = .ok (.getfield 80, 3) := by decide +kernel
theorem dR_give_28 : decode (am_by jR_give) 28 = .ok (.iload_n 2, 1) := by decide +kernel
theorem dR_give_29 : decode (am_by jR_give) 29 = .ok (.dup2, 1) := by decide +kernel
theorem dR_give_30 : decode (am_by jR_give) 30 = .ok (.iaload, 1) := by decide +kernel
theorem dR_give_31 : decode (am_by jR_give) 31 = .ok (.iconst 1, 1) := by decide +kernel
theorem dR_give_32 : decode (am_by jR_give) 32 = .ok (.iadd, 1) := by decide +kernel
theorem dR_give_33 : decode (am_by jR_give) 33 = .ok (.iastore, 1) := by decide +kernel
theorem dR_give_34 : decode (am_by jR_give) 34 = .ok (.return_, 1) := by decide +kernel
theorem dR_call_0 : decode (am_by jR_call) 0 = .ok (.aload_n 0, 1) := by decide +kernel
theorem dR_call_1 : decode (am_by jR_call) 1 = .ok (.getfield 200, 3) := by decide +kernel
theorem dR_call_4 : decode (am_by jR_call) 4 = .ok (.bipush 12, 2) := by decide +kernel
theorem dR_call_6 : decode (am_by jR_call) 6 = .ok (.if_icmp .ne 9, 3) := by decide +kernel
theorem dR_call_9 : decode (am_by jR_call) 9 = .ok (.aload_n 0, 1) := by decide +kernel
theorem dR_call_10 : decode (am_by jR_call) 10 = .ok (.iconst 4, 1) := by decide +kernel
theorem dR_call_11 : decode (am_by jR_call) 11 = .ok (.invokevirtual 231, 3) := by decide +kernel
theorem dR_call_14 : decode (am_by jR_call) 14 = .ok (.return_, 1) := by decide +kernel
theorem dR_call_15 : decode (am_by jR_call) 15 = .ok (.aload_n 0, 1) := by decide +kernel
theorem dR_call_16 : decode (am_by jR_call) 16 = .ok (.getfield 22, 3) := by decide +kernel
theorem dR_call_19 : decode (am_by jR_call) 19 = .ok (.iload_n 1, 1) := by decide +kernel
theorem dR_call_20 : decode (am_by jR_call) 20 = .ok (.iaload, 1) := by decide +kernel
theorem dR_call_21 : decode (am_by jR_call) 21 = .ok (.istore_n 2, 1) := by decide +kernel
theorem dR_call_22 : decode (am_by jR_call) 22 = .ok (.iload_n 2, 1) := by decide +kernel
theorem dR_call_23 : decode (am_by jR_call) 23 = .ok (.iconst 1, 1) := by decide +kernel
theorem dR_call_24 : decode (am_by jR_call) 24 = .ok (.isub, 1) := by decide +kernel
theorem dR_call_25 : decode (am_by jR_call) 25 = .ok (.istore_n 3, 1) := by decide +kernel
theorem dR_call_26 : decode (am_by jR_call) 26 = .ok (.iload_n 3, 1) := by decide +kernel
theorem dR_call_27 : decode (am_by jR_call) 27 = .ok (.ifCond .lt 31, 3) := by decide +kernel
theorem dR_call_30 : decode (am_by jR_call) 30 = .ok (.aload_n 0, 1) := by decide +kernel
theorem dR_call_31 : decode (am_by jR_call) 31 = .ok (.invokevirtual 234, 3) := by decide +kernel
theorem dR_call_34 : decode (am_by jR_call) 34 = .ok (.istore 4, 2) := by decide +kernel
theorem dR_call_36 : decode (am_by jR_call) 36 = .ok (.aload_n 0, 1) := by decide +kernel
theorem dR_call_37 : decode (am_by jR_call) 37 = .ok (.getfield 89, 3) := by decide +kernel
theorem dR_call_40 : decode (am_by jR_call) 40 = .ok (.bipush 8, 2) := by decide +kernel
theorem dR_call_42 : decode (am_by jR_call) 42 = .ok (.aload_n 0, 1) := by decide +kernel
theorem dR_call_43 : decode (am_by jR_call) 43 = .ok (.getfield 200, 3) := by decide +kernel
theorem dR_call_46 : decode (am_by jR_call) 46 = .ok (.imul, 1) := by decide +kernel
theorem dR_call_47 : decode (am_by jR_call) 47 = .ok (.iload_n 3, 1) := by decide +kernel
theorem dR_call_48 : decode (am_by jR_call) 48 = .ok (.iadd, 1) := by decide +kernel
theorem dR_call_49 : decode (am_by jR_call) 49 = .ok (.iload 4, 2) := by decide +kernel
theorem dR_call_51 : decode (am_by jR_call) 51 = .ok (.iastore, 1) := by decide +kernel
theorem dR_call_52 : decode (am_by jR_call) 52 = .ok (.iinc 3 (-1), 3) := by decide +kernel
theorem dR_call_55 : decode (am_by jR_call) 55 = .ok (.goto (-29), 3) := by decide +kernel
theorem dR_call_58 : decode (am_by jR_call) 58 = .ok (.aload_n 0, 1) := by decide +kernel
theorem dR_call_59 : decode (am_by jR_call) 59 = .ok (.iload_n 1, 1) := by decide +kernel
theorem dR_call_60 : decode (am_by jR_call) 60 = .ok (.invokevirtual 238, 3) := by decide +kernel
theorem dR_call_63 : decode (am_by jR_call) 63 = .ok (.return_, 1) := by decide +kernel
theorem dR_back_0 : decode (am_by jR_back) 0 = .ok (.aload_n 0, 1) := by decide +kernel
theorem dR_back_1 : decode (am_by jR_back) 1 = .ok (.iconst 0, 1) := by decide +kernel
theorem dR_back_2 : decode (am_by jR_back) 2 = .ok (.invokevirtual 219, 3) := by decide +kernel
theorem dR_back_5 : decode (am_by jR_back) 5 = .ok (.istore_n 2, 1) := by decide +kernel
theorem dR_back_6 : decode (am_by jR_back) 6 = .ok (.iload_n 2, 1) := by decide +kernel
theorem dR_back_7 : decode (am_by jR_back) 7 = .ok (.ifCond .le 9, 3) := by decide +kernel
theorem dR_back_10 : decode (am_by jR_back) 10 = .ok (.aload_n 0, 1) := by decide +kernel
theorem dR_back_11 : decode (am_by jR_back) 11 = .ok (.iload_n 2, 1) := by decide +kernel
theorem dR_back_12 : decode (am_by jR_back) 12 = .ok (.invokevirtual 228, 3) := by decide +kernel
theorem dR_back_15 : decode (am_by jR_back) 15 = .ok (.return_, 1) := by decide +kernel
theorem dR_back_16 : decode (am_by jR_back) 16 = .ok (.aload_n 0, 1) := by decide +kernel
theorem dR_back_17 : decode (am_by jR_back) 17 = .ok (.getfield 200, 3) := by decide +kernel
theorem dR_back_20 : decode (am_by jR_back) 20 = .ok (.ifCond .ne 19, 3) := by decide +kernel
theorem dR_back_23 : decode (am_by jR_back) 23 = .ok (.aload_n 0, 1) := by decide +kernel
theorem dR_back_24 : decode (am_by jR_back) 24 = .ok (.iconst 1, 1) := by decide +kernel
theorem dR_back_25 : decode (am_by jR_back) 25 = .ok (.putfield 222, 3) := by decide +kernel
theorem dR_back_28 : decode (am_by jR_back) 28 = .ok (.aload_n 0, 1) := by decide +kernel
theorem dR_back_29 : decode (am_by jR_back) 29 = .ok (.iconst 0, 1) := by decide +kernel
theorem dR_back_30 : decode (am_by jR_back) 30 = .ok (.putfield 225, 3) := by decide +kernel
theorem dR_back_33 : decode (am_by jR_back) 33 = .ok (.aload_n 0, 1) := by decide +kernel
theorem dR_back_34 : decode (am_by jR_back) 34 = .ok (.iload_n 1, 1) := by decide +kernel
theorem dR_back_35 : decode (am_by jR_back) 35 = .ok (.putfield 241, 3) := by decide +kernel
theorem dR_back_38 : decode (am_by jR_back) 38 = .ok (.return_, 1) := by decide +kernel
theorem dR_back_39 : decode (am_by jR_back) 39 = .ok (.aload_n 0, 1) := by decide +kernel
theorem dR_back_40 : decode (am_by jR_back) 40 = .ok (.iload_n 1, 1) := by decide +kernel
theorem dR_back_41 : decode (am_by jR_back) 41 = .ok (.invokevirtual 244, 3) := by decide +kernel
theorem dR_back_44 : decode (am_by jR_back) 44 = .ok (.aload_n 0, 1) := by decide +kernel
theorem dR_back_45 : decode (am_by jR_back) 45 = .ok (.getfield 77, 3) := by decide +kernel
theorem dR_back_48 : decode (am_by jR_back) 48 = .ok (.aload_n 0, 1) := by decide +kernel
theorem dR_back_49 : decode (am_by jR_back) 49 = .ok (.getfield 200, 3) := by decide +kernel
theorem dR_back_52 : decode (am_by jR_back) 52 = .ok (.iconst 1, 1) := by decide +kernel
theorem dR_back_53 : decode (am_by jR_back) 53 = .ok (.isub, 1) := by decide +kernel
theorem dR_back_54 : decode (am_by jR_back) 54 = .ok (.dup2, 1) := by decide +kernel
theorem dR_back_55 : decode (am_by jR_back) 55 = .ok (.iaload, 1) := by decide +kernel
theorem dR_back_56 : decode (am_by jR_back) 56 = .ok (.iconst 1, 1) := by decide +kernel
theorem dR_back_57 : decode (am_by jR_back) 57 = .ok (.iadd, 1) := by decide +kernel
theorem dR_back_58 : decode (am_by jR_back) 58 = .ok (.iastore, 1) := by decide +kernel
theorem dR_back_59 : decode (am_by jR_back) 59 = .ok (.return_, 1) := by decide +kernel
theorem dR_release_0 : decode (am_by jR_release) 0 = .ok (.aload_n 0, 1) := by decide +kernel
theorem dR_release_1 : decode (am_by jR_release) 1 = .ok (.getfield 203, 3) := by decide +kernel
theorem dR_release_4 : decode (am_by jR_release) 4 = .ok (.iconst 1, 1) := by decide +kernel
theorem dR_release_5 : decode (am_by jR_release) 5 = .ok (.isub, 1) := by decide +kernel
theorem dR_release_6 : decode (am_by jR_release) 6 = .ok (.istore_n 2, 1) := by decide +kernel
theorem dR_release_7 : decode (am_by jR_release) 7 = .ok (.iload_n 2, 1) := by decide +kernel
theorem dR_release_8 : decode (am_by jR_release) 8 = .ok (.aload_n 0, 1) := by decide +kernel
theorem dR_release_9 : decode (am_by jR_release) 9 = .ok (.getfield 83, 3) := by decide +kernel
theorem dR_release_12 : decode (am_by jR_release) 12 = .ok (.aload_n 0, 1) := by decide +kernel
theorem dR_release_13 : decode (am_by jR_release) 13 = .ok (.getfield 200, 3) := by decide +kernel
theorem dR_release_16 : decode (am_by jR_release) 16 = .ok (.iconst 1, 1) := by decide +kernel
theorem dR_release_17 : decode (am_by jR_release) 17 = .ok (.isub, 1) := by decide +kernel
theorem dR_release_18 : decode (am_by jR_release) 18 = .ok (.iaload, 1) := by decide +kernel
theorem dR_release_19 : decode (am_by jR_release) 19 = .ok (.if_icmp .lt 19, 3) := by decide +kernel
theorem dR_release_22 : decode (am_by jR_release) 22 = .ok (.aload_n 0, 1) := by decide +kernel
theorem dR_release_23 : decode (am_by jR_release) 23 = .ok (.getfield 71, 3) := by decide +kernel
theorem dR_release_26 : decode (am_by jR_release) 26 = .ok (.iload_n 2, 1) := by decide +kernel
theorem dR_release_27 : decode (am_by jR_release) 27 = .ok (.iaload, 1) := by decide +kernel
theorem dR_release_28 : decode (am_by jR_release) 28 = .ok (.iload_n 1, 1) := by decide +kernel
theorem dR_release_29 : decode (am_by jR_release) 29 = .ok (.if_icmp .eq 9, 3) := by decide +kernel
theorem dR_release_32 : decode (am_by jR_release) 32 = .ok (.iinc 2 (-1), 3) := by decide +kernel
theorem dR_release_35 : decode (am_by jR_release) 35 = .ok (.goto (-28), 3) := by decide +kernel
theorem dR_release_38 : decode (am_by jR_release) 38 = .ok (.iload_n 2, 1) := by decide +kernel
theorem dR_release_39 : decode (am_by jR_release) 39 = .ok (.aload_n 0, 1) := by decide +kernel
theorem dR_release_40 : decode (am_by jR_release) 40 = .ok (.getfield 83, 3) := by decide +kernel
theorem dR_release_43 : decode (am_by jR_release) 43 = .ok (.aload_n 0, 1) := by decide +kernel
theorem dR_release_44 : decode (am_by jR_release) 44 = .ok (.getfield 200, 3) := by decide +kernel
theorem dR_release_47 : decode (am_by jR_release) 47 = .ok (.iconst 1, 1) := by decide +kernel
theorem dR_release_48 : decode (am_by jR_release) 48 = .ok (.isub, 1) := by decide +kernel
theorem dR_release_49 : decode (am_by jR_release) 49 = .ok (.iaload, 1) := by decide +kernel
theorem dR_release_50 : decode (am_by jR_release) 50 = .ok (.if_icmp .ge 9, 3) := by decide +kernel
theorem dR_release_53 : decode (am_by jR_release) 53 = .ok (.aload_n 0, 1) := by decide +kernel
theorem dR_release_54 : decode (am_by jR_release) 54 = .ok (.iconst 3, 1) := by decide +kernel
theorem dR_release_55 : decode (am_by jR_release) 55 = .ok (.invokevirtual 231, 3) := by decide +kernel
theorem dR_release_58 : decode (am_by jR_release) 58 = .ok (.return_, 1) := by decide +kernel
theorem dR_release_59 : decode (am_by jR_release) 59 = .ok (.aload_n 0, 1) := by decide +kernel
theorem dR_release_60 : decode (am_by jR_release) 60 = .ok (.dup, 1) := by decide +kernel
theorem dR_release_61 : decode (am_by jR_release) 61 = .ok (.getfield 203, 3) := by decide +kernel
theorem dR_release_64 : decode (am_by jR_release) 64 = .ok (.iconst 1, 1) := by decide +kernel
theorem dR_release_65 : decode (am_by jR_release) 65 = .ok (.isub, 1) := by decide +kernel
theorem dR_release_66 : decode (am_by jR_release) 66 = .ok (.putfield 203, 3) := by decide +kernel
theorem dR_release_69 : decode (am_by jR_release) 69 = .ok (.iload_n 2, 1) := by decide +kernel
theorem dR_release_70 : decode (am_by jR_release) 70 = .ok (.istore_n 3, 1) := by decide +kernel
theorem dR_release_71 : decode (am_by jR_release) 71 = .ok (.iload_n 3, 1) := by decide +kernel
theorem dR_release_72 : decode (am_by jR_release) 72 = .ok (.aload_n 0, 1) := by decide +kernel
theorem dR_release_73 : decode (am_by jR_release) 73 = .ok (.getfield 203, 3) := by decide +kernel
theorem dR_release_76 : decode (am_by jR_release) 76 = .ok (.if_icmp .ge 23, 3) := by decide +kernel
theorem dR_release_79 : decode (am_by jR_release) 79 = .ok (.aload_n 0, 1) := by decide +kernel
theorem dR_release_80 : decode (am_by jR_release) 80 = .ok (.getfield 71, 3) := by decide +kernel
theorem dR_release_83 : decode (am_by jR_release) 83 = .ok (.iload_n 3, 1) := by decide +kernel
theorem dR_release_84 : decode (am_by jR_release) 84 = .ok (.aload_n 0, 1) := by decide +kernel
theorem dR_release_85 : decode (am_by jR_release) 85 = .ok (.getfield 71, 3) := by decide +kernel
theorem dR_release_88 : decode (am_by jR_release) 88 = .ok (.iload_n 3, 1) := by decide +kernel
theorem dR_release_89 : decode (am_by jR_release) 89 = .ok (.iconst 1, 1) := by decide +kernel
theorem dR_release_90 : decode (am_by jR_release) 90 = .ok (.iadd, 1) := by decide +kernel
theorem dR_release_91 : decode (am_by jR_release) 91 = .ok (.iaload, 1) := by decide +kernel
theorem dR_release_92 : decode (am_by jR_release) 92 = .ok (.iastore, 1) := by decide +kernel
theorem dR_release_93 : decode (am_by jR_release) 93 = .ok (.iinc 3 1, 3) := by decide +kernel
theorem dR_release_96 : decode (am_by jR_release) 96 = .ok (.goto (-25), 3) := by decide +kernel
theorem dR_release_99 : decode (am_by jR_release) 99 = .ok (.aload_n 0, 1) := by decide +kernel
theorem dR_release_100 : decode (am_by jR_release) 100 = .ok (.iload_n 1, 1) := by decide +kernel
theorem dR_release_101 : decode (am_by jR_release) 101 = .ok (.iconst 3, 1) := by decide +kernel
theorem dR_release_102 : decode (am_by jR_release) 102 = .ok (.invokevirtual 197, 3) := by decide +kernel
theorem dR_release_105 : decode (am_by jR_release) 105 = .ok (.aload_n 0, 1) := by decide +kernel
theorem dR_release_106 : decode (am_by jR_release) 106 = .ok (.getfield 77, 3) := by decide +kernel
theorem dR_release_109 : decode (am_by jR_release) 109 = .ok (.aload_n 0, 1) := by decide +kernel
theorem dR_release_110 : decode (am_by jR_release) 110 = .ok (.getfield 200, 3) := by decide +kernel
theorem dR_release_113 : decode (am_by jR_release) 113 = .ok (.iconst 1, 1) := by decide +kernel
theorem dR_release_114 : decode (am_by jR_release) 114 = .ok (.isub, 1) := by decide +kernel
theorem dR_release_115 : decode (am_by jR_release) 115 = .ok (.dup2, 1) := by decide +kernel
theorem dR_release_116 : decode (am_by jR_release) 116 = .ok (.iaload, 1) := by decide +kernel
theorem dR_release_117 : decode (am_by jR_release) 117 = .ok (.iconst 1, 1) := by decide +kernel
theorem dR_release_118 : decode (am_by jR_release) 118 = .ok (.iadd, 1) := by decide +kernel
theorem dR_release_119 : decode (am_by jR_release) 119 = .ok (.iastore, 1) := by decide +kernel
theorem dR_release_120 : decode (am_by jR_release) 120 = .ok (.return_, 1) := by decide +kernel
theorem dR_sum_0 : decode (am_by jR_sum) 0 = .ok (.iload_n 1, 1) := by decide +kernel
theorem dR_sum_1 : decode (am_by jR_sum) 1 = .ok (.bipush 10, 2) := by decide +kernel
theorem dR_sum_3 : decode (am_by jR_sum) 3 = .ok (.if_icmp .ne 13, 3) := by decide +kernel
theorem dR_sum_6 : decode (am_by jR_sum) 6 = .ok (.iload_n 3, 1) := by decide +kernel
theorem dR_sum_7 : decode (am_by jR_sum) 7 = .ok (.ifCond .ne 9, 3) := by decide +kernel
theorem dR_sum_10 : decode (am_by jR_sum) 10 = .ok (.aload_n 0, 1) := by decide +kernel
theorem dR_sum_11 : decode (am_by jR_sum) 11 = .ok (.iconst 1, 1) := by decide +kernel
theorem dR_sum_12 : decode (am_by jR_sum) 12 = .ok (.invokevirtual 231, 3) := by decide +kernel
theorem dR_sum_15 : decode (am_by jR_sum) 15 = .ok (.return_, 1) := by decide +kernel
theorem dR_sum_16 : decode (am_by jR_sum) 16 = .ok (.aload_n 0, 1) := by decide +kernel
theorem dR_sum_17 : decode (am_by jR_sum) 17 = .ok (.iload_n 1, 1) := by decide +kernel
theorem dR_sum_18 : decode (am_by jR_sum) 18 = .ok (.bipush 7, 2) := by decide +kernel
theorem dR_sum_20 : decode (am_by jR_sum) 20 = .ok (.if_icmp .ne 9, 3) := by decide +kernel
theorem dR_sum_23 : decode (am_by jR_sum) 23 = .ok (.iload_n 2, 1) := by decide +kernel
theorem dR_sum_24 : decode (am_by jR_sum) 24 = .ok (.iload_n 3, 1) := by decide +kernel
theorem dR_sum_25 : decode (am_by jR_sum) 25 = .ok (.iadd, 1) := by decide +kernel
theorem dR_sum_26 : decode (am_by jR_sum) 26 = .ok (.goto 30, 3) := by decide +kernel
theorem dR_sum_29 : decode (am_by jR_sum) 29 = .ok (.iload_n 1, 1) := by decide +kernel
theorem dR_sum_30 : decode (am_by jR_sum) 30 = .ok (.bipush 8, 2) := by decide +kernel
theorem dR_sum_32 : decode (am_by jR_sum) 32 = .ok (.if_icmp .ne 9, 3) := by decide +kernel
theorem dR_sum_35 : decode (am_by jR_sum) 35 = .ok (.iload_n 2, 1) := by decide +kernel
theorem dR_sum_36 : decode (am_by jR_sum) 36 = .ok (.iload_n 3, 1) := by decide +kernel
theorem dR_sum_37 : decode (am_by jR_sum) 37 = .ok (.isub, 1) := by decide +kernel
theorem dR_sum_38 : decode (am_by jR_sum) 38 = .ok (.goto 18, 3) := by decide +kernel
theorem dR_sum_41 : decode (am_by jR_sum) 41 = .ok (.iload_n 1, 1) := by decide +kernel
theorem dR_sum_42 : decode (am_by jR_sum) 42 = .ok (.bipush 9, 2) := by decide +kernel
theorem dR_sum_44 : decode (am_by jR_sum) 44 = .ok (.if_icmp .ne 9, 3) := by decide +kernel
theorem dR_sum_47 : decode (am_by jR_sum) 47 = .ok (.iload_n 2, 1) := by decide +kernel
theorem dR_sum_48 : decode (am_by jR_sum) 48 = .ok (.iload_n 3, 1) := by decide +kernel
theorem dR_sum_49 : decode (am_by jR_sum) 49 = .ok (.imul, 1) := by decide +kernel
theorem dR_sum_50 : decode (am_by jR_sum) 50 = .ok (.goto 6, 3) := by decide +kernel
theorem dR_sum_53 : decode (am_by jR_sum) 53 = .ok (.iload_n 2, 1) := by decide +kernel
theorem dR_sum_54 : decode (am_by jR_sum) 54 = .ok (.iload_n 3, 1) := by decide +kernel
theorem dR_sum_55 : decode (am_by jR_sum) 55 = .ok (.idiv, 1) := by decide +kernel
theorem dR_sum_56 : decode (am_by jR_sum) 56 = .ok (.invokevirtual 244, 3) := by decide +kernel
theorem dR_sum_59 : decode (am_by jR_sum) 59 = .ok (.aload_n 0, 1) := by decide +kernel
theorem dR_sum_60 : decode (am_by jR_sum) 60 = .ok (.getfield 77, 3) := by decide +kernel
theorem dR_sum_63 : decode (am_by jR_sum) 63 = .ok (.aload_n 0, 1) := by decide +kernel
theorem dR_sum_64 : decode (am_by jR_sum) 64 = .ok (.getfield 200, 3) := by decide +kernel
theorem dR_sum_67 : decode (am_by jR_sum) 67 = .ok (.iconst 1, 1) := by decide +kernel
theorem dR_sum_68 : decode (am_by jR_sum) 68 = .ok (.isub, 1) := by decide +kernel
theorem dR_sum_69 : decode (am_by jR_sum) 69 = .ok (.dup2, 1) := by decide +kernel
theorem dR_sum_70 : decode (am_by jR_sum) 70 = .ok (.iaload, 1) := by decide +kernel
theorem dR_sum_71 : decode (am_by jR_sum) 71 = .ok (.iconst 1, 1) := by decide +kernel
theorem dR_sum_72 : decode (am_by jR_sum) 72 = .ok (.iadd, 1) := by decide +kernel
theorem dR_sum_73 : decode (am_by jR_sum) 73 = .ok (.iastore, 1) := by decide +kernel
theorem dR_sum_74 : decode (am_by jR_sum) 74 = .ok (.return_, 1) := by decide +kernel
theorem dR_onObject_0 : decode (am_by jR_onObject) 0 = .ok (.iload_n 2, 1) := by decide +kernel
theorem dR_onObject_1 : decode (am_by jR_onObject) 1 = .ok (.ifCond .ne 9, 3) := by decide +kernel
theorem dR_onObject_4 : decode (am_by jR_onObject) 4 = .ok (.aload_n 0, 1) := by decide +kernel
theorem dR_onObject_5 : decode (am_by jR_onObject) 5 = .ok (.iconst 2, 1) := by decide +kernel
theorem dR_onObject_6 : decode (am_by jR_onObject) 6 = .ok (.invokevirtual 231, 3) := by decide +kernel
theorem dR_onObject_9 : decode (am_by jR_onObject) 9 = .ok (.return_, 1) := by decide +kernel
theorem dR_onObject_10 : decode (am_by jR_onObject) 10 = .ok (.iload_n 1, 1) := by decide +kernel
theorem dR_onObject_11 : decode (am_by jR_onObject) 11 = .ok (.bipush 20, 2) := by decide +kernel
theorem dR_onObject_13 : decode (am_by jR_onObject) 13 = .ok (.if_icmp .ne 22, 3) := by decide +kernel
theorem dR_onObject_16 : decode (am_by jR_onObject) 16 = .ok (.aload_n 0, 1) := by decide +kernel
theorem dR_onObject_17 : decode (am_by jR_onObject) 17 = .ok (.aload_n 0, 1) := by decide +kernel
theorem dR_onObject_18 : decode (am_by jR_onObject) 18 = .ok (.getfield 65, 3) := by decide +kernel
theorem dR_onObject_21 : decode (am_by jR_onObject) 21 = .ok (.iload_n 2, 1) := by decide +kernel
theorem dR_onObject_22 : decode (am_by jR_onObject) 22 = .ok (.iconst 1, 1) := by decide +kernel
theorem dR_onObject_23 : decode (am_by jR_onObject) 23 = .ok (.isub, 1) := by decide +kernel
theorem dR_onObject_24 : decode (am_by jR_onObject) 24 = .ok (.iaload, 1) := by decide +kernel
theorem dR_onObject_25 : decode (am_by jR_onObject) 25 = .ok (.iconst 4, 1) := by decide +kernel
theorem dR_onObject_26 : decode (am_by jR_onObject) 26 = .ok (.invokevirtual 197, 3) := by decide +kernel
theorem dR_onObject_29 : decode (am_by jR_onObject) 29 = .ok (.aload_n 0, 1) := by decide +kernel
theorem dR_onObject_30 : decode (am_by jR_onObject) 30 = .ok (.iload_n 2, 1) := by decide +kernel
theorem dR_onObject_31 : decode (am_by jR_onObject) 31 = .ok (.invokevirtual 228, 3) := by decide +kernel
theorem dR_onObject_34 : decode (am_by jR_onObject) 34 = .ok (.return_, 1) := by decide +kernel
theorem dR_onObject_35 : decode (am_by jR_onObject) 35 = .ok (.iload_n 1, 1) := by decide +kernel
theorem dR_onObject_36 : decode (am_by jR_onObject) 36 = .ok (.bipush 19, 2) := by decide +kernel
theorem dR_onObject_38 : decode (am_by jR_onObject) 38 = .ok (.if_icmp .ne 9, 3) := by decide +kernel
theorem dR_onObject_41 : decode (am_by jR_onObject) 41 = .ok (.aload_n 0, 1) := by decide +kernel
theorem dR_onObject_42 : decode (am_by jR_onObject) 42 = .ok (.iload_n 2, 1) := by decide +kernel
theorem dR_onObject_43 : decode (am_by jR_onObject) 43 = .ok (.invokevirtual 247, 3) := by decide +kernel
theorem dR_onObject_46 : decode (am_by jR_onObject) 46 = .ok (.return_, 1) := by decide +kernel
theorem dR_onObject_47 : decode (am_by jR_onObject) 47 = .ok (.iload_n 1, 1) := by decide +kernel
theorem dR_onObject_48 : decode (am_by jR_onObject) 48 = .ok (.bipush 15, 2) := by decide +kernel
theorem dR_onObject_50 : decode (am_by jR_onObject) 50 = .ok (.if_icmp .ne 18, 3) := by decide +kernel
theorem dR_onObject_53 : decode (am_by jR_onObject) 53 = .ok (.aload_n 0, 1) := by decide +kernel
theorem dR_onObject_54 : decode (am_by jR_onObject) 54 = .ok (.aload_n 0, 1) := by decide +kernel
theorem dR_onObject_55 : decode (am_by jR_onObject) 55 = .ok (.getfield 68, 3) := by decide +kernel
theorem dR_onObject_58 : decode (am_by jR_onObject) 58 = .ok (.iload_n 2, 1) := by decide +kernel
theorem dR_onObject_59 : decode (am_by jR_onObject) 59 = .ok (.iconst 1, 1) := by decide +kernel
theorem dR_onObject_60 : decode (am_by jR_onObject) 60 = .ok (.isub, 1) := by decide +kernel
theorem dR_onObject_61 : decode (am_by jR_onObject) 61 = .ok (.iaload, 1) := by decide +kernel
theorem dR_onObject_62 : decode (am_by jR_onObject) 62 = .ok (.invokevirtual 244, 3) := by decide +kernel
theorem dR_onObject_65 : decode (am_by jR_onObject) 65 = .ok (.goto 68, 3) := by decide +kernel
theorem dR_onObject_68 : decode (am_by jR_onObject) 68 = .ok (.iload_n 1, 1) := by decide +kernel
theorem dR_onObject_69 : decode (am_by jR_onObject) 69 = .ok (.bipush 26, 2) := by decide +kernel
theorem dR_onObject_71 : decode (am_by jR_onObject) 71 = .ok (.if_icmp .ne 18, 3) := by decide +kernel
theorem dR_onObject_74 : decode (am_by jR_onObject) 74 = .ok (.aload_n 0, 1) := by decide +kernel
theorem dR_onObject_75 : decode (am_by jR_onObject) 75 = .ok (.aload_n 0, 1) := by decide +kernel
theorem dR_onObject_76 : decode (am_by jR_onObject) 76 = .ok (.getfield 65, 3) := by decide +kernel
theorem dR_onObject_79 : decode (am_by jR_onObject) 79 = .ok (.iload_n 2, 1) := by decide +kernel
theorem dR_onObject_80 : decode (am_by jR_onObject) 80 = .ok (.iconst 1, 1) := by decide +kernel
theorem dR_onObject_81 : decode (am_by jR_onObject) 81 = .ok (.isub, 1) := by decide +kernel
theorem dR_onObject_82 : decode (am_by jR_onObject) 82 = .ok (.iaload, 1) := by decide +kernel
theorem dR_onObject_83 : decode (am_by jR_onObject) 83 = .ok (.invokevirtual 244, 3) := by decide +kernel
theorem dR_onObject_86 : decode (am_by jR_onObject) 86 = .ok (.goto 47, 3) := by decide +kernel
theorem dR_onObject_89 : decode (am_by jR_onObject) 89 = .ok (.iload_n 1, 1) := by decide +kernel
theorem dR_onObject_90 : decode (am_by jR_onObject) 90 = .ok (.bipush 16, 2) := by decide +kernel
theorem dR_onObject_92 : decode (am_by jR_onObject) 92 = .ok (.if_icmp .ne 15, 3) := by decide +kernel
theorem dR_onObject_95 : decode (am_by jR_onObject) 95 = .ok (.aload_n 0, 1) := by decide +kernel
theorem dR_onObject_96 : decode (am_by jR_onObject) 96 = .ok (.getfield 68, 3) := by decide +kernel
theorem dR_onObject_99 : decode (am_by jR_onObject) 99 = .ok (.iload_n 2, 1) := by decide +kernel
theorem dR_onObject_100 : decode (am_by jR_onObject) 100 = .ok (.iconst 1, 1) := by decide +kernel
theorem dR_onObject_101 : decode (am_by jR_onObject) 101 = .ok (.isub, 1) := by decide +kernel
theorem dR_onObject_102 : decode (am_by jR_onObject) 102 = .ok (.iload_n 3, 1) := by decide +kernel
theorem dR_onObject_103 : decode (am_by jR_onObject) 103 = .ok (.iastore, 1) := by decide +kernel
theorem dR_onObject_104 : decode (am_by jR_onObject) 104 = .ok (.goto 29, 3) := by decide +kernel
theorem dR_onObject_107 : decode (am_by jR_onObject) 107 = .ok (.aload_n 0, 1) := by decide +kernel
theorem dR_onObject_108 : decode (am_by jR_onObject) 108 = .ok (.getfield 71, 3) := by decide +kernel
theorem dR_onObject_111 : decode (am_by jR_onObject) 111 = .ok (.aload_n 0, 1) := by decide +kernel
theorem dR_onObject_112 : decode (am_by jR_onObject) 112 = .ok (.getfield 203, 3) := by decide +kernel
theorem dR_onObject_115 : decode (am_by jR_onObject) 115 = .ok (.iload_n 2, 1) := by decide +kernel
theorem dR_onObject_116 : decode (am_by jR_onObject) 116 = .ok (.iastore, 1) := by decide +kernel
theorem dR_onObject_117 : decode (am_by jR_onObject) 117 = .ok (.aload_n 0, 1) := by decide +kernel
theorem dR_onObject_118 : decode (am_by jR_onObject) 118 = .ok (.dup, 1) := by decide +kernel
theorem dR_onObject_119 : decode (am_by jR_onObject) 119 = .ok (.getfield 203, 3) := by decide +kernel
theorem dR_onObject_122 : decode (am_by jR_onObject) 122 = .ok (.iconst 1, 1) := by decide +kernel
theorem dR_onObject_123 : decode (am_by jR_onObject) 123 = .ok (.iadd, 1) := by decide +kernel
theorem dR_onObject_124 : decode (am_by jR_onObject) 124 = .ok (.putfield 203, 3) := by decide +kernel
theorem dR_onObject_127 : decode (am_by jR_onObject) 127 = .ok (.aload_n 0, 1) := by decide +kernel
theorem dR_onObject_128 : decode (am_by jR_onObject) 128 = .ok (.iload_n 2, 1) := by decide +kernel
theorem dR_onObject_129 : decode (am_by jR_onObject) 129 = .ok (.iconst 2, 1) := by decide +kernel
theorem dR_onObject_130 : decode (am_by jR_onObject) 130 = .ok (.invokevirtual 197, 3) := by decide +kernel
theorem dR_onObject_133 : decode (am_by jR_onObject) 133 = .ok (.aload_n 0, 1) := by decide +kernel
theorem dR_onObject_134 : decode (am_by jR_onObject) 134 = .ok (.getfield 77, 3) := by decide +kernel
theorem dR_onObject_137 : decode (am_by jR_onObject) 137 = .ok (.aload_n 0, 1) := by decide +kernel
theorem dR_onObject_138 : decode (am_by jR_onObject) 138 = .ok (.getfield 200, 3) := by decide +kernel
theorem dR_onObject_141 : decode (am_by jR_onObject) 141 = .ok (.iconst 1, 1) := by decide +kernel
theorem dR_onObject_142 : decode (am_by jR_onObject) 142 = .ok (.isub, 1) := by decide +kernel
theorem dR_onObject_143 : decode (am_by jR_onObject) 143 = .ok (.dup2, 1) := by decide +kernel
theorem dR_onObject_144 : decode (am_by jR_onObject) 144 = .ok (.iaload, 1) := by decide +kernel
theorem dR_onObject_145 : decode (am_by jR_onObject) 145 = .ok (.iconst 1, 1) := by decide +kernel
theorem dR_onObject_146 : decode (am_by jR_onObject) 146 = .ok (.iadd, 1) := by decide +kernel
theorem dR_onObject_147 : decode (am_by jR_onObject) 147 = .ok (.iastore, 1) := by decide +kernel
theorem dR_onObject_148 : decode (am_by jR_onObject) 148 = .ok (.return_, 1) := by decide +kernel
theorem dR_step_0 : decode (am_by jR_step) 0 = .ok (.aload_n 0, 1) := by decide +kernel
theorem dR_step_1 : decode (am_by jR_step) 1 = .ok (.getfield 200, 3) := by decide +kernel
theorem dR_step_4 : decode (am_by jR_step) 4 = .ok (.iconst 1, 1) := by decide +kernel
theorem dR_step_5 : decode (am_by jR_step) 5 = .ok (.isub, 1) := by decide +kernel
theorem dR_step_6 : decode (am_by jR_step) 6 = .ok (.istore_n 1, 1) := by decide +kernel
theorem dR_step_7 : decode (am_by jR_step) 7 = .ok (.aload_n 0, 1) := by decide +kernel
theorem dR_step_8 : decode (am_by jR_step) 8 = .ok (.getfield 74, 3) := by decide +kernel
theorem dR_step_11 : decode (am_by jR_step) 11 = .ok (.iload_n 1, 1) := by decide +kernel
theorem dR_step_12 : decode (am_by jR_step) 12 = .ok (.iaload, 1) := by decide +kernel
theorem dR_step_13 : decode (am_by jR_step) 13 = .ok (.istore_n 2, 1) := by decide +kernel
theorem dR_step_14 : decode (am_by jR_step) 14 = .ok (.bipush 60, 2) := by decide +kernel
theorem dR_step_16 : decode (am_by jR_step) 16 = .ok (.iload_n 2, 1) := by decide +kernel
theorem dR_step_17 : decode (am_by jR_step) 17 = .ok (.imul, 1) := by decide +kernel
theorem dR_step_18 : decode (am_by jR_step) 18 = .ok (.aload_n 0, 1) := by decide +kernel
theorem dR_step_19 : decode (am_by jR_step) 19 = .ok (.getfield 77, 3) := by decide +kernel
theorem dR_step_22 : decode (am_by jR_step) 22 = .ok (.iload_n 1, 1) := by decide +kernel
theorem dR_step_23 : decode (am_by jR_step) 23 = .ok (.iaload, 1) := by decide +kernel
theorem dR_step_24 : decode (am_by jR_step) 24 = .ok (.iadd, 1) := by decide +kernel
theorem dR_step_25 : decode (am_by jR_step) 25 = .ok (.istore_n 3, 1) := by decide +kernel
theorem dR_step_26 : decode (am_by jR_step) 26 = .ok (.aload_n 0, 1) := by decide +kernel
theorem dR_step_27 : decode (am_by jR_step) 27 = .ok (.getfield 7, 3) := by decide +kernel
theorem dR_step_30 : decode (am_by jR_step) 30 = .ok (.iload_n 3, 1) := by decide +kernel
theorem dR_step_31 : decode (am_by jR_step) 31 = .ok (.iaload, 1) := by decide +kernel
theorem dR_step_32 : decode (am_by jR_step) 32 = .ok (.istore 4, 2) := by decide +kernel
theorem dR_step_34 : decode (am_by jR_step) 34 = .ok (.aload_n 0, 1) := by decide +kernel
theorem dR_step_35 : decode (am_by jR_step) 35 = .ok (.getfield 13, 3) := by decide +kernel
theorem dR_step_38 : decode (am_by jR_step) 38 = .ok (.iload_n 3, 1) := by decide +kernel
theorem dR_step_39 : decode (am_by jR_step) 39 = .ok (.iaload, 1) := by decide +kernel
theorem dR_step_40 : decode (am_by jR_step) 40 = .ok (.istore 5, 2) := by decide +kernel
theorem dR_step_42 : decode (am_by jR_step) 42 = .ok (.aload_n 0, 1) := by decide +kernel
theorem dR_step_43 : decode (am_by jR_step) 43 = .ok (.getfield 16, 3) := by decide +kernel
theorem dR_step_46 : decode (am_by jR_step) 46 = .ok (.iload_n 3, 1) := by decide +kernel
theorem dR_step_47 : decode (am_by jR_step) 47 = .ok (.iaload, 1) := by decide +kernel
theorem dR_step_48 : decode (am_by jR_step) 48 = .ok (.istore 6, 2) := by decide +kernel
theorem dR_step_50 : decode (am_by jR_step) 50 = .ok (.aload_n 0, 1) := by decide +kernel
theorem dR_step_51 : decode (am_by jR_step) 51 = .ok (.getfield 77, 3) := by decide +kernel
theorem dR_step_54 : decode (am_by jR_step) 54 = .ok (.iload_n 1, 1) := by decide +kernel
theorem dR_step_55 : decode (am_by jR_step) 55 = .ok (.iaload, 1) := by decide +kernel
theorem dR_step_56 : decode (am_by jR_step) 56 = .ok (.iconst 1, 1) := by decide +kernel
theorem dR_step_57 : decode (am_by jR_step) 57 = .ok (.iadd, 1) := by decide +kernel
theorem dR_step_58 : decode (am_by jR_step) 58 = .ok (.istore 7, 2) := by decide +kernel
theorem dR_step_60 : decode (am_by jR_step) 60 = .ok (.iload 4, 2) := by decide +kernel
theorem dR_step_62 : decode (am_by jR_step) 62 = .ok (.bipush 7, 2) := by decide +kernel
theorem dR_step_64 : decode (am_by jR_step) 64 = .ok (.if_icmp .lt 33, 3) := by decide +kernel
theorem dR_step_67 : decode (am_by jR_step) 67 = .ok (.iload 4, 2) := by decide +kernel
theorem dR_step_69 : decode (am_by jR_step) 69 = .ok (.bipush 10, 2) := by decide +kernel
theorem dR_step_71 : decode (am_by jR_step) 71 = .ok (.if_icmp .gt 26, 3) := by decide +kernel
theorem dR_step_74 : decode (am_by jR_step) 74 = .ok (.aload_n 0, 1) := by decide +kernel
theorem dR_step_75 : decode (am_by jR_step) 75 = .ok (.invokevirtual 234, 3) := by decide +kernel
theorem dR_step_78 : decode (am_by jR_step) 78 = .ok (.istore 8, 2) := by decide +kernel
theorem dR_step_80 : decode (am_by jR_step) 80 = .ok (.aload_n 0, 1) := by decide +kernel
theorem dR_step_81 : decode (am_by jR_step) 81 = .ok (.invokevirtual 234, 3) := by decide +kernel
theorem dR_step_84 : decode (am_by jR_step) 84 = .ok (.istore 9, 2) := by decide +kernel
theorem dR_step_86 : decode (am_by jR_step) 86 = .ok (.aload_n 0, 1) := by decide +kernel
theorem dR_step_87 : decode (am_by jR_step) 87 = .ok (.iload 4, 2) := by decide +kernel
theorem dR_step_89 : decode (am_by jR_step) 89 = .ok (.iload 9, 2) := by decide +kernel
theorem dR_step_91 : decode (am_by jR_step) 91 = .ok (.iload 8, 2) := by decide +kernel
theorem dR_step_93 : decode (am_by jR_step) 93 = .ok (.invokevirtual 250, 3) := by decide +kernel
theorem dR_step_96 : decode (am_by jR_step) 96 = .ok (.return_, 1) := by decide +kernel
theorem dR_step_97 : decode (am_by jR_step) 97 = .ok (.iload 4, 2) := by decide +kernel
theorem dR_step_99 : decode (am_by jR_step) 99 = .ok (.bipush 15, 2) := by decide +kernel
theorem dR_step_101 : decode (am_by jR_step) 101 = .ok (.if_icmp .eq 31, 3) := by decide +kernel
theorem dR_step_104 : decode (am_by jR_step) 104 = .ok (.iload 4, 2) := by decide +kernel
theorem dR_step_106 : decode (am_by jR_step) 106 = .ok (.bipush 16, 2) := by decide +kernel
theorem dR_step_108 : decode (am_by jR_step) 108 = .ok (.if_icmp .eq 24, 3) := by decide +kernel
theorem dR_step_111 : decode (am_by jR_step) 111 = .ok (.iload 4, 2) := by decide +kernel
theorem dR_step_113 : decode (am_by jR_step) 113 = .ok (.bipush 18, 2) := by decide +kernel
theorem dR_step_115 : decode (am_by jR_step) 115 = .ok (.if_icmp .lt 10, 3) := by decide +kernel
theorem dR_step_118 : decode (am_by jR_step) 118 = .ok (.iload 4, 2) := by decide +kernel
theorem dR_step_120 : decode (am_by jR_step) 120 = .ok (.bipush 20, 2) := by decide +kernel
theorem dR_step_122 : decode (am_by jR_step) 122 = .ok (.if_icmp .le 10, 3) := by decide +kernel
theorem dR_step_125 : decode (am_by jR_step) 125 = .ok (.iload 4, 2) := by decide +kernel
theorem dR_step_127 : decode (am_by jR_step) 127 = .ok (.bipush 26, 2) := by decide +kernel
theorem dR_step_129 : decode (am_by jR_step) 129 = .ok (.if_icmp .ne 37, 3) := by decide +kernel
theorem dR_step_132 : decode (am_by jR_step) 132 = .ok (.iload 4, 2) := by decide +kernel
theorem dR_step_134 : decode (am_by jR_step) 134 = .ok (.bipush 16, 2) := by decide +kernel
theorem dR_step_136 : decode (am_by jR_step) 136 = .ok (.if_icmp .ne 10, 3) := by decide +kernel
theorem dR_step_139 : decode (am_by jR_step) 139 = .ok (.aload_n 0, 1) := by decide +kernel
theorem dR_step_140 : decode (am_by jR_step) 140 = .ok (.invokevirtual 234, 3) := by decide +kernel
theorem dR_step_143 : decode (am_by jR_step) 143 = .ok (.goto 4, 3) := by decide +kernel
theorem dR_step_146 : decode (am_by jR_step) 146 = .ok (.iconst 0, 1) := by decide +kernel
theorem dR_step_147 : decode (am_by jR_step) 147 = .ok (.istore 8, 2) := by decide +kernel
theorem dR_step_149 : decode (am_by jR_step) 149 = .ok (.aload_n 0, 1) := by decide +kernel
theorem dR_step_150 : decode (am_by jR_step) 150 = .ok (.invokevirtual 234, 3) := by decide +kernel
theorem dR_step_153 : decode (am_by jR_step) 153 = .ok (.istore 9, 2) := by decide +kernel
theorem dR_step_155 : decode (am_by jR_step) 155 = .ok (.aload_n 0, 1) := by decide +kernel
theorem dR_step_156 : decode (am_by jR_step) 156 = .ok (.iload 4, 2) := by decide +kernel
theorem dR_step_158 : decode (am_by jR_step) 158 = .ok (.iload 9, 2) := by decide +kernel
theorem dR_step_160 : decode (am_by jR_step) 160 = .ok (.iload 8, 2) := by decide +kernel
theorem dR_step_162 : decode (am_by jR_step) 162 = .ok (.invokevirtual 254, 3) := by decide +kernel
theorem dR_step_165 : decode (am_by jR_step) 165 = .ok (.return_, 1) := by decide +kernel
theorem dR_step_166 : decode (am_by jR_step) 166 = .ok (.iload 4, 2) := by decide +kernel
theorem dR_step_168 : decode (am_by jR_step) 168 = .ok (.bipush 21, 2) := by decide +kernel
theorem dR_step_170 : decode (am_by jR_step) 170 = .ok (.if_icmp .ne 18, 3) := by decide +kernel
theorem dR_step_173 : decode (am_by jR_step) 173 = .ok (.aload_n 0, 1) := by decide +kernel
theorem dR_step_174 : decode (am_by jR_step) 174 = .ok (.iload_n 2, 1) := by decide +kernel
theorem dR_step_175 : decode (am_by jR_step) 175 = .ok (.bipush 6, 2) := by decide +kernel
theorem dR_step_177 : decode (am_by jR_step) 177 = .ok (.idiv, 1) := by decide +kernel
theorem dR_step_178 : decode (am_by jR_step) 178 = .ok (.bipush 6, 2) := by decide +kernel
theorem dR_step_180 : decode (am_by jR_step) 180 = .ok (.imul, 1) := by decide +kernel
theorem dR_step_181 : decode (am_by jR_step) 181 = .ok (.iload 5, 2) := by decide +kernel
theorem dR_step_183 : decode (am_by jR_step) 183 = .ok (.iadd, 1) := by decide +kernel
theorem dR_step_184 : decode (am_by jR_step) 184 = .ok (.invokevirtual 257, 3) := by decide +kernel
theorem dR_step_187 : decode (am_by jR_step) 187 = .ok (.return_, 1) := by decide +kernel
theorem dR_step_188 : decode (am_by jR_step) 188 = .ok (.iload 4, 2) := by decide +kernel
theorem dR_step_190 : decode (am_by jR_step) 190 = .ok (.bipush 22, 2) := by decide +kernel
theorem dR_step_192 : decode (am_by jR_step) 192 = .ok (.if_icmp .ne 16, 3) := by decide +kernel
theorem dR_step_195 : decode (am_by jR_step) 195 = .ok (.aload_n 0, 1) := by decide +kernel
theorem dR_step_196 : decode (am_by jR_step) 196 = .ok (.invokevirtual 234, 3) := by decide +kernel
theorem dR_step_199 : decode (am_by jR_step) 199 = .ok (.istore 8, 2) := by decide +kernel
theorem dR_step_201 : decode (am_by jR_step) 201 = .ok (.aload_n 0, 1) := by decide +kernel
theorem dR_step_202 : decode (am_by jR_step) 202 = .ok (.iload 8, 2) := by decide +kernel
theorem dR_step_204 : decode (am_by jR_step) 204 = .ok (.invokevirtual 260, 3) := by decide +kernel
theorem dR_step_207 : decode (am_by jR_step) 207 = .ok (.return_, 1) := by decide +kernel
theorem dR_step_208 : decode (am_by jR_step) 208 = .ok (.iload 4, 2) := by decide +kernel
theorem dR_step_210 : decode (am_by jR_step) 210 = .ok (.tableswitch 394 1 27 #[122, 131, 150, 169, 177, 202, 394, 394, 394, 394, 229, 236, 281, 289, 394, 394, 306, 394, 394, 394, 394, 394, 324, 337, 354, 394, 374], 122) := by decide +kernel
theorem dR_step_332 : decode (am_by jR_step) 332 = .ok (.aload_n 0, 1) := by decide +kernel
theorem dR_step_333 : decode (am_by jR_step) 333 = .ok (.iload 5, 2) := by decide +kernel
theorem dR_step_335 : decode (am_by jR_step) 335 = .ok (.invokevirtual 244, 3) := by decide +kernel
theorem dR_step_338 : decode (am_by jR_step) 338 = .ok (.goto 266, 3) := by decide +kernel
theorem dR_step_341 : decode (am_by jR_step) 341 = .ok (.aload_n 0, 1) := by decide +kernel
theorem dR_step_342 : decode (am_by jR_step) 342 = .ok (.aload_n 0, 1) := by decide +kernel
theorem dR_step_343 : decode (am_by jR_step) 343 = .ok (.getfield 89, 3) := by decide +kernel
theorem dR_step_346 : decode (am_by jR_step) 346 = .ok (.bipush 8, 2) := by decide +kernel
theorem dR_step_348 : decode (am_by jR_step) 348 = .ok (.iload_n 1, 1) := by decide +kernel
theorem dR_step_349 : decode (am_by jR_step) 349 = .ok (.imul, 1) := by decide +kernel
theorem dR_step_350 : decode (am_by jR_step) 350 = .ok (.iload 5, 2) := by decide +kernel
theorem dR_step_352 : decode (am_by jR_step) 352 = .ok (.iadd, 1) := by decide +kernel
theorem dR_step_353 : decode (am_by jR_step) 353 = .ok (.iaload, 1) := by decide +kernel
theorem dR_step_354 : decode (am_by jR_step) 354 = .ok (.invokevirtual 244, 3) := by decide +kernel
theorem dR_step_357 : decode (am_by jR_step) 357 = .ok (.goto 247, 3) := by decide +kernel
theorem dR_step_360 : decode (am_by jR_step) 360 = .ok (.aload_n 0, 1) := by decide +kernel
theorem dR_step_361 : decode (am_by jR_step) 361 = .ok (.getfield 89, 3) := by decide +kernel
theorem dR_step_364 : decode (am_by jR_step) 364 = .ok (.bipush 8, 2) := by decide +kernel
theorem dR_step_366 : decode (am_by jR_step) 366 = .ok (.iload_n 1, 1) := by decide +kernel
theorem dR_step_367 : decode (am_by jR_step) 367 = .ok (.imul, 1) := by decide +kernel
theorem dR_step_368 : decode (am_by jR_step) 368 = .ok (.iload 5, 2) := by decide +kernel
theorem dR_step_370 : decode (am_by jR_step) 370 = .ok (.iadd, 1) := by decide +kernel
theorem dR_step_371 : decode (am_by jR_step) 371 = .ok (.aload_n 0, 1) := by decide +kernel
theorem dR_step_372 : decode (am_by jR_step) 372 = .ok (.invokevirtual 234, 3) := by decide +kernel
theorem dR_step_375 : decode (am_by jR_step) 375 = .ok (.iastore, 1) := by decide +kernel
theorem dR_step_376 : decode (am_by jR_step) 376 = .ok (.goto 228, 3) := by decide +kernel
theorem dR_step_379 : decode (am_by jR_step) 379 = .ok (.aload_n 0, 1) := by decide +kernel
theorem dR_step_380 : decode (am_by jR_step) 380 = .ok (.invokevirtual 234, 3) := by decide +kernel
theorem dR_step_383 : decode (am_by jR_step) 383 = .ok (.pop, 1) := by decide +kernel
theorem dR_step_384 : decode (am_by jR_step) 384 = .ok (.goto 220, 3) := by decide +kernel
theorem dR_step_387 : decode (am_by jR_step) 387 = .ok (.aload_n 0, 1) := by decide +kernel
theorem dR_step_388 : decode (am_by jR_step) 388 = .ok (.aload_n 0, 1) := by decide +kernel
theorem dR_step_389 : decode (am_by jR_step) 389 = .ok (.getfield 86, 3) := by decide +kernel
theorem dR_step_392 : decode (am_by jR_step) 392 = .ok (.bipush 8, 2) := by decide +kernel
theorem dR_step_394 : decode (am_by jR_step) 394 = .ok (.iload_n 1, 1) := by decide +kernel
theorem dR_step_395 : decode (am_by jR_step) 395 = .ok (.imul, 1) := by decide +kernel
theorem dR_step_396 : decode (am_by jR_step) 396 = .ok (.aload_n 0, 1) := by decide +kernel
theorem dR_step_397 : decode (am_by jR_step) 397 = .ok (.getfield 80, 3) := by decide +kernel
theorem dR_step_400 : decode (am_by jR_step) 400 = .ok (.iload_n 1, 1) := by decide +kernel
theorem dR_step_401 : decode (am_by jR_step) 401 = .ok (.iaload, 1) := by decide +kernel
theorem dR_step_402 : decode (am_by jR_step) 402 = .ok (.iadd, 1) := by decide +kernel
theorem dR_step_403 : decode (am_by jR_step) 403 = .ok (.iconst 1, 1) := by decide +kernel
theorem dR_step_404 : decode (am_by jR_step) 404 = .ok (.isub, 1) := by decide +kernel
theorem dR_step_405 : decode (am_by jR_step) 405 = .ok (.iaload, 1) := by decide +kernel
theorem dR_step_406 : decode (am_by jR_step) 406 = .ok (.invokevirtual 244, 3) := by decide +kernel
theorem dR_step_409 : decode (am_by jR_step) 409 = .ok (.goto 195, 3) := by decide +kernel
theorem dR_step_412 : decode (am_by jR_step) 412 = .ok (.aload_n 0, 1) := by decide +kernel
theorem dR_step_413 : decode (am_by jR_step) 413 = .ok (.invokevirtual 234, 3) := by decide +kernel
theorem dR_step_416 : decode (am_by jR_step) 416 = .ok (.istore 8, 2) := by decide +kernel
theorem dR_step_418 : decode (am_by jR_step) 418 = .ok (.aload_n 0, 1) := by decide +kernel
theorem dR_step_419 : decode (am_by jR_step) 419 = .ok (.invokevirtual 234, 3) := by decide +kernel
theorem dR_step_422 : decode (am_by jR_step) 422 = .ok (.istore 9, 2) := by decide +kernel
theorem dR_step_424 : decode (am_by jR_step) 424 = .ok (.aload_n 0, 1) := by decide +kernel
theorem dR_step_425 : decode (am_by jR_step) 425 = .ok (.iload 8, 2) := by decide +kernel
theorem dR_step_427 : decode (am_by jR_step) 427 = .ok (.invokevirtual 244, 3) := by decide +kernel
theorem dR_step_430 : decode (am_by jR_step) 430 = .ok (.aload_n 0, 1) := by decide +kernel
theorem dR_step_431 : decode (am_by jR_step) 431 = .ok (.iload 9, 2) := by decide +kernel
theorem dR_step_433 : decode (am_by jR_step) 433 = .ok (.invokevirtual 244, 3) := by decide +kernel
theorem dR_step_436 : decode (am_by jR_step) 436 = .ok (.goto 168, 3) := by decide +kernel
theorem dR_step_439 : decode (am_by jR_step) 439 = .ok (.iload 6, 2) := by decide +kernel
theorem dR_step_441 : decode (am_by jR_step) 441 = .ok (.istore 7, 2) := by decide +kernel
theorem dR_step_443 : decode (am_by jR_step) 443 = .ok (.goto 161, 3) := by decide +kernel
theorem dR_step_446 : decode (am_by jR_step) 446 = .ok (.aload_n 0, 1) := by decide +kernel
theorem dR_step_447 : decode (am_by jR_step) 447 = .ok (.invokevirtual 234, 3) := by decide +kernel
theorem dR_step_450 : decode (am_by jR_step) 450 = .ok (.istore 10, 2) := by decide +kernel
theorem dR_step_452 : decode (am_by jR_step) 452 = .ok (.iload 5, 2) := by decide +kernel
theorem dR_step_454 : decode (am_by jR_step) 454 = .ok (.ifCond .ne 11, 3) := by decide +kernel
theorem dR_step_457 : decode (am_by jR_step) 457 = .ok (.iload 10, 2) := by decide +kernel
theorem dR_step_459 : decode (am_by jR_step) 459 = .ok (.ifCond .ne 145, 3) := by decide +kernel
theorem dR_step_462 : decode (am_by jR_step) 462 = .ok (.goto 22, 3) := by decide +kernel
theorem dR_step_465 : decode (am_by jR_step) 465 = .ok (.iload 5, 2) := by decide +kernel
theorem dR_step_467 : decode (am_by jR_step) 467 = .ok (.iconst 1, 1) := by decide +kernel
theorem dR_step_468 : decode (am_by jR_step) 468 = .ok (.if_icmp .ne 11, 3) := by decide +kernel
theorem dR_step_471 : decode (am_by jR_step) 471 = .ok (.iload 10, 2) := by decide +kernel
theorem dR_step_473 : decode (am_by jR_step) 473 = .ok (.ifCond .eq 131, 3) := by decide +kernel
theorem dR_step_476 : decode (am_by jR_step) 476 = .ok (.goto 8, 3) := by decide +kernel
theorem dR_step_479 : decode (am_by jR_step) 479 = .ok (.iload 10, 2) := by decide +kernel
theorem dR_step_481 : decode (am_by jR_step) 481 = .ok (.ifCond .ge 123, 3) := by decide +kernel
theorem dR_step_484 : decode (am_by jR_step) 484 = .ok (.iload 6, 2) := by decide +kernel
theorem dR_step_486 : decode (am_by jR_step) 486 = .ok (.istore 7, 2) := by decide +kernel
theorem dR_step_488 : decode (am_by jR_step) 488 = .ok (.goto 116, 3) := by decide +kernel
theorem dR_step_491 : decode (am_by jR_step) 491 = .ok (.aload_n 0, 1) := by decide +kernel
theorem dR_step_492 : decode (am_by jR_step) 492 = .ok (.iconst 0, 1) := by decide +kernel
theorem dR_step_493 : decode (am_by jR_step) 493 = .ok (.invokevirtual 244, 3) := by decide +kernel
theorem dR_step_496 : decode (am_by jR_step) 496 = .ok (.goto 108, 3) := by decide +kernel
theorem dR_step_499 : decode (am_by jR_step) 499 = .ok (.aload_n 0, 1) := by decide +kernel
theorem dR_step_500 : decode (am_by jR_step) 500 = .ok (.iload 5, 2) := by decide +kernel
theorem dR_step_502 : decode (am_by jR_step) 502 = .ok (.invokevirtual 209, 3) := by decide +kernel
theorem dR_step_505 : decode (am_by jR_step) 505 = .ok (.istore 11, 2) := by decide +kernel
theorem dR_step_507 : decode (am_by jR_step) 507 = .ok (.aload_n 0, 1) := by decide +kernel
theorem dR_step_508 : decode (am_by jR_step) 508 = .ok (.iload 11, 2) := by decide +kernel
theorem dR_step_510 : decode (am_by jR_step) 510 = .ok (.invokevirtual 244, 3) := by decide +kernel
theorem dR_step_513 : decode (am_by jR_step) 513 = .ok (.goto 91, 3) := by decide +kernel
theorem dR_step_516 : decode (am_by jR_step) 516 = .ok (.aload_n 0, 1) := by decide +kernel
theorem dR_step_517 : decode (am_by jR_step) 517 = .ok (.invokevirtual 234, 3) := by decide +kernel
theorem dR_step_520 : decode (am_by jR_step) 520 = .ok (.istore 12, 2) := by decide +kernel
theorem dR_step_522 : decode (am_by jR_step) 522 = .ok (.iload 12, 2) := by decide +kernel
theorem dR_step_524 : decode (am_by jR_step) 524 = .ok (.ifCond .ne 80, 3) := by decide +kernel
theorem dR_step_527 : decode (am_by jR_step) 527 = .ok (.iload 6, 2) := by decide +kernel
theorem dR_step_529 : decode (am_by jR_step) 529 = .ok (.istore 7, 2) := by decide +kernel
theorem dR_step_531 : decode (am_by jR_step) 531 = .ok (.goto 73, 3) := by decide +kernel
theorem dR_step_534 : decode (am_by jR_step) 534 = .ok (.aload_n 0, 1) := by decide +kernel
theorem dR_step_535 : decode (am_by jR_step) 535 = .ok (.iload 7, 2) := by decide +kernel
theorem dR_step_537 : decode (am_by jR_step) 537 = .ok (.invokevirtual 244, 3) := by decide +kernel
theorem dR_step_540 : decode (am_by jR_step) 540 = .ok (.iload 6, 2) := by decide +kernel
theorem dR_step_542 : decode (am_by jR_step) 542 = .ok (.istore 7, 2) := by decide +kernel
theorem dR_step_544 : decode (am_by jR_step) 544 = .ok (.goto 60, 3) := by decide +kernel
theorem dR_step_547 : decode (am_by jR_step) 547 = .ok (.aload_n 0, 1) := by decide +kernel
theorem dR_step_548 : decode (am_by jR_step) 548 = .ok (.getfield 89, 3) := by decide +kernel
theorem dR_step_551 : decode (am_by jR_step) 551 = .ok (.bipush 8, 2) := by decide +kernel
theorem dR_step_553 : decode (am_by jR_step) 553 = .ok (.iload_n 1, 1) := by decide +kernel
theorem dR_step_554 : decode (am_by jR_step) 554 = .ok (.imul, 1) := by decide +kernel
theorem dR_step_555 : decode (am_by jR_step) 555 = .ok (.iload 5, 2) := by decide +kernel
theorem dR_step_557 : decode (am_by jR_step) 557 = .ok (.iadd, 1) := by decide +kernel
theorem dR_step_558 : decode (am_by jR_step) 558 = .ok (.iaload, 1) := by decide +kernel
theorem dR_step_559 : decode (am_by jR_step) 559 = .ok (.istore 7, 2) := by decide +kernel
theorem dR_step_561 : decode (am_by jR_step) 561 = .ok (.goto 43, 3) := by decide +kernel
theorem dR_step_564 : decode (am_by jR_step) 564 = .ok (.aload_n 0, 1) := by decide +kernel
theorem dR_step_565 : decode (am_by jR_step) 565 = .ok (.invokevirtual 234, 3) := by decide +kernel
theorem dR_step_568 : decode (am_by jR_step) 568 = .ok (.istore 13, 2) := by decide +kernel
theorem dR_step_570 : decode (am_by jR_step) 570 = .ok (.aload_n 0, 1) := by decide +kernel
theorem dR_step_571 : decode (am_by jR_step) 571 = .ok (.iload 13, 2) := by decide +kernel
theorem dR_step_573 : decode (am_by jR_step) 573 = .ok (.ldc_w 263, 3) := by decide +kernel
theorem dR_step_576 : decode (am_by jR_step) 576 = .ok (.iand, 1) := by decide +kernel
theorem dR_step_577 : decode (am_by jR_step) 577 = .ok (.iconst 0, 1) := by decide +kernel
theorem dR_step_578 : decode (am_by jR_step) 578 = .ok (.invokevirtual 197, 3) := by decide +kernel
theorem dR_step_581 : decode (am_by jR_step) 581 = .ok (.goto 23, 3) := by decide +kernel
theorem dR_step_584 : decode (am_by jR_step) 584 = .ok (.aload_n 0, 1) := by decide +kernel
theorem dR_step_585 : decode (am_by jR_step) 585 = .ok (.getfield 89, 3) := by decide +kernel
theorem dR_step_588 : decode (am_by jR_step) 588 = .ok (.bipush 8, 2) := by decide +kernel
theorem dR_step_590 : decode (am_by jR_step) 590 = .ok (.iload_n 1, 1) := by decide +kernel
theorem dR_step_591 : decode (am_by jR_step) 591 = .ok (.imul, 1) := by decide +kernel
theorem dR_step_592 : decode (am_by jR_step) 592 = .ok (.iload 5, 2) := by decide +kernel
theorem dR_step_594 : decode (am_by jR_step) 594 = .ok (.iadd, 1) := by decide +kernel
theorem dR_step_595 : decode (am_by jR_step) 595 = .ok (.dup2, 1) := by decide +kernel
theorem dR_step_596 : decode (am_by jR_step) 596 = .ok (.iaload, 1) := by decide +kernel
theorem dR_step_597 : decode (am_by jR_step) 597 = .ok (.iload 6, 2) := by decide +kernel
theorem dR_step_599 : decode (am_by jR_step) 599 = .ok (.iadd, 1) := by decide +kernel
theorem dR_step_600 : decode (am_by jR_step) 600 = .ok (.iastore, 1) := by decide +kernel
theorem dR_step_601 : decode (am_by jR_step) 601 = .ok (.goto 3, 3) := by decide +kernel
theorem dR_step_604 : decode (am_by jR_step) 604 = .ok (.aload_n 0, 1) := by decide +kernel
theorem dR_step_605 : decode (am_by jR_step) 605 = .ok (.getfield 77, 3) := by decide +kernel
theorem dR_step_608 : decode (am_by jR_step) 608 = .ok (.iload_n 1, 1) := by decide +kernel
theorem dR_step_609 : decode (am_by jR_step) 609 = .ok (.iload 7, 2) := by decide +kernel
theorem dR_step_611 : decode (am_by jR_step) 611 = .ok (.iastore, 1) := by decide +kernel
theorem dR_step_612 : decode (am_by jR_step) 612 = .ok (.return_, 1) := by decide +kernel
theorem dR_allRight_0 : decode (am_by jR_allRight) 0 = .ok (.iconst 0, 1) := by decide +kernel
theorem dR_allRight_1 : decode (am_by jR_allRight) 1 = .ok (.istore_n 2, 1) := by decide +kernel
theorem dR_allRight_2 : decode (am_by jR_allRight) 2 = .ok (.iload_n 2, 1) := by decide +kernel
theorem dR_allRight_3 : decode (am_by jR_allRight) 3 = .ok (.bipush 6, 2) := by decide +kernel
theorem dR_allRight_5 : decode (am_by jR_allRight) 5 = .ok (.if_icmp .ge 28, 3) := by decide +kernel
theorem dR_allRight_8 : decode (am_by jR_allRight) 8 = .ok (.aload_n 0, 1) := by decide +kernel
theorem dR_allRight_9 : decode (am_by jR_allRight) 9 = .ok (.getfield 62, 3) := by decide +kernel
theorem dR_allRight_12 : decode (am_by jR_allRight) 12 = .ok (.iload_n 2, 1) := by decide +kernel
theorem dR_allRight_13 : decode (am_by jR_allRight) 13 = .ok (.iload_n 2, 1) := by decide +kernel
theorem dR_allRight_14 : decode (am_by jR_allRight) 14 = .ok (.iload_n 1, 1) := by decide +kernel
theorem dR_allRight_15 : decode (am_by jR_allRight) 15 = .ok (.bipush 6, 2) := by decide +kernel
theorem dR_allRight_17 : decode (am_by jR_allRight) 17 = .ok (.irem, 1) := by decide +kernel
theorem dR_allRight_18 : decode (am_by jR_allRight) 18 = .ok (.if_icmp .ne 7, 3) := by decide +kernel
theorem dR_allRight_21 : decode (am_by jR_allRight) 21 = .ok (.iconst 1, 1) := by decide +kernel
theorem dR_allRight_22 : decode (am_by jR_allRight) 22 = .ok (.goto 4, 3) := by decide +kernel
theorem dR_allRight_25 : decode (am_by jR_allRight) 25 = .ok (.iconst 0, 1) := by decide +kernel
theorem dR_allRight_26 : decode (am_by jR_allRight) 26 = .ok (.bastore, 1) := by decide +kernel
theorem dR_allRight_27 : decode (am_by jR_allRight) 27 = .ok (.iinc 2 1, 3) := by decide +kernel
theorem dR_allRight_30 : decode (am_by jR_allRight) 30 = .ok (.goto (-28), 3) := by decide +kernel
theorem dR_allRight_33 : decode (am_by jR_allRight) 33 = .ok (.iconst 1, 1) := by decide +kernel
theorem dR_allRight_34 : decode (am_by jR_allRight) 34 = .ok (.istore_n 2, 1) := by decide +kernel
theorem dR_allRight_35 : decode (am_by jR_allRight) 35 = .ok (.iload_n 2, 1) := by decide +kernel
theorem dR_allRight_36 : decode (am_by jR_allRight) 36 = .ok (.ifCond .eq 126, 3) := by decide +kernel
theorem dR_allRight_39 : decode (am_by jR_allRight) 39 = .ok (.iconst 0, 1) := by decide +kernel
theorem dR_allRight_40 : decode (am_by jR_allRight) 40 = .ok (.istore_n 2, 1) := by decide +kernel
theorem dR_allRight_41 : decode (am_by jR_allRight) 41 = .ok (.iconst 0, 1) := by decide +kernel
theorem dR_allRight_42 : decode (am_by jR_allRight) 42 = .ok (.istore_n 3, 1) := by decide +kernel
theorem dR_allRight_43 : decode (am_by jR_allRight) 43 = .ok (.iload_n 3, 1) := by decide +kernel
theorem dR_allRight_44 : decode (am_by jR_allRight) 44 = .ok (.bipush 6, 2) := by decide +kernel
theorem dR_allRight_46 : decode (am_by jR_allRight) 46 = .ok (.if_icmp .ge 113, 3) := by decide +kernel
theorem dR_allRight_49 : decode (am_by jR_allRight) 49 = .ok (.iload_n 1, 1) := by decide +kernel
theorem dR_allRight_50 : decode (am_by jR_allRight) 50 = .ok (.bipush 6, 2) := by decide +kernel
theorem dR_allRight_52 : decode (am_by jR_allRight) 52 = .ok (.idiv, 1) := by decide +kernel
theorem dR_allRight_53 : decode (am_by jR_allRight) 53 = .ok (.bipush 6, 2) := by decide +kernel
theorem dR_allRight_55 : decode (am_by jR_allRight) 55 = .ok (.imul, 1) := by decide +kernel
theorem dR_allRight_56 : decode (am_by jR_allRight) 56 = .ok (.iload_n 3, 1) := by decide +kernel
theorem dR_allRight_57 : decode (am_by jR_allRight) 57 = .ok (.iadd, 1) := by decide +kernel
theorem dR_allRight_58 : decode (am_by jR_allRight) 58 = .ok (.istore 4, 2) := by decide +kernel
theorem dR_allRight_60 : decode (am_by jR_allRight) 60 = .ok (.iconst 0, 1) := by decide +kernel
theorem dR_allRight_61 : decode (am_by jR_allRight) 61 = .ok (.istore 5, 2) := by decide +kernel
theorem dR_allRight_63 : decode (am_by jR_allRight) 63 = .ok (.iload 5, 2) := by decide +kernel
theorem dR_allRight_65 : decode (am_by jR_allRight) 65 = .ok (.aload_n 0, 1) := by decide +kernel
theorem dR_allRight_66 : decode (am_by jR_allRight) 66 = .ok (.getfield 19, 3) := by decide +kernel
theorem dR_allRight_69 : decode (am_by jR_allRight) 69 = .ok (.iload 4, 2) := by decide +kernel
theorem dR_allRight_71 : decode (am_by jR_allRight) 71 = .ok (.iaload, 1) := by decide +kernel
theorem dR_allRight_72 : decode (am_by jR_allRight) 72 = .ok (.if_icmp .ge 81, 3) := by decide +kernel
theorem dR_allRight_75 : decode (am_by jR_allRight) 75 = .ok (.aload_n 0, 1) := by decide +kernel
theorem dR_allRight_76 : decode (am_by jR_allRight) 76 = .ok (.getfield 62, 3) := by decide +kernel
theorem dR_allRight_79 : decode (am_by jR_allRight) 79 = .ok (.iload_n 3, 1) := by decide +kernel
theorem dR_allRight_80 : decode (am_by jR_allRight) 80 = .ok (.baload, 1) := by decide +kernel
theorem dR_allRight_81 : decode (am_by jR_allRight) 81 = .ok (.ifCond .eq 72, 3) := by decide +kernel
theorem dR_allRight_84 : decode (am_by jR_allRight) 84 = .ok (.aload_n 0, 1) := by decide +kernel
theorem dR_allRight_85 : decode (am_by jR_allRight) 85 = .ok (.getfield 7, 3) := by decide +kernel
theorem dR_allRight_88 : decode (am_by jR_allRight) 88 = .ok (.bipush 60, 2) := by decide +kernel
theorem dR_allRight_90 : decode (am_by jR_allRight) 90 = .ok (.iload 4, 2) := by decide +kernel
theorem dR_allRight_92 : decode (am_by jR_allRight) 92 = .ok (.imul, 1) := by decide +kernel
theorem dR_allRight_93 : decode (am_by jR_allRight) 93 = .ok (.iload 5, 2) := by decide +kernel
theorem dR_allRight_95 : decode (am_by jR_allRight) 95 = .ok (.iadd, 1) := by decide +kernel
theorem dR_allRight_96 : decode (am_by jR_allRight) 96 = .ok (.iaload, 1) := by decide +kernel
theorem dR_allRight_97 : decode (am_by jR_allRight) 97 = .ok (.bipush 21, 2) := by decide +kernel
theorem dR_allRight_99 : decode (am_by jR_allRight) 99 = .ok (.if_icmp .ne 48, 3) := by decide +kernel
theorem dR_allRight_102 : decode (am_by jR_allRight) 102 = .ok (.aload_n 0, 1) := by decide +kernel
theorem dR_allRight_103 : decode (am_by jR_allRight) 103 = .ok (.getfield 62, 3) := by decide +kernel
theorem dR_allRight_106 : decode (am_by jR_allRight) 106 = .ok (.aload_n 0, 1) := by decide +kernel
theorem dR_allRight_107 : decode (am_by jR_allRight) 107 = .ok (.getfield 13, 3) := by decide +kernel
theorem dR_allRight_110 : decode (am_by jR_allRight) 110 = .ok (.bipush 60, 2) := by decide +kernel
theorem dR_allRight_112 : decode (am_by jR_allRight) 112 = .ok (.iload 4, 2) := by decide +kernel
theorem dR_allRight_114 : decode (am_by jR_allRight) 114 = .ok (.imul, 1) := by decide +kernel
theorem dR_allRight_115 : decode (am_by jR_allRight) 115 = .ok (.iload 5, 2) := by decide +kernel
theorem dR_allRight_117 : decode (am_by jR_allRight) 117 = .ok (.iadd, 1) := by decide +kernel
theorem dR_allRight_118 : decode (am_by jR_allRight) 118 = .ok (.iaload, 1) := by decide +kernel
theorem dR_allRight_119 : decode (am_by jR_allRight) 119 = .ok (.baload, 1) := by decide +kernel
theorem dR_allRight_120 : decode (am_by jR_allRight) 120 = .ok (.ifCond .eq 6, 3) := by decide +kernel
theorem dR_allRight_123 : decode (am_by jR_allRight) 123 = .ok (.goto 24, 3) := by decide +kernel
theorem dR_allRight_126 : decode (am_by jR_allRight) 126 = .ok (.aload_n 0, 1) := by decide +kernel
theorem dR_allRight_127 : decode (am_by jR_allRight) 127 = .ok (.getfield 62, 3) := by decide +kernel
theorem dR_allRight_130 : decode (am_by jR_allRight) 130 = .ok (.aload_n 0, 1) := by decide +kernel
theorem dR_allRight_131 : decode (am_by jR_allRight) 131 = .ok (.getfield 13, 3) := by decide +kernel
theorem dR_allRight_134 : decode (am_by jR_allRight) 134 = .ok (.bipush 60, 2) := by decide +kernel
theorem dR_allRight_136 : decode (am_by jR_allRight) 136 = .ok (.iload 4, 2) := by decide +kernel
theorem dR_allRight_138 : decode (am_by jR_allRight) 138 = .ok (.imul, 1) := by decide +kernel
theorem dR_allRight_139 : decode (am_by jR_allRight) 139 = .ok (.iload 5, 2) := by decide +kernel
theorem dR_allRight_141 : decode (am_by jR_allRight) 141 = .ok (.iadd, 1) := by decide +kernel
theorem dR_allRight_142 : decode (am_by jR_allRight) 142 = .ok (.iaload, 1) := by decide +kernel
theorem dR_allRight_143 : decode (am_by jR_allRight) 143 = .ok (.iconst 1, 1) := by decide +kernel
theorem dR_allRight_144 : decode (am_by jR_allRight) 144 = .ok (.bastore, 1) := by decide +kernel
theorem dR_allRight_145 : decode (am_by jR_allRight) 145 = .ok (.iconst 1, 1) := by decide +kernel
theorem dR_allRight_146 : decode (am_by jR_allRight) 146 = .ok (.istore_n 2, 1) := by decide +kernel
theorem dR_allRight_147 : decode (am_by jR_allRight) 147 = .ok (.iinc 5 1, 3) := by decide +kernel
theorem dR_allRight_150 : decode (am_by jR_allRight) 150 = .ok (.goto (-87), 3) := by decide +kernel
theorem dR_allRight_153 : decode (am_by jR_allRight) 153 = .ok (.iinc 3 1, 3) := by decide +kernel
theorem dR_allRight_156 : decode (am_by jR_allRight) 156 = .ok (.goto (-113), 3) := by decide +kernel
theorem dR_allRight_159 : decode (am_by jR_allRight) 159 = .ok (.goto (-124), 3) := by decide +kernel
theorem dR_allRight_162 : decode (am_by jR_allRight) 162 = .ok (.iconst 0, 1) := by decide +kernel
theorem dR_allRight_163 : decode (am_by jR_allRight) 163 = .ok (.istore_n 3, 1) := by decide +kernel
theorem dR_allRight_164 : decode (am_by jR_allRight) 164 = .ok (.iload_n 3, 1) := by decide +kernel
theorem dR_allRight_165 : decode (am_by jR_allRight) 165 = .ok (.bipush 6, 2) := by decide +kernel
theorem dR_allRight_167 : decode (am_by jR_allRight) 167 = .ok (.if_icmp .ge 48, 3) := by decide +kernel
theorem dR_allRight_170 : decode (am_by jR_allRight) 170 = .ok (.aload_n 0, 1) := by decide +kernel
theorem dR_allRight_171 : decode (am_by jR_allRight) 171 = .ok (.getfield 62, 3) := by decide +kernel
theorem dR_allRight_174 : decode (am_by jR_allRight) 174 = .ok (.iload_n 3, 1) := by decide +kernel
theorem dR_allRight_175 : decode (am_by jR_allRight) 175 = .ok (.baload, 1) := by decide +kernel
theorem dR_allRight_176 : decode (am_by jR_allRight) 176 = .ok (.ifCond .eq 19, 3) := by decide +kernel
theorem dR_allRight_179 : decode (am_by jR_allRight) 179 = .ok (.aload_n 0, 1) := by decide +kernel
theorem dR_allRight_180 : decode (am_by jR_allRight) 180 = .ok (.iload_n 1, 1) := by decide +kernel
theorem dR_allRight_181 : decode (am_by jR_allRight) 181 = .ok (.bipush 6, 2) := by decide +kernel
theorem dR_allRight_183 : decode (am_by jR_allRight) 183 = .ok (.idiv, 1) := by decide +kernel
theorem dR_allRight_184 : decode (am_by jR_allRight) 184 = .ok (.bipush 6, 2) := by decide +kernel
theorem dR_allRight_186 : decode (am_by jR_allRight) 186 = .ok (.imul, 1) := by decide +kernel
theorem dR_allRight_187 : decode (am_by jR_allRight) 187 = .ok (.iload_n 3, 1) := by decide +kernel
theorem dR_allRight_188 : decode (am_by jR_allRight) 188 = .ok (.iadd, 1) := by decide +kernel
theorem dR_allRight_189 : decode (am_by jR_allRight) 189 = .ok (.invokevirtual 188, 3) := by decide +kernel
theorem dR_allRight_192 : decode (am_by jR_allRight) 192 = .ok (.ifCond .eq 7, 3) := by decide +kernel
theorem dR_allRight_195 : decode (am_by jR_allRight) 195 = .ok (.iconst 1, 1) := by decide +kernel
theorem dR_allRight_196 : decode (am_by jR_allRight) 196 = .ok (.goto 4, 3) := by decide +kernel
theorem dR_allRight_199 : decode (am_by jR_allRight) 199 = .ok (.iconst 0, 1) := by decide +kernel
theorem dR_allRight_200 : decode (am_by jR_allRight) 200 = .ok (.istore 4, 2) := by decide +kernel
theorem dR_allRight_202 : decode (am_by jR_allRight) 202 = .ok (.iload 4, 2) := by decide +kernel
theorem dR_allRight_204 : decode (am_by jR_allRight) 204 = .ok (.ifCond .ne 5, 3) := by decide +kernel
theorem dR_allRight_207 : decode (am_by jR_allRight) 207 = .ok (.iconst 0, 1) := by decide +kernel
theorem dR_allRight_208 : decode (am_by jR_allRight) 208 = .ok (.ireturn, 1) := by decide +kernel
theorem dR_allRight_209 : decode (am_by jR_allRight) 209 = .ok (.iinc 3 1, 3) := by decide +kernel
theorem dR_allRight_212 : decode (am_by jR_allRight) 212 = .ok (.goto (-48), 3) := by decide +kernel
theorem dR_allRight_215 : decode (am_by jR_allRight) 215 = .ok (.iconst 1, 1) := by decide +kernel
theorem dR_allRight_216 : decode (am_by jR_allRight) 216 = .ok (.ireturn, 1) := by decide +kernel
theorem dR_go_0 : decode (am_by jR_go) 0 = .ok (.aload_n 0, 1) := by decide +kernel
theorem dR_go_1 : decode (am_by jR_go) 1 = .ok (.iconst 0, 1) := by decide +kernel
theorem dR_go_2 : decode (am_by jR_go) 2 = .ok (.putfield 194, 3) := by decide +kernel
theorem dR_go_5 : decode (am_by jR_go) 5 = .ok (.aload_n 0, 1) := by decide +kernel
theorem dR_go_6 : decode (am_by jR_go) 6 = .ok (.iconst 0, 1) := by decide +kernel
theorem dR_go_7 : decode (am_by jR_go) 7 = .ok (.putfield 203, 3) := by decide +kernel
theorem dR_go_10 : decode (am_by jR_go) 10 = .ok (.aload_n 0, 1) := by decide +kernel
theorem dR_go_11 : decode (am_by jR_go) 11 = .ok (.iconst 0, 1) := by decide +kernel
theorem dR_go_12 : decode (am_by jR_go) 12 = .ok (.putfield 200, 3) := by decide +kernel
theorem dR_go_15 : decode (am_by jR_go) 15 = .ok (.aload_n 0, 1) := by decide +kernel
theorem dR_go_16 : decode (am_by jR_go) 16 = .ok (.iconst 0, 1) := by decide +kernel
theorem dR_go_17 : decode (am_by jR_go) 17 = .ok (.putfield 206, 3) := by decide +kernel
theorem dR_go_20 : decode (am_by jR_go) 20 = .ok (.aload_n 0, 1) := by decide +kernel
theorem dR_go_21 : decode (am_by jR_go) 21 = .ok (.iconst 0, 1) := by decide +kernel
theorem dR_go_22 : decode (am_by jR_go) 22 = .ok (.putfield 264, 3) := by decide +kernel
theorem dR_go_25 : decode (am_by jR_go) 25 = .ok (.aload_n 0, 1) := by decide +kernel
theorem dR_go_26 : decode (am_by jR_go) 26 = .ok (.iconst 0, 1) := by decide +kernel
theorem dR_go_27 : decode (am_by jR_go) 27 = .ok (.putfield 191, 3) := by decide +kernel
theorem dR_go_30 : decode (am_by jR_go) 30 = .ok (.aload_n 0, 1) := by decide +kernel
theorem dR_go_31 : decode (am_by jR_go) 31 = .ok (.iconst 0, 1) := by decide +kernel
theorem dR_go_32 : decode (am_by jR_go) 32 = .ok (.putfield 216, 3) := by decide +kernel
theorem dR_go_35 : decode (am_by jR_go) 35 = .ok (.aload_n 0, 1) := by decide +kernel
theorem dR_go_36 : decode (am_by jR_go) 36 = .ok (.iconst 0, 1) := by decide +kernel
theorem dR_go_37 : decode (am_by jR_go) 37 = .ok (.putfield 241, 3) := by decide +kernel
theorem dR_go_40 : decode (am_by jR_go) 40 = .ok (.aload_n 0, 1) := by decide +kernel
theorem dR_go_41 : decode (am_by jR_go) 41 = .ok (.iconst 0, 1) := by decide +kernel
theorem dR_go_42 : decode (am_by jR_go) 42 = .ok (.putfield 222, 3) := by decide +kernel
theorem dR_go_45 : decode (am_by jR_go) 45 = .ok (.aload_n 0, 1) := by decide +kernel
theorem dR_go_46 : decode (am_by jR_go) 46 = .ok (.getfield 89, 3) := by decide +kernel
theorem dR_go_49 : decode (am_by jR_go) 49 = .ok (.iconst 0, 1) := by decide +kernel
theorem dR_go_50 : decode (am_by jR_go) 50 = .ok (.iload_n 3, 1) := by decide +kernel
theorem dR_go_51 : decode (am_by jR_go) 51 = .ok (.iastore, 1) := by decide +kernel
theorem dR_go_52 : decode (am_by jR_go) 52 = .ok (.aload_n 0, 1) := by decide +kernel
theorem dR_go_53 : decode (am_by jR_go) 53 = .ok (.getfield 89, 3) := by decide +kernel
theorem dR_go_56 : decode (am_by jR_go) 56 = .ok (.iconst 1, 1) := by decide +kernel
theorem dR_go_57 : decode (am_by jR_go) 57 = .ok (.iload 4, 2) := by decide +kernel
theorem dR_go_59 : decode (am_by jR_go) 59 = .ok (.iastore, 1) := by decide +kernel
theorem dR_go_60 : decode (am_by jR_go) 60 = .ok (.aload_n 0, 1) := by decide +kernel
theorem dR_go_61 : decode (am_by jR_go) 61 = .ok (.getfield 89, 3) := by decide +kernel
theorem dR_go_64 : decode (am_by jR_go) 64 = .ok (.iconst 2, 1) := by decide +kernel
theorem dR_go_65 : decode (am_by jR_go) 65 = .ok (.iload 5, 2) := by decide +kernel
theorem dR_go_67 : decode (am_by jR_go) 67 = .ok (.iastore, 1) := by decide +kernel
theorem dR_go_68 : decode (am_by jR_go) 68 = .ok (.aload_n 0, 1) := by decide +kernel
theorem dR_go_69 : decode (am_by jR_go) 69 = .ok (.iload_n 1, 1) := by decide +kernel
theorem dR_go_70 : decode (am_by jR_go) 70 = .ok (.invokevirtual 238, 3) := by decide +kernel
theorem dR_go_73 : decode (am_by jR_go) 73 = .ok (.aload_n 0, 1) := by decide +kernel
theorem dR_go_74 : decode (am_by jR_go) 74 = .ok (.getfield 222, 3) := by decide +kernel
theorem dR_go_77 : decode (am_by jR_go) 77 = .ok (.ifCond .ne 31, 3) := by decide +kernel
theorem dR_go_80 : decode (am_by jR_go) 80 = .ok (.aload_n 0, 1) := by decide +kernel
theorem dR_go_81 : decode (am_by jR_go) 81 = .ok (.getfield 264, 3) := by decide +kernel
theorem dR_go_84 : decode (am_by jR_go) 84 = .ok (.iload_n 2, 1) := by decide +kernel
theorem dR_go_85 : decode (am_by jR_go) 85 = .ok (.if_icmp .ne 6, 3) := by decide +kernel
theorem dR_go_88 : decode (am_by jR_go) 88 = .ok (.bipush (-5), 2) := by decide +kernel
theorem dR_go_90 : decode (am_by jR_go) 90 = .ok (.ireturn, 1) := by decide +kernel
theorem dR_go_91 : decode (am_by jR_go) 91 = .ok (.aload_n 0, 1) := by decide +kernel
theorem dR_go_92 : decode (am_by jR_go) 92 = .ok (.dup, 1) := by decide +kernel
theorem dR_go_93 : decode (am_by jR_go) 93 = .ok (.getfield 264, 3) := by decide +kernel
theorem dR_go_96 : decode (am_by jR_go) 96 = .ok (.iconst 1, 1) := by decide +kernel
theorem dR_go_97 : decode (am_by jR_go) 97 = .ok (.iadd, 1) := by decide +kernel
theorem dR_go_98 : decode (am_by jR_go) 98 = .ok (.putfield 264, 3) := by decide +kernel
theorem dR_go_101 : decode (am_by jR_go) 101 = .ok (.aload_n 0, 1) := by decide +kernel
theorem dR_go_102 : decode (am_by jR_go) 102 = .ok (.invokevirtual 267, 3) := by decide +kernel
theorem dR_go_105 : decode (am_by jR_go) 105 = .ok (.goto (-32), 3) := by decide +kernel
theorem dR_go_108 : decode (am_by jR_go) 108 = .ok (.aload_n 0, 1) := by decide +kernel
theorem dR_go_109 : decode (am_by jR_go) 109 = .ok (.getfield 225, 3) := by decide +kernel
theorem dR_go_112 : decode (am_by jR_go) 112 = .ok (.ireturn, 1) := by decide +kernel
theorem dR_run_0 : decode (am_by jR_run) 0 = .ok (.iload_n 1, 1) := by decide +kernel
theorem dR_run_1 : decode (am_by jR_run) 1 = .ok (.iconst 0, 1) := by decide +kernel
theorem dR_run_2 : decode (am_by jR_run) 2 = .ok (.iconst 1, 1) := by decide +kernel
theorem dR_run_3 : decode (am_by jR_run) 3 = .ok (.invokestatic 123, 3) := by decide +kernel
theorem dR_run_6 : decode (am_by jR_run) 6 = .ok (.ifCond .eq 23, 3) := by decide +kernel
theorem dR_run_9 : decode (am_by jR_run) 9 = .ok (.iload_n 2, 1) := by decide +kernel
theorem dR_run_10 : decode (am_by jR_run) 10 = .ok (.iconst 0, 1) := by decide +kernel
theorem dR_run_11 : decode (am_by jR_run) 11 = .ok (.iconst 5, 1) := by decide +kernel
theorem dR_run_12 : decode (am_by jR_run) 12 = .ok (.invokestatic 123, 3) := by decide +kernel
theorem dR_run_15 : decode (am_by jR_run) 15 = .ok (.ifCond .eq 14, 3) := by decide +kernel
theorem dR_run_18 : decode (am_by jR_run) 18 = .ok (.iload_n 3, 1) := by decide +kernel
theorem dR_run_19 : decode (am_by jR_run) 19 = .ok (.iconst 0, 1) := by decide +kernel
theorem dR_run_20 : decode (am_by jR_run) 20 = .ok (.sipush 1000, 3) := by decide +kernel
theorem dR_run_23 : decode (am_by jR_run) 23 = .ok (.invokestatic 123, 3) := by decide +kernel
theorem dR_run_26 : decode (am_by jR_run) 26 = .ok (.ifCond .ne 5, 3) := by decide +kernel
theorem dR_run_29 : decode (am_by jR_run) 29 = .ok (.iconst (-1), 1) := by decide +kernel
theorem dR_run_30 : decode (am_by jR_run) 30 = .ok (.ireturn, 1) := by decide +kernel
theorem dR_run_31 : decode (am_by jR_run) 31 = .ok (.aload_n 0, 1) := by decide +kernel
theorem dR_run_32 : decode (am_by jR_run) 32 = .ok (.bipush 6, 2) := by decide +kernel
theorem dR_run_34 : decode (am_by jR_run) 34 = .ok (.iload_n 1, 1) := by decide +kernel
theorem dR_run_35 : decode (am_by jR_run) 35 = .ok (.imul, 1) := by decide +kernel
theorem dR_run_36 : decode (am_by jR_run) 36 = .ok (.iload_n 2, 1) := by decide +kernel
theorem dR_run_37 : decode (am_by jR_run) 37 = .ok (.iadd, 1) := by decide +kernel
