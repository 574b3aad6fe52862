theorem dR_greatest_87 : decode (am_by jR_greatest) 87 = .ok (.iload 6, 2) := by decide +kernel
theorem dR_greatest_89 : decode (am_by jR_greatest) 89 = .ok (.istore_n 3, 1) := by decide +kernel
theorem dR_greatest_90 : decode (am_by jR_greatest) 90 = .ok (.iinc 4 1, 3) := by decide +kernel
theorem dR_greatest_93 : decode (am_by jR_greatest) 93 = .ok (.goto (-81), 3) := by decide +kernel
theorem dR_greatest_96 : decode (am_by jR_greatest) 96 = .ok (.iload_n 3, 1) := by decide +kernel
theorem dR_greatest_97 : decode (am_by jR_greatest) 97 = .ok (.ireturn, 1) := by decide +kernel
theorem dR_mayInline_0 : decode (am_by jR_mayInline) 0 = .ok (.aload_n 0, 1) := by decide +kernel
theorem dR_mayInline_1 : decode (am_by jR_mayInline) 1 = .ok (.iload_n 2, 1) := by decide +kernel
theorem dR_mayInline_2 : decode (am_by jR_mayInline) 2 = .ok (.iconst 0, 1) := by decide +kernel
theorem dR_mayInline_3 : decode (am_by jR_mayInline) 3 = .ok (.invokevirtual 298, 3) := by decide +kernel
theorem dR_mayInline_6 : decode (am_by jR_mayInline) 6 = .ok (.istore 5, 2) := by decide +kernel
theorem dR_mayInline_8 : decode (am_by jR_mayInline) 8 = .ok (.iload_n 2, 1) := by decide +kernel
theorem dR_mayInline_9 : decode (am_by jR_mayInline) 9 = .ok (.iload_n 1, 1) := by decide +kernel
theorem dR_mayInline_10 : decode (am_by jR_mayInline) 10 = .ok (.if_icmp .eq 22, 3) := by decide +kernel
theorem dR_mayInline_13 : decode (am_by jR_mayInline) 13 = .ok (.aload_n 0, 1) := by decide +kernel
theorem dR_mayInline_14 : decode (am_by jR_mayInline) 14 = .ok (.getfield 40, 3) := by decide +kernel
theorem dR_mayInline_17 : decode (am_by jR_mayInline) 17 = .ok (.iload_n 2, 1) := by decide +kernel
theorem dR_mayInline_18 : decode (am_by jR_mayInline) 18 = .ok (.baload, 1) := by decide +kernel
theorem dR_mayInline_19 : decode (am_by jR_mayInline) 19 = .ok (.ifCond .ne 13, 3) := by decide +kernel
theorem dR_mayInline_22 : decode (am_by jR_mayInline) 22 = .ok (.iload 4, 2) := by decide +kernel
theorem dR_mayInline_24 : decode (am_by jR_mayInline) 24 = .ok (.iload 5, 2) := by decide +kernel
theorem dR_mayInline_26 : decode (am_by jR_mayInline) 26 = .ok (.iadd, 1) := by decide +kernel
theorem dR_mayInline_27 : decode (am_by jR_mayInline) 27 = .ok (.bipush 7, 2) := by decide +kernel
theorem dR_mayInline_29 : decode (am_by jR_mayInline) 29 = .ok (.if_icmp .le 5, 3) := by decide +kernel
theorem dR_mayInline_32 : decode (am_by jR_mayInline) 32 = .ok (.iconst 0, 1) := by decide +kernel
theorem dR_mayInline_33 : decode (am_by jR_mayInline) 33 = .ok (.ireturn, 1) := by decide +kernel
theorem dR_mayInline_34 : decode (am_by jR_mayInline) 34 = .ok (.iconst 0, 1) := by decide +kernel
theorem dR_mayInline_35 : decode (am_by jR_mayInline) 35 = .ok (.istore 6, 2) := by decide +kernel
theorem dR_mayInline_37 : decode (am_by jR_mayInline) 37 = .ok (.iload 6, 2) := by decide +kernel
theorem dR_mayInline_39 : decode (am_by jR_mayInline) 39 = .ok (.aload_n 0, 1) := by decide +kernel
theorem dR_mayInline_40 : decode (am_by jR_mayInline) 40 = .ok (.getfield 19, 3) := by decide +kernel
theorem dR_mayInline_43 : decode (am_by jR_mayInline) 43 = .ok (.iload_n 2, 1) := by decide +kernel
theorem dR_mayInline_44 : decode (am_by jR_mayInline) 44 = .ok (.iaload, 1) := by decide +kernel
theorem dR_mayInline_45 : decode (am_by jR_mayInline) 45 = .ok (.if_icmp .ge 53, 3) := by decide +kernel
theorem dR_mayInline_48 : decode (am_by jR_mayInline) 48 = .ok (.aload_n 0, 1) := by decide +kernel
theorem dR_mayInline_49 : decode (am_by jR_mayInline) 49 = .ok (.getfield 7, 3) := by decide +kernel
theorem dR_mayInline_52 : decode (am_by jR_mayInline) 52 = .ok (.bipush 60, 2) := by decide +kernel
theorem dR_mayInline_54 : decode (am_by jR_mayInline) 54 = .ok (.iload_n 2, 1) := by decide +kernel
theorem dR_mayInline_55 : decode (am_by jR_mayInline) 55 = .ok (.imul, 1) := by decide +kernel
theorem dR_mayInline_56 : decode (am_by jR_mayInline) 56 = .ok (.iload 6, 2) := by decide +kernel
theorem dR_mayInline_58 : decode (am_by jR_mayInline) 58 = .ok (.iadd, 1) := by decide +kernel
theorem dR_mayInline_59 : decode (am_by jR_mayInline) 59 = .ok (.iaload, 1) := by decide +kernel
theorem dR_mayInline_60 : decode (am_by jR_mayInline) 60 = .ok (.istore 7, 2) := by decide +kernel
theorem dR_mayInline_62 : decode (am_by jR_mayInline) 62 = .ok (.iload 7, 2) := by decide +kernel
theorem dR_mayInline_64 : decode (am_by jR_mayInline) 64 = .ok (.bipush 18, 2) := by decide +kernel
theorem dR_mayInline_66 : decode (am_by jR_mayInline) 66 = .ok (.if_icmp .eq 24, 3) := by decide +kernel
theorem dR_mayInline_69 : decode (am_by jR_mayInline) 69 = .ok (.iload 7, 2) := by decide +kernel
theorem dR_mayInline_71 : decode (am_by jR_mayInline) 71 = .ok (.bipush 19, 2) := by decide +kernel
theorem dR_mayInline_73 : decode (am_by jR_mayInline) 73 = .ok (.if_icmp .eq 17, 3) := by decide +kernel
theorem dR_mayInline_76 : decode (am_by jR_mayInline) 76 = .ok (.iload 7, 2) := by decide +kernel
theorem dR_mayInline_78 : decode (am_by jR_mayInline) 78 = .ok (.bipush 23, 2) := by decide +kernel
theorem dR_mayInline_80 : decode (am_by jR_mayInline) 80 = .ok (.if_icmp .eq 10, 3) := by decide +kernel
theorem dR_mayInline_83 : decode (am_by jR_mayInline) 83 = .ok (.iload 7, 2) := by decide +kernel
theorem dR_mayInline_85 : decode (am_by jR_mayInline) 85 = .ok (.bipush 24, 2) := by decide +kernel
theorem dR_mayInline_87 : decode (am_by jR_mayInline) 87 = .ok (.if_icmp .ne 5, 3) := by decide +kernel
theorem dR_mayInline_90 : decode (am_by jR_mayInline) 90 = .ok (.iconst 0, 1) := by decide +kernel
theorem dR_mayInline_91 : decode (am_by jR_mayInline) 91 = .ok (.ireturn, 1) := by decide +kernel
theorem dR_mayInline_92 : decode (am_by jR_mayInline) 92 = .ok (.iinc 6 1, 3) := by decide +kernel
theorem dR_mayInline_95 : decode (am_by jR_mayInline) 95 = .ok (.goto (-58), 3) := by decide +kernel
theorem dR_mayInline_98 : decode (am_by jR_mayInline) 98 = .ok (.aload_n 0, 1) := by decide +kernel
theorem dR_mayInline_99 : decode (am_by jR_mayInline) 99 = .ok (.iload_n 1, 1) := by decide +kernel
theorem dR_mayInline_100 : decode (am_by jR_mayInline) 100 = .ok (.invokevirtual 188, 3) := by decide +kernel
theorem dR_mayInline_103 : decode (am_by jR_mayInline) 103 = .ok (.pop, 1) := by decide +kernel
theorem dR_mayInline_104 : decode (am_by jR_mayInline) 104 = .ok (.aload_n 0, 1) := by decide +kernel
theorem dR_mayInline_105 : decode (am_by jR_mayInline) 105 = .ok (.getfield 44, 3) := by decide +kernel
theorem dR_mayInline_108 : decode (am_by jR_mayInline) 108 = .ok (.iload_n 3, 1) := by decide +kernel
theorem dR_mayInline_109 : decode (am_by jR_mayInline) 109 = .ok (.baload, 1) := by decide +kernel
theorem dR_mayInline_110 : decode (am_by jR_mayInline) 110 = .ok (.ifCond .eq 18, 3) := by decide +kernel
theorem dR_mayInline_113 : decode (am_by jR_mayInline) 113 = .ok (.aload_n 0, 1) := by decide +kernel
theorem dR_mayInline_114 : decode (am_by jR_mayInline) 114 = .ok (.getfield 47, 3) := by decide +kernel
theorem dR_mayInline_117 : decode (am_by jR_mayInline) 117 = .ok (.iload_n 3, 1) := by decide +kernel
theorem dR_mayInline_118 : decode (am_by jR_mayInline) 118 = .ok (.iaload, 1) := by decide +kernel
theorem dR_mayInline_119 : decode (am_by jR_mayInline) 119 = .ok (.aload_n 0, 1) := by decide +kernel
theorem dR_mayInline_120 : decode (am_by jR_mayInline) 120 = .ok (.getfield 22, 3) := by decide +kernel
theorem dR_mayInline_123 : decode (am_by jR_mayInline) 123 = .ok (.iload_n 2, 1) := by decide +kernel
theorem dR_mayInline_124 : decode (am_by jR_mayInline) 124 = .ok (.iaload, 1) := by decide +kernel
theorem dR_mayInline_125 : decode (am_by jR_mayInline) 125 = .ok (.if_icmp .eq 5, 3) := by decide +kernel
theorem dR_mayInline_128 : decode (am_by jR_mayInline) 128 = .ok (.iconst 0, 1) := by decide +kernel
theorem dR_mayInline_129 : decode (am_by jR_mayInline) 129 = .ok (.ireturn, 1) := by decide +kernel
theorem dR_mayInline_130 : decode (am_by jR_mayInline) 130 = .ok (.aload_n 0, 1) := by decide +kernel
theorem dR_mayInline_131 : decode (am_by jR_mayInline) 131 = .ok (.iload_n 2, 1) := by decide +kernel
theorem dR_mayInline_132 : decode (am_by jR_mayInline) 132 = .ok (.invokevirtual 188, 3) := by decide +kernel
theorem dR_mayInline_135 : decode (am_by jR_mayInline) 135 = .ok (.pop, 1) := by decide +kernel
theorem dR_mayInline_136 : decode (am_by jR_mayInline) 136 = .ok (.iconst 0, 1) := by decide +kernel
theorem dR_mayInline_137 : decode (am_by jR_mayInline) 137 = .ok (.istore 6, 2) := by decide +kernel
theorem dR_mayInline_139 : decode (am_by jR_mayInline) 139 = .ok (.iload 6, 2) := by decide +kernel
theorem dR_mayInline_141 : decode (am_by jR_mayInline) 141 = .ok (.aload_n 0, 1) := by decide +kernel
theorem dR_mayInline_142 : decode (am_by jR_mayInline) 142 = .ok (.getfield 19, 3) := by decide +kernel
theorem dR_mayInline_145 : decode (am_by jR_mayInline) 145 = .ok (.iload_n 2, 1) := by decide +kernel
theorem dR_mayInline_146 : decode (am_by jR_mayInline) 146 = .ok (.iaload, 1) := by decide +kernel
theorem dR_mayInline_147 : decode (am_by jR_mayInline) 147 = .ok (.if_icmp .ge 49, 3) := by decide +kernel
theorem dR_mayInline_150 : decode (am_by jR_mayInline) 150 = .ok (.aload_n 0, 1) := by decide +kernel
theorem dR_mayInline_151 : decode (am_by jR_mayInline) 151 = .ok (.getfield 44, 3) := by decide +kernel
theorem dR_mayInline_154 : decode (am_by jR_mayInline) 154 = .ok (.iload 6, 2) := by decide +kernel
theorem dR_mayInline_156 : decode (am_by jR_mayInline) 156 = .ok (.baload, 1) := by decide +kernel
theorem dR_mayInline_157 : decode (am_by jR_mayInline) 157 = .ok (.ifCond .eq 33, 3) := by decide +kernel
theorem dR_mayInline_160 : decode (am_by jR_mayInline) 160 = .ok (.aload_n 0, 1) := by decide +kernel
theorem dR_mayInline_161 : decode (am_by jR_mayInline) 161 = .ok (.getfield 7, 3) := by decide +kernel
theorem dR_mayInline_164 : decode (am_by jR_mayInline) 164 = .ok (.bipush 60, 2) := by decide +kernel
theorem dR_mayInline_166 : decode (am_by jR_mayInline) 166 = .ok (.iload_n 2, 1) := by decide +kernel
theorem dR_mayInline_167 : decode (am_by jR_mayInline) 167 = .ok (.imul, 1) := by decide +kernel
theorem dR_mayInline_168 : decode (am_by jR_mayInline) 168 = .ok (.iload 6, 2) := by decide +kernel
theorem dR_mayInline_170 : decode (am_by jR_mayInline) 170 = .ok (.iadd, 1) := by decide +kernel
theorem dR_mayInline_171 : decode (am_by jR_mayInline) 171 = .ok (.iaload, 1) := by decide +kernel
theorem dR_mayInline_172 : decode (am_by jR_mayInline) 172 = .ok (.bipush 22, 2) := by decide +kernel
theorem dR_mayInline_174 : decode (am_by jR_mayInline) 174 = .ok (.if_icmp .ne 16, 3) := by decide +kernel
theorem dR_mayInline_177 : decode (am_by jR_mayInline) 177 = .ok (.aload_n 0, 1) := by decide +kernel
theorem dR_mayInline_178 : decode (am_by jR_mayInline) 178 = .ok (.getfield 47, 3) := by decide +kernel
theorem dR_mayInline_181 : decode (am_by jR_mayInline) 181 = .ok (.iload 6, 2) := by decide +kernel
theorem dR_mayInline_183 : decode (am_by jR_mayInline) 183 = .ok (.iaload, 1) := by decide +kernel
theorem dR_mayInline_184 : decode (am_by jR_mayInline) 184 = .ok (.iconst 1, 1) := by decide +kernel
theorem dR_mayInline_185 : decode (am_by jR_mayInline) 185 = .ok (.if_icmp .eq 5, 3) := by decide +kernel
theorem dR_mayInline_188 : decode (am_by jR_mayInline) 188 = .ok (.iconst 0, 1) := by decide +kernel
theorem dR_mayInline_189 : decode (am_by jR_mayInline) 189 = .ok (.ireturn, 1) := by decide +kernel
theorem dR_mayInline_190 : decode (am_by jR_mayInline) 190 = .ok (.iinc 6 1, 3) := by decide +kernel
theorem dR_mayInline_193 : decode (am_by jR_mayInline) 193 = .ok (.goto (-54), 3) := by decide +kernel
theorem dR_mayInline_196 : decode (am_by jR_mayInline) 196 = .ok (.iconst 1, 1) := by decide +kernel
theorem dR_mayInline_197 : decode (am_by jR_mayInline) 197 = .ok (.ireturn, 1) := by decide +kernel
theorem dR_inline_0 : decode (am_by jR_inline) 0 = .ok (.iload_n 1, 1) := by decide +kernel
theorem dR_inline_1 : decode (am_by jR_inline) 1 = .ok (.iconst 0, 1) := by decide +kernel
theorem dR_inline_2 : decode (am_by jR_inline) 2 = .ok (.iconst 5, 1) := by decide +kernel
theorem dR_inline_3 : decode (am_by jR_inline) 3 = .ok (.invokestatic 123, 3) := by decide +kernel
theorem dR_inline_6 : decode (am_by jR_inline) 6 = .ok (.ifCond .ne 5, 3) := by decide +kernel
theorem dR_inline_9 : decode (am_by jR_inline) 9 = .ok (.iconst (-1), 1) := by decide +kernel
theorem dR_inline_10 : decode (am_by jR_inline) 10 = .ok (.ireturn, 1) := by decide +kernel
theorem dR_inline_11 : decode (am_by jR_inline) 11 = .ok (.aload_n 0, 1) := by decide +kernel
theorem dR_inline_12 : decode (am_by jR_inline) 12 = .ok (.iload_n 1, 1) := by decide +kernel
theorem dR_inline_13 : decode (am_by jR_inline) 13 = .ok (.invokevirtual 135, 3) := by decide +kernel
theorem dR_inline_16 : decode (am_by jR_inline) 16 = .ok (.istore_n 3, 1) := by decide +kernel
theorem dR_inline_17 : decode (am_by jR_inline) 17 = .ok (.aload_n 0, 1) := by decide +kernel
theorem dR_inline_18 : decode (am_by jR_inline) 18 = .ok (.iload_n 3, 1) := by decide +kernel
theorem dR_inline_19 : decode (am_by jR_inline) 19 = .ok (.invokevirtual 188, 3) := by decide +kernel
theorem dR_inline_22 : decode (am_by jR_inline) 22 = .ok (.istore 4, 2) := by decide +kernel
theorem dR_inline_24 : decode (am_by jR_inline) 24 = .ok (.iload 4, 2) := by decide +kernel
theorem dR_inline_26 : decode (am_by jR_inline) 26 = .ok (.ifCond .ne 6, 3) := by decide +kernel
theorem dR_inline_29 : decode (am_by jR_inline) 29 = .ok (.bipush (-4), 2) := by decide +kernel
theorem dR_inline_31 : decode (am_by jR_inline) 31 = .ok (.ireturn, 1) := by decide +kernel
theorem dR_inline_32 : decode (am_by jR_inline) 32 = .ok (.iload_n 2, 1) := by decide +kernel
theorem dR_inline_33 : decode (am_by jR_inline) 33 = .ok (.iconst 0, 1) := by decide +kernel
theorem dR_inline_34 : decode (am_by jR_inline) 34 = .ok (.aload_n 0, 1) := by decide +kernel
theorem dR_inline_35 : decode (am_by jR_inline) 35 = .ok (.getfield 19, 3) := by decide +kernel
theorem dR_inline_38 : decode (am_by jR_inline) 38 = .ok (.iload_n 3, 1) := by decide +kernel
theorem dR_inline_39 : decode (am_by jR_inline) 39 = .ok (.iaload, 1) := by decide +kernel
theorem dR_inline_40 : decode (am_by jR_inline) 40 = .ok (.iconst 1, 1) := by decide +kernel
theorem dR_inline_41 : decode (am_by jR_inline) 41 = .ok (.isub, 1) := by decide +kernel
theorem dR_inline_42 : decode (am_by jR_inline) 42 = .ok (.invokestatic 123, 3) := by decide +kernel
theorem dR_inline_45 : decode (am_by jR_inline) 45 = .ok (.ifCond .eq 19, 3) := by decide +kernel
theorem dR_inline_48 : decode (am_by jR_inline) 48 = .ok (.aload_n 0, 1) := by decide +kernel
theorem dR_inline_49 : decode (am_by jR_inline) 49 = .ok (.getfield 7, 3) := by decide +kernel
theorem dR_inline_52 : decode (am_by jR_inline) 52 = .ok (.bipush 60, 2) := by decide +kernel
theorem dR_inline_54 : decode (am_by jR_inline) 54 = .ok (.iload_n 3, 1) := by decide +kernel
theorem dR_inline_55 : decode (am_by jR_inline) 55 = .ok (.imul, 1) := by decide +kernel
theorem dR_inline_56 : decode (am_by jR_inline) 56 = .ok (.iload_n 2, 1) := by decide +kernel
theorem dR_inline_57 : decode (am_by jR_inline) 57 = .ok (.iadd, 1) := by decide +kernel
theorem dR_inline_58 : decode (am_by jR_inline) 58 = .ok (.iaload, 1) := by decide +kernel
theorem dR_inline_59 : decode (am_by jR_inline) 59 = .ok (.bipush 21, 2) := by decide +kernel
theorem dR_inline_61 : decode (am_by jR_inline) 61 = .ok (.if_icmp .eq 6, 3) := by decide +kernel
theorem dR_inline_64 : decode (am_by jR_inline) 64 = .ok (.bipush (-2), 2) := by decide +kernel
theorem dR_inline_66 : decode (am_by jR_inline) 66 = .ok (.ireturn, 1) := by decide +kernel
theorem dR_inline_67 : decode (am_by jR_inline) 67 = .ok (.aload_n 0, 1) := by decide +kernel
theorem dR_inline_68 : decode (am_by jR_inline) 68 = .ok (.aload_n 0, 1) := by decide +kernel
theorem dR_inline_69 : decode (am_by jR_inline) 69 = .ok (.getfield 13, 3) := by decide +kernel
theorem dR_inline_72 : decode (am_by jR_inline) 72 = .ok (.bipush 60, 2) := by decide +kernel
theorem dR_inline_74 : decode (am_by jR_inline) 74 = .ok (.iload_n 3, 1) := by decide +kernel
theorem dR_inline_75 : decode (am_by jR_inline) 75 = .ok (.imul, 1) := by decide +kernel
theorem dR_inline_76 : decode (am_by jR_inline) 76 = .ok (.iload_n 2, 1) := by decide +kernel
theorem dR_inline_77 : decode (am_by jR_inline) 77 = .ok (.iadd, 1) := by decide +kernel
theorem dR_inline_78 : decode (am_by jR_inline) 78 = .ok (.iaload, 1) := by decide +kernel
theorem dR_inline_79 : decode (am_by jR_inline) 79 = .ok (.invokevirtual 135, 3) := by decide +kernel
theorem dR_inline_82 : decode (am_by jR_inline) 82 = .ok (.istore 5, 2) := by decide +kernel
theorem dR_inline_84 : decode (am_by jR_inline) 84 = .ok (.aload_n 0, 1) := by decide +kernel
theorem dR_inline_85 : decode (am_by jR_inline) 85 = .ok (.iload_n 3, 1) := by decide +kernel
theorem dR_inline_86 : decode (am_by jR_inline) 86 = .ok (.iconst 1, 1) := by decide +kernel
theorem dR_inline_87 : decode (am_by jR_inline) 87 = .ok (.invokevirtual 298, 3) := by decide +kernel
theorem dR_inline_90 : decode (am_by jR_inline) 90 = .ok (.iconst 1, 1) := by decide +kernel
theorem dR_inline_91 : decode (am_by jR_inline) 91 = .ok (.iadd, 1) := by decide +kernel
theorem dR_inline_92 : decode (am_by jR_inline) 92 = .ok (.istore 6, 2) := by decide +kernel
theorem dR_inline_94 : decode (am_by jR_inline) 94 = .ok (.aload_n 0, 1) := by decide +kernel
theorem dR_inline_95 : decode (am_by jR_inline) 95 = .ok (.getfield 22, 3) := by decide +kernel
theorem dR_inline_98 : decode (am_by jR_inline) 98 = .ok (.iload 5, 2) := by decide +kernel
theorem dR_inline_100 : decode (am_by jR_inline) 100 = .ok (.iaload, 1) := by decide +kernel
theorem dR_inline_101 : decode (am_by jR_inline) 101 = .ok (.aload_n 0, 1) := by decide +kernel
theorem dR_inline_102 : decode (am_by jR_inline) 102 = .ok (.getfield 19, 3) := by decide +kernel
theorem dR_inline_105 : decode (am_by jR_inline) 105 = .ok (.iload 5, 2) := by decide +kernel
theorem dR_inline_107 : decode (am_by jR_inline) 107 = .ok (.iaload, 1) := by decide +kernel
theorem dR_inline_108 : decode (am_by jR_inline) 108 = .ok (.iadd, 1) := by decide +kernel
theorem dR_inline_109 : decode (am_by jR_inline) 109 = .ok (.istore 7, 2) := by decide +kernel
theorem dR_inline_111 : decode (am_by jR_inline) 111 = .ok (.iload_n 2, 1) := by decide +kernel
theorem dR_inline_112 : decode (am_by jR_inline) 112 = .ok (.aload_n 0, 1) := by decide +kernel
theorem dR_inline_113 : decode (am_by jR_inline) 113 = .ok (.getfield 22, 3) := by decide +kernel
theorem dR_inline_116 : decode (am_by jR_inline) 116 = .ok (.iload 5, 2) := by decide +kernel
theorem dR_inline_118 : decode (am_by jR_inline) 118 = .ok (.iaload, 1) := by decide +kernel
theorem dR_inline_119 : decode (am_by jR_inline) 119 = .ok (.iadd, 1) := by decide +kernel
theorem dR_inline_120 : decode (am_by jR_inline) 120 = .ok (.istore 8, 2) := by decide +kernel
theorem dR_inline_122 : decode (am_by jR_inline) 122 = .ok (.aload_n 0, 1) := by decide +kernel
theorem dR_inline_123 : decode (am_by jR_inline) 123 = .ok (.iload 5, 2) := by decide +kernel
theorem dR_inline_125 : decode (am_by jR_inline) 125 = .ok (.invokevirtual 188, 3) := by decide +kernel
theorem dR_inline_128 : decode (am_by jR_inline) 128 = .ok (.istore 4, 2) := by decide +kernel
theorem dR_inline_130 : decode (am_by jR_inline) 130 = .ok (.iload 4, 2) := by decide +kernel
theorem dR_inline_132 : decode (am_by jR_inline) 132 = .ok (.ifCond .ne 6, 3) := by decide +kernel
theorem dR_inline_135 : decode (am_by jR_inline) 135 = .ok (.bipush (-4), 2) := by decide +kernel
theorem dR_inline_137 : decode (am_by jR_inline) 137 = .ok (.ireturn, 1) := by decide +kernel
theorem dR_inline_138 : decode (am_by jR_inline) 138 = .ok (.aload_n 0, 1) := by decide +kernel
theorem dR_inline_139 : decode (am_by jR_inline) 139 = .ok (.iload_n 3, 1) := by decide +kernel
theorem dR_inline_140 : decode (am_by jR_inline) 140 = .ok (.iload 5, 2) := by decide +kernel
theorem dR_inline_142 : decode (am_by jR_inline) 142 = .ok (.iload_n 2, 1) := by decide +kernel
theorem dR_inline_143 : decode (am_by jR_inline) 143 = .ok (.iload 6, 2) := by decide +kernel
theorem dR_inline_145 : decode (am_by jR_inline) 145 = .ok (.invokevirtual 302, 3) := by decide +kernel
theorem dR_inline_148 : decode (am_by jR_inline) 148 = .ok (.istore 9, 2) := by decide +kernel
theorem dR_inline_150 : decode (am_by jR_inline) 150 = .ok (.iload 9, 2) := by decide +kernel
theorem dR_inline_152 : decode (am_by jR_inline) 152 = .ok (.ifCond .ne 6, 3) := by decide +kernel
theorem dR_inline_155 : decode (am_by jR_inline) 155 = .ok (.bipush (-2), 2) := by decide +kernel
theorem dR_inline_157 : decode (am_by jR_inline) 157 = .ok (.ireturn, 1) := by decide +kernel
theorem dR_inline_158 : decode (am_by jR_inline) 158 = .ok (.aload_n 0, 1) := by decide +kernel
theorem dR_inline_159 : decode (am_by jR_inline) 159 = .ok (.iconst 0, 1) := by decide +kernel
theorem dR_inline_160 : decode (am_by jR_inline) 160 = .ok (.putfield 277, 3) := by decide +kernel
theorem dR_inline_163 : decode (am_by jR_inline) 163 = .ok (.iconst 0, 1) := by decide +kernel
theorem dR_inline_164 : decode (am_by jR_inline) 164 = .ok (.istore 10, 2) := by decide +kernel
theorem dR_inline_166 : decode (am_by jR_inline) 166 = .ok (.iload 10, 2) := by decide +kernel
theorem dR_inline_168 : decode (am_by jR_inline) 168 = .ok (.aload_n 0, 1) := by decide +kernel
theorem dR_inline_169 : decode (am_by jR_inline) 169 = .ok (.getfield 25, 3) := by decide +kernel
theorem dR_inline_172 : decode (am_by jR_inline) 172 = .ok (.iload 5, 2) := by decide +kernel
theorem dR_inline_174 : decode (am_by jR_inline) 174 = .ok (.iaload, 1) := by decide +kernel
theorem dR_inline_175 : decode (am_by jR_inline) 175 = .ok (.if_icmp .ge 91, 3) := by decide +kernel
theorem dR_inline_178 : decode (am_by jR_inline) 178 = .ok (.bipush 8, 2) := by decide +kernel
theorem dR_inline_180 : decode (am_by jR_inline) 180 = .ok (.iload 5, 2) := by decide +kernel
theorem dR_inline_182 : decode (am_by jR_inline) 182 = .ok (.imul, 1) := by decide +kernel
theorem dR_inline_183 : decode (am_by jR_inline) 183 = .ok (.iload 10, 2) := by decide +kernel
theorem dR_inline_185 : decode (am_by jR_inline) 185 = .ok (.iadd, 1) := by decide +kernel
theorem dR_inline_186 : decode (am_by jR_inline) 186 = .ok (.istore 11, 2) := by decide +kernel
theorem dR_inline_188 : decode (am_by jR_inline) 188 = .ok (.aload_n 0, 1) := by decide +kernel
theorem dR_inline_189 : decode (am_by jR_inline) 189 = .ok (.getfield 31, 3) := by decide +kernel
theorem dR_inline_192 : decode (am_by jR_inline) 192 = .ok (.iload 11, 2) := by decide +kernel
theorem dR_inline_194 : decode (am_by jR_inline) 194 = .ok (.iaload, 1) := by decide +kernel
theorem dR_inline_195 : decode (am_by jR_inline) 195 = .ok (.aload_n 0, 1) := by decide +kernel
theorem dR_inline_196 : decode (am_by jR_inline) 196 = .ok (.getfield 19, 3) := by decide +kernel
theorem dR_inline_199 : decode (am_by jR_inline) 199 = .ok (.iload 5, 2) := by decide +kernel
theorem dR_inline_201 : decode (am_by jR_inline) 201 = .ok (.iaload, 1) := by decide +kernel
theorem dR_inline_202 : decode (am_by jR_inline) 202 = .ok (.if_icmp .ge 13, 3) := by decide +kernel
theorem dR_inline_205 : decode (am_by jR_inline) 205 = .ok (.aload_n 0, 1) := by decide +kernel
theorem dR_inline_206 : decode (am_by jR_inline) 206 = .ok (.getfield 31, 3) := by decide +kernel
theorem dR_inline_209 : decode (am_by jR_inline) 209 = .ok (.iload 11, 2) := by decide +kernel
theorem dR_inline_211 : decode (am_by jR_inline) 211 = .ok (.iaload, 1) := by decide +kernel
theorem dR_inline_212 : decode (am_by jR_inline) 212 = .ok (.goto 10, 3) := by decide +kernel
theorem dR_inline_215 : decode (am_by jR_inline) 215 = .ok (.aload_n 0, 1) := by decide +kernel
theorem dR_inline_216 : decode (am_by jR_inline) 216 = .ok (.getfield 19, 3) := by decide +kernel
theorem dR_inline_219 : decode (am_by jR_inline) 219 = .ok (.iload 5, 2) := by decide +kernel
theorem dR_inline_221 : decode (am_by jR_inline) 221 = .ok (.iaload, 1) := by decide +kernel
theorem dR_inline_222 : decode (am_by jR_inline) 222 = .ok (.istore 12, 2) := by decide +kernel
theorem dR_inline_224 : decode (am_by jR_inline) 224 = .ok (.aload_n 0, 1) := by decide +kernel
theorem dR_inline_225 : decode (am_by jR_inline) 225 = .ok (.aload_n 0, 1) := by decide +kernel
theorem dR_inline_226 : decode (am_by jR_inline) 226 = .ok (.getfield 28, 3) := by decide +kernel
theorem dR_inline_229 : decode (am_by jR_inline) 229 = .ok (.iload 11, 2) := by decide +kernel
theorem dR_inline_231 : decode (am_by jR_inline) 231 = .ok (.iaload, 1) := by decide +kernel
theorem dR_inline_232 : decode (am_by jR_inline) 232 = .ok (.iload 8, 2) := by decide +kernel
theorem dR_inline_234 : decode (am_by jR_inline) 234 = .ok (.iadd, 1) := by decide +kernel
theorem dR_inline_235 : decode (am_by jR_inline) 235 = .ok (.iload 12, 2) := by decide +kernel
theorem dR_inline_237 : decode (am_by jR_inline) 237 = .ok (.iload 8, 2) := by decide +kernel
theorem dR_inline_239 : decode (am_by jR_inline) 239 = .ok (.iadd, 1) := by decide +kernel
theorem dR_inline_240 : decode (am_by jR_inline) 240 = .ok (.aload_n 0, 1) := by decide +kernel
theorem dR_inline_241 : decode (am_by jR_inline) 241 = .ok (.getfield 34, 3) := by decide +kernel
theorem dR_inline_244 : decode (am_by jR_inline) 244 = .ok (.iload 11, 2) := by decide +kernel
theorem dR_inline_246 : decode (am_by jR_inline) 246 = .ok (.iaload, 1) := by decide +kernel
theorem dR_inline_247 : decode (am_by jR_inline) 247 = .ok (.iload 8, 2) := by decide +kernel
theorem dR_inline_249 : decode (am_by jR_inline) 249 = .ok (.iadd, 1) := by decide +kernel
theorem dR_inline_250 : decode (am_by jR_inline) 250 = .ok (.aload_n 0, 1) := by decide +kernel
theorem dR_inline_251 : decode (am_by jR_inline) 251 = .ok (.getfield 37, 3) := by decide +kernel
theorem dR_inline_254 : decode (am_by jR_inline) 254 = .ok (.iload 11, 2) := by decide +kernel
theorem dR_inline_256 : decode (am_by jR_inline) 256 = .ok (.iaload, 1) := by decide +kernel
theorem dR_inline_257 : decode (am_by jR_inline) 257 = .ok (.invokevirtual 288, 3) := by decide +kernel
theorem dR_inline_260 : decode (am_by jR_inline) 260 = .ok (.iinc 10 1, 3) := by decide +kernel
theorem dR_inline_263 : decode (am_by jR_inline) 263 = .ok (.goto (-97), 3) := by decide +kernel
theorem dR_inline_266 : decode (am_by jR_inline) 266 = .ok (.iconst 0, 1) := by decide +kernel
theorem dR_inline_267 : decode (am_by jR_inline) 267 = .ok (.istore 10, 2) := by decide +kernel
theorem dR_inline_269 : decode (am_by jR_inline) 269 = .ok (.iload 10, 2) := by decide +kernel
theorem dR_inline_271 : decode (am_by jR_inline) 271 = .ok (.aload_n 0, 1) := by decide +kernel
theorem dR_inline_272 : decode (am_by jR_inline) 272 = .ok (.getfield 25, 3) := by decide +kernel
theorem dR_inline_275 : decode (am_by jR_inline) 275 = .ok (.iload_n 3, 1) := by decide +kernel
theorem dR_inline_276 : decode (am_by jR_inline) 276 = .ok (.iaload, 1) := by decide +kernel
theorem dR_inline_277 : decode (am_by jR_inline) 277 = .ok (.if_icmp .ge 68, 3) := by decide +kernel
theorem dR_inline_280 : decode (am_by jR_inline) 280 = .ok (.bipush 8, 2) := by decide +kernel
theorem dR_inline_282 : decode (am_by jR_inline) 282 = .ok (.iload_n 3, 1) := by decide +kernel
theorem dR_inline_283 : decode (am_by jR_inline) 283 = .ok (.imul, 1) := by decide +kernel
theorem dR_inline_284 : decode (am_by jR_inline) 284 = .ok (.iload 10, 2) := by decide +kernel
theorem dR_inline_286 : decode (am_by jR_inline) 286 = .ok (.iadd, 1) := by decide +kernel
theorem dR_inline_287 : decode (am_by jR_inline) 287 = .ok (.istore 11, 2) := by decide +kernel
theorem dR_inline_289 : decode (am_by jR_inline) 289 = .ok (.aload_n 0, 1) := by decide +kernel
theorem dR_inline_290 : decode (am_by jR_inline) 290 = .ok (.aload_n 0, 1) := by decide +kernel
theorem dR_inline_291 : decode (am_by jR_inline) 291 = .ok (.getfield 28, 3) := by decide +kernel
theorem dR_inline_294 : decode (am_by jR_inline) 294 = .ok (.iload 11, 2) := by decide +kernel
theorem dR_inline_296 : decode (am_by jR_inline) 296 = .ok (.iaload, 1) := by decide +kernel
theorem dR_inline_297 : decode (am_by jR_inline) 297 = .ok (.iload_n 2, 1) := by decide +kernel
theorem dR_inline_298 : decode (am_by jR_inline) 298 = .ok (.iload 7, 2) := by decide +kernel
theorem dR_inline_300 : decode (am_by jR_inline) 300 = .ok (.invokestatic 280, 3) := by decide +kernel
theorem dR_inline_303 : decode (am_by jR_inline) 303 = .ok (.aload_n 0, 1) := by decide +kernel
theorem dR_inline_304 : decode (am_by jR_inline) 304 = .ok (.getfield 31, 3) := by decide +kernel
theorem dR_inline_307 : decode (am_by jR_inline) 307 = .ok (.iload 11, 2) := by decide +kernel
theorem dR_inline_309 : decode (am_by jR_inline) 309 = .ok (.iaload, 1) := by decide +kernel
theorem dR_inline_310 : decode (am_by jR_inline) 310 = .ok (.iload_n 2, 1) := by decide +kernel
theorem dR_inline_311 : decode (am_by jR_inline) 311 = .ok (.iload 7, 2) := by decide +kernel
theorem dR_inline_313 : decode (am_by jR_inline) 313 = .ok (.invokestatic 280, 3) := by decide +kernel
theorem dR_inline_316 : decode (am_by jR_inline) 316 = .ok (.aload_n 0, 1) := by decide +kernel
theorem dR_inline_317 : decode (am_by jR_inline) 317 = .ok (.getfield 34, 3) := by decide +kernel
theorem dR_inline_320 : decode (am_by jR_inline) 320 = .ok (.iload 11, 2) := by decide +kernel
theorem dR_inline_322 : decode (am_by jR_inline) 322 = .ok (.iaload, 1) := by decide +kernel
theorem dR_inline_323 : decode (am_by jR_inline) 323 = .ok (.iload_n 2, 1) := by decide +kernel
theorem dR_inline_324 : decode (am_by jR_inline) 324 = .ok (.iload 7, 2) := by decide +kernel
theorem dR_inline_326 : decode (am_by jR_inline) 326 = .ok (.invokestatic 280, 3) := by decide +kernel
theorem dR_inline_329 : decode (am_by jR_inline) 329 = .ok (.aload_n 0, 1) := by decide +kernel
theorem dR_inline_330 : decode (am_by jR_inline) 330 = .ok (.getfield 37, 3) := by decide +kernel
theorem dR_inline_333 : decode (am_by jR_inline) 333 = .ok (.iload 11, 2) := by decide +kernel
theorem dR_inline_335 : decode (am_by jR_inline) 335 = .ok (.iaload, 1) := by decide +kernel
theorem dR_inline_336 : decode (am_by jR_inline) 336 = .ok (.invokevirtual 288, 3) := by decide +kernel
theorem dR_inline_339 : decode (am_by jR_inline) 339 = .ok (.iinc 10 1, 3) := by decide +kernel
theorem dR_inline_342 : decode (am_by jR_inline) 342 = .ok (.goto (-73), 3) := by decide +kernel
theorem dR_inline_345 : decode (am_by jR_inline) 345 = .ok (.aload_n 0, 1) := by decide +kernel
theorem dR_inline_346 : decode (am_by jR_inline) 346 = .ok (.getfield 19, 3) := by decide +kernel
theorem dR_inline_349 : decode (am_by jR_inline) 349 = .ok (.iload_n 3, 1) := by decide +kernel
theorem dR_inline_350 : decode (am_by jR_inline) 350 = .ok (.iaload, 1) := by decide +kernel
theorem dR_inline_351 : decode (am_by jR_inline) 351 = .ok (.iload 7, 2) := by decide +kernel
theorem dR_inline_353 : decode (am_by jR_inline) 353 = .ok (.iadd, 1) := by decide +kernel
theorem dR_inline_354 : decode (am_by jR_inline) 354 = .ok (.iconst 1, 1) := by decide +kernel
theorem dR_inline_355 : decode (am_by jR_inline) 355 = .ok (.isub, 1) := by decide +kernel
theorem dR_inline_356 : decode (am_by jR_inline) 356 = .ok (.bipush 60, 2) := by decide +kernel
theorem dR_inline_358 : decode (am_by jR_inline) 358 = .ok (.if_icmp .gt 12, 3) := by decide +kernel
theorem dR_inline_361 : decode (am_by jR_inline) 361 = .ok (.aload_n 0, 1) := by decide +kernel
theorem dR_inline_362 : decode (am_by jR_inline) 362 = .ok (.getfield 277, 3) := by decide +kernel
theorem dR_inline_365 : decode (am_by jR_inline) 365 = .ok (.bipush 8, 2) := by decide +kernel
theorem dR_inline_367 : decode (am_by jR_inline) 367 = .ok (.if_icmp .le 6, 3) := by decide +kernel
theorem dR_inline_370 : decode (am_by jR_inline) 370 = .ok (.bipush (-3), 2) := by decide +kernel
theorem dR_inline_372 : decode (am_by jR_inline) 372 = .ok (.ireturn, 1) := by decide +kernel
theorem dR_inline_373 : decode (am_by jR_inline) 373 = .ok (.iconst 0, 1) := by decide +kernel
theorem dR_inline_374 : decode (am_by jR_inline) 374 = .ok (.istore 10, 2) := by decide +kernel
theorem dR_inline_376 : decode (am_by jR_inline) 376 = .ok (.iload 10, 2) := by decide +kernel
theorem dR_inline_378 : decode (am_by jR_inline) 378 = .ok (.aload_n 0, 1) := by decide +kernel
theorem dR_inline_379 : decode (am_by jR_inline) 379 = .ok (.getfield 22, 3) := by decide +kernel
theorem dR_inline_382 : decode (am_by jR_inline) 382 = .ok (.iload 5, 2) := by decide +kernel
theorem dR_inline_384 : decode (am_by jR_inline) 384 = .ok (.iaload, 1) := by decide +kernel
theorem dR_inline_385 : decode (am_by jR_inline) 385 = .ok (.if_icmp .ge 34, 3) := by decide +kernel
theorem dR_inline_388 : decode (am_by jR_inline) 388 = .ok (.aload_n 0, 1) := by decide +kernel
theorem dR_inline_389 : decode (am_by jR_inline) 389 = .ok (.iload_n 2, 1) := by decide +kernel
theorem dR_inline_390 : decode (am_by jR_inline) 390 = .ok (.iload 10, 2) := by decide +kernel
theorem dR_inline_392 : decode (am_by jR_inline) 392 = .ok (.iadd, 1) := by decide +kernel
theorem dR_inline_393 : decode (am_by jR_inline) 393 = .ok (.iconst 3, 1) := by decide +kernel
theorem dR_inline_394 : decode (am_by jR_inline) 394 = .ok (.iload 6, 2) := by decide +kernel
theorem dR_inline_396 : decode (am_by jR_inline) 396 = .ok (.aload_n 0, 1) := by decide +kernel
theorem dR_inline_397 : decode (am_by jR_inline) 397 = .ok (.getfield 22, 3) := by decide +kernel
theorem dR_inline_400 : decode (am_by jR_inline) 400 = .ok (.iload 5, 2) := by decide +kernel
theorem dR_inline_402 : decode (am_by jR_inline) 402 = .ok (.iaload, 1) := by decide +kernel
theorem dR_inline_403 : decode (am_by jR_inline) 403 = .ok (.iadd, 1) := by decide +kernel
theorem dR_inline_404 : decode (am_by jR_inline) 404 = .ok (.iconst 1, 1) := by decide +kernel
theorem dR_inline_405 : decode (am_by jR_inline) 405 = .ok (.isub, 1) := by decide +kernel
theorem dR_inline_406 : decode (am_by jR_inline) 406 = .ok (.iload 10, 2) := by decide +kernel
theorem dR_inline_408 : decode (am_by jR_inline) 408 = .ok (.isub, 1) := by decide +kernel
theorem dR_inline_409 : decode (am_by jR_inline) 409 = .ok (.iconst 0, 1) := by decide +kernel
theorem dR_inline_410 : decode (am_by jR_inline) 410 = .ok (.invokevirtual 292, 3) := by decide +kernel
theorem dR_inline_413 : decode (am_by jR_inline) 413 = .ok (.iinc 10 1, 3) := by decide +kernel
theorem dR_inline_416 : decode (am_by jR_inline) 416 = .ok (.goto (-40), 3) := by decide +kernel
theorem dR_inline_419 : decode (am_by jR_inline) 419 = .ok (.iconst 0, 1) := by decide +kernel
theorem dR_inline_420 : decode (am_by jR_inline) 420 = .ok (.istore 10, 2) := by decide +kernel
theorem dR_inline_422 : decode (am_by jR_inline) 422 = .ok (.iload 10, 2) := by decide +kernel
theorem dR_inline_424 : decode (am_by jR_inline) 424 = .ok (.aload_n 0, 1) := by decide +kernel
theorem dR_inline_425 : decode (am_by jR_inline) 425 = .ok (.getfield 19, 3) := by decide +kernel
theorem dR_inline_428 : decode (am_by jR_inline) 428 = .ok (.iload 5, 2) := by decide +kernel
theorem dR_inline_430 : decode (am_by jR_inline) 430 = .ok (.iaload, 1) := by decide +kernel
theorem dR_inline_431 : decode (am_by jR_inline) 431 = .ok (.if_icmp .ge 136, 3) := by decide +kernel
theorem dR_inline_434 : decode (am_by jR_inline) 434 = .ok (.bipush 60, 2) := by decide +kernel
theorem dR_inline_436 : decode (am_by jR_inline) 436 = .ok (.iload 5, 2) := by decide +kernel
theorem dR_inline_438 : decode (am_by jR_inline) 438 = .ok (.imul, 1) := by decide +kernel
theorem dR_inline_439 : decode (am_by jR_inline) 439 = .ok (.iload 10, 2) := by decide +kernel
theorem dR_inline_441 : decode (am_by jR_inline) 441 = .ok (.iadd, 1) := by decide +kernel
theorem dR_inline_442 : decode (am_by jR_inline) 442 = .ok (.istore 11, 2) := by decide +kernel
theorem dR_inline_444 : decode (am_by jR_inline) 444 = .ok (.aload_n 0, 1) := by decide +kernel
theorem dR_inline_445 : decode (am_by jR_inline) 445 = .ok (.getfield 7, 3) := by decide +kernel
theorem dR_inline_448 : decode (am_by jR_inline) 448 = .ok (.iload 11, 2) := by decide +kernel
theorem dR_inline_450 : decode (am_by jR_inline) 450 = .ok (.iaload, 1) := by decide +kernel
theorem dR_inline_451 : decode (am_by jR_inline) 451 = .ok (.istore 12, 2) := by decide +kernel
theorem dR_inline_453 : decode (am_by jR_inline) 453 = .ok (.iload 12, 2) := by decide +kernel
theorem dR_inline_455 : decode (am_by jR_inline) 455 = .ok (.invokestatic 139, 3) := by decide +kernel
theorem dR_inline_458 : decode (am_by jR_inline) 458 = .ok (.istore 13, 2) := by decide +kernel
theorem dR_inline_460 : decode (am_by jR_inline) 460 = .ok (.iload 12, 2) := by decide +kernel
theorem dR_inline_462 : decode (am_by jR_inline) 462 = .ok (.bipush 22, 2) := by decide +kernel
theorem dR_inline_464 : decode (am_by jR_inline) 464 = .ok (.if_icmp .ne 22, 3) := by decide +kernel
theorem dR_inline_467 : decode (am_by jR_inline) 467 = .ok (.aload_n 0, 1) := by decide +kernel
theorem dR_inline_468 : decode (am_by jR_inline) 468 = .ok (.iload 8, 2) := by decide +kernel
theorem dR_inline_470 : decode (am_by jR_inline) 470 = .ok (.iload 10, 2) := by decide +kernel
theorem dR_inline_472 : decode (am_by jR_inline) 472 = .ok (.iadd, 1) := by decide +kernel
theorem dR_inline_473 : decode (am_by jR_inline) 473 = .ok (.bipush 11, 2) := by decide +kernel
theorem dR_inline_475 : decode (am_by jR_inline) 475 = .ok (.iconst 0, 1) := by decide +kernel
theorem dR_inline_476 : decode (am_by jR_inline) 476 = .ok (.iload_n 2, 1) := by decide +kernel
theorem dR_inline_477 : decode (am_by jR_inline) 477 = .ok (.iload 7, 2) := by decide +kernel
theorem dR_inline_479 : decode (am_by jR_inline) 479 = .ok (.iadd, 1) := by decide +kernel
theorem dR_inline_480 : decode (am_by jR_inline) 480 = .ok (.invokevirtual 292, 3) := by decide +kernel
theorem dR_inline_483 : decode (am_by jR_inline) 483 = .ok (.goto 78, 3) := by decide +kernel
theorem dR_inline_486 : decode (am_by jR_inline) 486 = .ok (.aload_n 0, 1) := by decide +kernel
theorem dR_inline_487 : decode (am_by jR_inline) 487 = .ok (.iload 8, 2) := by decide +kernel
theorem dR_inline_489 : decode (am_by jR_inline) 489 = .ok (.iload 10, 2) := by decide +kernel
theorem dR_inline_491 : decode (am_by jR_inline) 491 = .ok (.iadd, 1) := by decide +kernel
theorem dR_inline_492 : decode (am_by jR_inline) 492 = .ok (.iload 12, 2) := by decide +kernel
theorem dR_inline_494 : decode (am_by jR_inline) 494 = .ok (.iload 12, 2) := by decide +kernel
theorem dR_inline_496 : decode (am_by jR_inline) 496 = .ok (.iconst 2, 1) := by decide +kernel
theorem dR_inline_497 : decode (am_by jR_inline) 497 = .ok (.if_icmp .eq 16, 3) := by decide +kernel
theorem dR_inline_500 : decode (am_by jR_inline) 500 = .ok (.iload 12, 2) := by decide +kernel
theorem dR_inline_502 : decode (am_by jR_inline) 502 = .ok (.iconst 3, 1) := by decide +kernel
theorem dR_inline_503 : decode (am_by jR_inline) 503 = .ok (.if_icmp .eq 10, 3) := by decide +kernel
theorem dR_inline_506 : decode (am_by jR_inline) 506 = .ok (.iload 12, 2) := by decide +kernel
theorem dR_inline_508 : decode (am_by jR_inline) 508 = .ok (.bipush 27, 2) := by decide +kernel
theorem dR_inline_510 : decode (am_by jR_inline) 510 = .ok (.if_icmp .ne 16, 3) := by decide +kernel
theorem dR_inline_513 : decode (am_by jR_inline) 513 = .ok (.aload_n 0, 1) := by decide +kernel
theorem dR_inline_514 : decode (am_by jR_inline) 514 = .ok (.getfield 13, 3) := by decide +kernel
theorem dR_inline_517 : decode (am_by jR_inline) 517 = .ok (.iload 11, 2) := by decide +kernel
theorem dR_inline_519 : decode (am_by jR_inline) 519 = .ok (.iaload, 1) := by decide +kernel
theorem dR_inline_520 : decode (am_by jR_inline) 520 = .ok (.iload 6, 2) := by decide +kernel
theorem dR_inline_522 : decode (am_by jR_inline) 522 = .ok (.iadd, 1) := by decide +kernel
theorem dR_inline_523 : decode (am_by jR_inline) 523 = .ok (.goto 10, 3) := by decide +kernel
theorem dR_inline_526 : decode (am_by jR_inline) 526 = .ok (.aload_n 0, 1) := by decide +kernel
theorem dR_inline_527 : decode (am_by jR_inline) 527 = .ok (.getfield 13, 3) := by decide +kernel
theorem dR_inline_530 : decode (am_by jR_inline) 530 = .ok (.iload 11, 2) := by decide +kernel
theorem dR_inline_532 : decode (am_by jR_inline) 532 = .ok (.iaload, 1) := by decide +kernel
theorem dR_inline_533 : decode (am_by jR_inline) 533 = .ok (.iload 13, 2) := by decide +kernel
theorem dR_inline_535 : decode (am_by jR_inline) 535 = .ok (.ifCond .eq 16, 3) := by decide +kernel
theorem dR_inline_538 : decode (am_by jR_inline) 538 = .ok (.aload_n 0, 1) := by decide +kernel
theorem dR_inline_539 : decode (am_by jR_inline) 539 = .ok (.getfield 16, 3) := by decide +kernel
theorem dR_inline_542 : decode (am_by jR_inline) 542 = .ok (.iload 11, 2) := by decide +kernel
theorem dR_inline_544 : decode (am_by jR_inline) 544 = .ok (.iaload, 1) := by decide +kernel
theorem dR_inline_545 : decode (am_by jR_inline) 545 = .ok (.iload 8, 2) := by decide +kernel
theorem dR_inline_547 : decode (am_by jR_inline) 547 = .ok (.iadd, 1) := by decide +kernel
theorem dR_inline_548 : decode (am_by jR_inline) 548 = .ok (.goto 10, 3) := by decide +kernel
theorem dR_inline_551 : decode (am_by jR_inline) 551 = .ok (.aload_n 0, 1) := by decide +kernel
theorem dR_inline_552 : decode (am_by jR_inline) 552 = .ok (.getfield 16, 3) := by decide +kernel
theorem dR_inline_555 : decode (am_by jR_inline) 555 = .ok (.iload 11, 2) := by decide +kernel
theorem dR_inline_557 : decode (am_by jR_inline) 557 = .ok (.iaload, 1) := by decide +kernel
theorem dR_inline_558 : decode (am_by jR_inline) 558 = .ok (.invokevirtual 292, 3) := by decide +kernel
theorem dR_inline_561 : decode (am_by jR_inline) 561 = .ok (.iinc 10 1, 3) := by decide +kernel
theorem dR_inline_564 : decode (am_by jR_inline) 564 = .ok (.goto (-142), 3) := by decide +kernel
theorem dR_inline_567 : decode (am_by jR_inline) 567 = .ok (.aload_n 0, 1) := by decide +kernel
theorem dR_inline_568 : decode (am_by jR_inline) 568 = .ok (.iload_n 3, 1) := by decide +kernel
theorem dR_inline_569 : decode (am_by jR_inline) 569 = .ok (.iload_n 2, 1) := by decide +kernel
theorem dR_inline_570 : decode (am_by jR_inline) 570 = .ok (.iload 7, 2) := by decide +kernel
theorem dR_inline_572 : decode (am_by jR_inline) 572 = .ok (.invokevirtual 295, 3) := by decide +kernel
theorem dR_inline_575 : decode (am_by jR_inline) 575 = .ok (.ireturn, 1) := by decide +kernel
theorem dR_code_0 : decode (am_by jR_code) 0 = .ok (.iload_n 1, 1) := by decide +kernel
theorem dR_code_1 : decode (am_by jR_code) 1 = .ok (.iconst 0, 1) := by decide +kernel
theorem dR_code_2 : decode (am_by jR_code) 2 = .ok (.iconst 5, 1) := by decide +kernel
theorem dR_code_3 : decode (am_by jR_code) 3 = .ok (.invokestatic 123, 3) := by decide +kernel
theorem dR_code_6 : decode (am_by jR_code) 6 = .ok (.ifCond .eq 12, 3) := by decide +kernel
theorem dR_code_9 : decode (am_by jR_code) 9 = .ok (.iload_n 3, 1) := by decide +kernel
theorem dR_code_10 : decode (am_by jR_code) 10 = .ok (.iconst 0, 1) := by decide +kernel
theorem dR_code_11 : decode (am_by jR_code) 11 = .ok (.iconst 2, 1) := by decide +kernel
theorem dR_code_12 : decode (am_by jR_code) 12 = .ok (.invokestatic 123, 3) := by decide +kernel
theorem dR_code_15 : decode (am_by jR_code) 15 = .ok (.ifCond .ne 5, 3) := by decide +kernel
theorem dR_code_18 : decode (am_by jR_code) 18 = .ok (.iconst (-1), 1) := by decide +kernel
theorem dR_code_19 : decode (am_by jR_code) 19 = .ok (.ireturn, 1) := by decide +kernel
theorem dR_code_20 : decode (am_by jR_code) 20 = .ok (.aload_n 0, 1) := by decide +kernel
theorem dR_code_21 : decode (am_by jR_code) 21 = .ok (.iload_n 1, 1) := by decide +kernel
theorem dR_code_22 : decode (am_by jR_code) 22 = .ok (.invokevirtual 135, 3) := by decide +kernel
theorem dR_code_25 : decode (am_by jR_code) 25 = .ok (.istore 4, 2) := by decide +kernel
theorem dR_code_27 : decode (am_by jR_code) 27 = .ok (.iload_n 2, 1) := by decide +kernel
theorem dR_code_28 : decode (am_by jR_code) 28 = .ok (.iconst 0, 1) := by decide +kernel
theorem dR_code_29 : decode (am_by jR_code) 29 = .ok (.aload_n 0, 1) := by decide +kernel
theorem dR_code_30 : decode (am_by jR_code) 30 = .ok (.getfield 19, 3) := by decide +kernel
theorem dR_code_33 : decode (am_by jR_code) 33 = .ok (.iload 4, 2) := by decide +kernel
theorem dR_code_35 : decode (am_by jR_code) 35 = .ok (.iaload, 1) := by decide +kernel
theorem dR_code_36 : decode (am_by jR_code) 36 = .ok (.iconst 1, 1) := by decide +kernel
theorem dR_code_37 : decode (am_by jR_code) 37 = .ok (.isub, 1) := by decide +kernel
theorem dR_code_38 : decode (am_by jR_code) 38 = .ok (.invokestatic 123, 3) := by decide +kernel
theorem dR_code_41 : decode (am_by jR_code) 41 = .ok (.ifCond .ne 6, 3) := by decide +kernel
theorem dR_code_44 : decode (am_by jR_code) 44 = .ok (.bipush (-2), 2) := by decide +kernel
theorem dR_code_46 : decode (am_by jR_code) 46 = .ok (.ireturn, 1) := by decide +kernel
theorem dR_code_47 : decode (am_by jR_code) 47 = .ok (.iload_n 3, 1) := by decide +kernel
theorem dR_code_48 : decode (am_by jR_code) 48 = .ok (.ifCond .ne 18, 3) := by decide +kernel
theorem dR_code_51 : decode (am_by jR_code) 51 = .ok (.aload_n 0, 1) := by decide +kernel
theorem dR_code_52 : decode (am_by jR_code) 52 = .ok (.getfield 7, 3) := by decide +kernel
theorem dR_code_55 : decode (am_by jR_code) 55 = .ok (.bipush 60, 2) := by decide +kernel
theorem dR_code_57 : decode (am_by jR_code) 57 = .ok (.iload 4, 2) := by decide +kernel
theorem dR_code_59 : decode (am_by jR_code) 59 = .ok (.imul, 1) := by decide +kernel
theorem dR_code_60 : decode (am_by jR_code) 60 = .ok (.iload_n 2, 1) := by decide +kernel
theorem dR_code_61 : decode (am_by jR_code) 61 = .ok (.iadd, 1) := by decide +kernel
theorem dR_code_62 : decode (am_by jR_code) 62 = .ok (.iaload, 1) := by decide +kernel
theorem dR_code_63 : decode (am_by jR_code) 63 = .ok (.goto 35, 3) := by decide +kernel
theorem dR_code_66 : decode (am_by jR_code) 66 = .ok (.iload_n 3, 1) := by decide +kernel
theorem dR_code_67 : decode (am_by jR_code) 67 = .ok (.iconst 1, 1) := by decide +kernel
theorem dR_code_68 : decode (am_by jR_code) 68 = .ok (.if_icmp .ne 18, 3) := by decide +kernel
theorem dR_code_71 : decode (am_by jR_code) 71 = .ok (.aload_n 0, 1) := by decide +kernel
theorem dR_code_72 : decode (am_by jR_code) 72 = .ok (.getfield 13, 3) := by decide +kernel
theorem dR_code_75 : decode (am_by jR_code) 75 = .ok (.bipush 60, 2) := by decide +kernel
theorem dR_code_77 : decode (am_by jR_code) 77 = .ok (.iload 4, 2) := by decide +kernel
theorem dR_code_79 : decode (am_by jR_code) 79 = .ok (.imul, 1) := by decide +kernel
theorem dR_code_80 : decode (am_by jR_code) 80 = .ok (.iload_n 2, 1) := by decide +kernel
theorem dR_code_81 : decode (am_by jR_code) 81 = .ok (.iadd, 1) := by decide +kernel
theorem dR_code_82 : decode (am_by jR_code) 82 = .ok (.iaload, 1) := by decide +kernel
theorem dR_code_83 : decode (am_by jR_code) 83 = .ok (.goto 15, 3) := by decide +kernel
theorem dR_code_86 : decode (am_by jR_code) 86 = .ok (.aload_n 0, 1) := by decide +kernel
theorem dR_code_87 : decode (am_by jR_code) 87 = .ok (.getfield 16, 3) := by decide +kernel
theorem dR_code_90 : decode (am_by jR_code) 90 = .ok (.bipush 60, 2) := by decide +kernel
theorem dR_code_92 : decode (am_by jR_code) 92 = .ok (.iload 4, 2) := by decide +kernel
theorem dR_code_94 : decode (am_by jR_code) 94 = .ok (.imul, 1) := by decide +kernel
theorem dR_code_95 : decode (am_by jR_code) 95 = .ok (.iload_n 2, 1) := by decide +kernel
theorem dR_code_96 : decode (am_by jR_code) 96 = .ok (.iadd, 1) := by decide +kernel
theorem dR_code_97 : decode (am_by jR_code) 97 = .ok (.iaload, 1) := by decide +kernel
theorem dR_code_98 : decode (am_by jR_code) 98 = .ok (.ireturn, 1) := by decide +kernel
theorem dR_table_0 : decode (am_by jR_table) 0 = .ok (.iload_n 1, 1) := by decide +kernel
theorem dR_table_1 : decode (am_by jR_table) 1 = .ok (.iconst 0, 1) := by decide +kernel
theorem dR_table_2 : decode (am_by jR_table) 2 = .ok (.iconst 5, 1) := by decide +kernel
theorem dR_table_3 : decode (am_by jR_table) 3 = .ok (.invokestatic 123, 3) := by decide +kernel
theorem dR_table_6 : decode (am_by jR_table) 6 = .ok (.ifCond .eq 12, 3) := by decide +kernel
theorem dR_table_9 : decode (am_by jR_table) 9 = .ok (.iload_n 3, 1) := by decide +kernel
theorem dR_table_10 : decode (am_by jR_table) 10 = .ok (.iconst 0, 1) := by decide +kernel
theorem dR_table_11 : decode (am_by jR_table) 11 = .ok (.iconst 3, 1) := by decide +kernel
theorem dR_table_12 : decode (am_by jR_table) 12 = .ok (.invokestatic 123, 3) := by decide +kernel
theorem dR_table_15 : decode (am_by jR_table) 15 = .ok (.ifCond .ne 5, 3) := by decide +kernel
theorem dR_table_18 : decode (am_by jR_table) 18 = .ok (.iconst (-1), 1) := by decide +kernel
theorem dR_table_19 : decode (am_by jR_table) 19 = .ok (.ireturn, 1) := by decide +kernel
theorem dR_table_20 : decode (am_by jR_table) 20 = .ok (.aload_n 0, 1) := by decide +kernel
theorem dR_table_21 : decode (am_by jR_table) 21 = .ok (.iload_n 1, 1) := by decide +kernel
theorem dR_table_22 : decode (am_by jR_table) 22 = .ok (.invokevirtual 135, 3) := by decide +kernel
theorem dR_table_25 : decode (am_by jR_table) 25 = .ok (.istore 4, 2) := by decide +kernel
theorem dR_table_27 : decode (am_by jR_table) 27 = .ok (.bipush 8, 2) := by decide +kernel
theorem dR_table_29 : decode (am_by jR_table) 29 = .ok (.iload 4, 2) := by decide +kernel
theorem dR_table_31 : decode (am_by jR_table) 31 = .ok (.imul, 1) := by decide +kernel
theorem dR_table_32 : decode (am_by jR_table) 32 = .ok (.iload_n 2, 1) := by decide +kernel
theorem dR_table_33 : decode (am_by jR_table) 33 = .ok (.iadd, 1) := by decide +kernel
theorem dR_table_34 : decode (am_by jR_table) 34 = .ok (.istore 5, 2) := by decide +kernel
theorem dR_table_36 : decode (am_by jR_table) 36 = .ok (.iload_n 2, 1) := by decide +kernel
theorem dR_table_37 : decode (am_by jR_table) 37 = .ok (.iconst (-1), 1) := by decide +kernel
theorem dR_table_38 : decode (am_by jR_table) 38 = .ok (.if_icmp .ne 63, 3) := by decide +kernel
theorem dR_table_41 : decode (am_by jR_table) 41 = .ok (.iload_n 3, 1) := by decide +kernel
theorem dR_table_42 : decode (am_by jR_table) 42 = .ok (.ifCond .ne 13, 3) := by decide +kernel
theorem dR_table_45 : decode (am_by jR_table) 45 = .ok (.aload_n 0, 1) := by decide +kernel
theorem dR_table_46 : decode (am_by jR_table) 46 = .ok (.getfield 19, 3) := by decide +kernel
theorem dR_table_49 : decode (am_by jR_table) 49 = .ok (.iload 4, 2) := by decide +kernel
theorem dR_table_51 : decode (am_by jR_table) 51 = .ok (.iaload, 1) := by decide +kernel
theorem dR_table_52 : decode (am_by jR_table) 52 = .ok (.goto 48, 3) := by decide +kernel
theorem dR_table_55 : decode (am_by jR_table) 55 = .ok (.iload_n 3, 1) := by decide +kernel
theorem dR_table_56 : decode (am_by jR_table) 56 = .ok (.iconst 1, 1) := by decide +kernel
theorem dR_table_57 : decode (am_by jR_table) 57 = .ok (.if_icmp .ne 13, 3) := by decide +kernel
theorem dR_table_60 : decode (am_by jR_table) 60 = .ok (.aload_n 0, 1) := by decide +kernel
theorem dR_table_61 : decode (am_by jR_table) 61 = .ok (.getfield 25, 3) := by decide +kernel
theorem dR_table_64 : decode (am_by jR_table) 64 = .ok (.iload 4, 2) := by decide +kernel
theorem dR_table_66 : decode (am_by jR_table) 66 = .ok (.iaload, 1) := by decide +kernel
theorem dR_table_67 : decode (am_by jR_table) 67 = .ok (.goto 33, 3) := by decide +kernel
theorem dR_table_70 : decode (am_by jR_table) 70 = .ok (.iload_n 3, 1) := by decide +kernel
theorem dR_table_71 : decode (am_by jR_table) 71 = .ok (.iconst 2, 1) := by decide +kernel
theorem dR_table_72 : decode (am_by jR_table) 72 = .ok (.if_icmp .ne 13, 3) := by decide +kernel
theorem dR_table_75 : decode (am_by jR_table) 75 = .ok (.aload_n 0, 1) := by decide +kernel
theorem dR_table_76 : decode (am_by jR_table) 76 = .ok (.getfield 22, 3) := by decide +kernel
theorem dR_table_79 : decode (am_by jR_table) 79 = .ok (.iload 4, 2) := by decide +kernel
theorem dR_table_81 : decode (am_by jR_table) 81 = .ok (.iaload, 1) := by decide +kernel
theorem dR_table_82 : decode (am_by jR_table) 82 = .ok (.goto 18, 3) := by decide +kernel
theorem dR_table_85 : decode (am_by jR_table) 85 = .ok (.aload_n 0, 1) := by decide +kernel
theorem dR_table_86 : decode (am_by jR_table) 86 = .ok (.getfield 40, 3) := by decide +kernel
theorem dR_table_89 : decode (am_by jR_table) 89 = .ok (.iload 4, 2) := by decide +kernel
theorem dR_table_91 : decode (am_by jR_table) 91 = .ok (.baload, 1) := by decide +kernel
theorem dR_table_92 : decode (am_by jR_table) 92 = .ok (.ifCond .eq 7, 3) := by decide +kernel
theorem dR_table_95 : decode (am_by jR_table) 95 = .ok (.iconst 1, 1) := by decide +kernel
theorem dR_table_96 : decode (am_by jR_table) 96 = .ok (.goto 4, 3) := by decide +kernel
theorem dR_table_99 : decode (am_by jR_table) 99 = .ok (.iconst 0, 1) := by decide +kernel
theorem dR_table_100 : decode (am_by jR_table) 100 = .ok (.ireturn, 1) := by decide +kernel
theorem dR_table_101 : decode (am_by jR_table) 101 = .ok (.iload_n 2, 1) := by decide +kernel
theorem dR_table_102 : decode (am_by jR_table) 102 = .ok (.iconst 0, 1) := by decide +kernel
theorem dR_table_103 : decode (am_by jR_table) 103 = .ok (.aload_n 0, 1) := by decide +kernel
theorem dR_table_104 : decode (am_by jR_table) 104 = .ok (.getfield 25, 3) := by decide +kernel
theorem dR_table_107 : decode (am_by jR_table) 107 = .ok (.iload 4, 2) := by decide +kernel
theorem dR_table_109 : decode (am_by jR_table) 109 = .ok (.iaload, 1) := by decide +kernel
theorem dR_table_110 : decode (am_by jR_table) 110 = .ok (.iconst 1, 1) := by decide +kernel
theorem dR_table_111 : decode (am_by jR_table) 111 = .ok (.isub, 1) := by decide +kernel
theorem dR_table_112 : decode (am_by jR_table) 112 = .ok (.invokestatic 123, 3) := by decide +kernel
theorem dR_table_115 : decode (am_by jR_table) 115 = .ok (.ifCond .ne 6, 3) := by decide +kernel
theorem dR_table_118 : decode (am_by jR_table) 118 = .ok (.bipush (-2), 2) := by decide +kernel
theorem dR_table_120 : decode (am_by jR_table) 120 = .ok (.ireturn, 1) := by decide +kernel
theorem dR_table_121 : decode (am_by jR_table) 121 = .ok (.iload_n 3, 1) := by decide +kernel
theorem dR_table_122 : decode (am_by jR_table) 122 = .ok (.ifCond .ne 13, 3) := by decide +kernel
theorem dR_table_125 : decode (am_by jR_table) 125 = .ok (.aload_n 0, 1) := by decide +kernel
theorem dR_table_126 : decode (am_by jR_table) 126 = .ok (.getfield 28, 3) := by decide +kernel
theorem dR_table_129 : decode (am_by jR_table) 129 = .ok (.iload 5, 2) := by decide +kernel
theorem dR_table_131 : decode (am_by jR_table) 131 = .ok (.iaload, 1) := by decide +kernel
theorem dR_table_132 : decode (am_by jR_table) 132 = .ok (.goto 40, 3) := by decide +kernel
theorem dR_table_135 : decode (am_by jR_table) 135 = .ok (.iload_n 3, 1) := by decide +kernel
theorem dR_table_136 : decode (am_by jR_table) 136 = .ok (.iconst 1, 1) := by decide +kernel
theorem dR_table_137 : decode (am_by jR_table) 137 = .ok (.if_icmp .ne 13, 3) := by decide +kernel
theorem dR_table_140 : decode (am_by jR_table) 140 = .ok (.aload_n 0, 1) := by decide +kernel
theorem dR_table_141 : decode (am_by jR_table) 141 = .ok (.getfield 31, 3) := by decide +kernel
theorem dR_table_144 : decode (am_by jR_table) 144 = .ok (.iload 5, 2) := by decide +kernel
theorem dR_table_146 : decode (am_by jR_table) 146 = .ok (.iaload, 1) := by decide +kernel
theorem dR_table_147 : decode (am_by jR_table) 147 = .ok (.goto 25, 3) := by decide +kernel
theorem dR_table_150 : decode (am_by jR_table) 150 = .ok (.iload_n 3, 1) := by decide +kernel
theorem dR_table_151 : decode (am_by jR_table) 151 = .ok (.iconst 2, 1) := by decide +kernel
theorem dR_table_152 : decode (am_by jR_table) 152 = .ok (.if_icmp .ne 13, 3) := by decide +kernel
theorem dR_table_155 : decode (am_by jR_table) 155 = .ok (.aload_n 0, 1) := by decide +kernel
theorem dR_table_156 : decode (am_by jR_table) 156 = .ok (.getfield 34, 3) := by decide +kernel
theorem dR_table_159 : decode (am_by jR_table) 159 = .ok (.iload 5, 2) := by decide +kernel
theorem dR_table_161 : decode (am_by jR_table) 161 = .ok (.iaload, 1) := by decide +kernel
theorem dR_table_162 : decode (am_by jR_table) 162 = .ok (.goto 10, 3) := by decide +kernel
theorem dR_table_165 : decode (am_by jR_table) 165 = .ok (.aload_n 0, 1) := by decide +kernel
theorem dR_table_166 : decode (am_by jR_table) 166 = .ok (.getfield 37, 3) := by decide +kernel
theorem dR_table_169 : decode (am_by jR_table) 169 = .ok (.iload 5, 2) := by decide +kernel
theorem dR_table_171 : decode (am_by jR_table) 171 = .ok (.iaload, 1) := by decide +kernel
theorem dR_table_172 : decode (am_by jR_table) 172 = .ok (.ireturn, 1) := by decide +kernel
