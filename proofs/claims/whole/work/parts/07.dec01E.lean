theorem dE_init_0 : decode (am_by jE_init) 0 = .ok (.aload_n 0, 1) := by decide +kernel
theorem dE_init_1 : decode (am_by jE_init) 1 = .ok (.invokespecial 3, 3) := by decide +kernel
theorem dE_init_4 : decode (am_by jE_init) 4 = .ok (.aload_n 0, 1) := by decide +kernel
theorem dE_init_5 : decode (am_by jE_init) 5 = .ok (.bipush 60, 2) := by decide +kernel
theorem dE_init_7 : decode (am_by jE_init) 7 = .ok (.newarray .int, 2) := by decide +kernel
theorem dE_init_9 : decode (am_by jE_init) 9 = .ok (.putfield 9, 3) := by decide +kernel
theorem dE_init_12 : decode (am_by jE_init) 12 = .ok (.aload_n 0, 1) := by decide +kernel
theorem dE_init_13 : decode (am_by jE_init) 13 = .ok (.bipush 60, 2) := by decide +kernel
theorem dE_init_15 : decode (am_by jE_init) 15 = .ok (.newarray .int, 2) := by decide +kernel
theorem dE_init_17 : decode (am_by jE_init) 17 = .ok (.putfield 15, 3) := by decide +kernel
theorem dE_init_20 : decode (am_by jE_init) 20 = .ok (.aload_n 0, 1) := by decide +kernel
theorem dE_init_21 : decode (am_by jE_init) 21 = .ok (.bipush 60, 2) := by decide +kernel
theorem dE_init_23 : decode (am_by jE_init) 23 = .ok (.newarray .int, 2) := by decide +kernel
theorem dE_init_25 : decode (am_by jE_init) 25 = .ok (.putfield 18, 3) := by decide +kernel
theorem dE_init_28 : decode (am_by jE_init) 28 = .ok (.aload_n 0, 1) := by decide +kernel
theorem dE_init_29 : decode (am_by jE_init) 29 = .ok (.bipush 8, 2) := by decide +kernel
theorem dE_init_31 : decode (am_by jE_init) 31 = .ok (.newarray .int, 2) := by decide +kernel
theorem dE_init_33 : decode (am_by jE_init) 33 = .ok (.putfield 21, 3) := by decide +kernel
theorem dE_init_36 : decode (am_by jE_init) 36 = .ok (.aload_n 0, 1) := by decide +kernel
theorem dE_init_37 : decode (am_by jE_init) 37 = .ok (.bipush 8, 2) := by decide +kernel
theorem dE_init_39 : decode (am_by jE_init) 39 = .ok (.newarray .int, 2) := by decide +kernel
theorem dE_init_41 : decode (am_by jE_init) 41 = .ok (.putfield 24, 3) := by decide +kernel
theorem dE_init_44 : decode (am_by jE_init) 44 = .ok (.aload_n 0, 1) := by decide +kernel
theorem dE_init_45 : decode (am_by jE_init) 45 = .ok (.bipush 8, 2) := by decide +kernel
theorem dE_init_47 : decode (am_by jE_init) 47 = .ok (.newarray .int, 2) := by decide +kernel
theorem dE_init_49 : decode (am_by jE_init) 49 = .ok (.putfield 27, 3) := by decide +kernel
theorem dE_init_52 : decode (am_by jE_init) 52 = .ok (.aload_n 0, 1) := by decide +kernel
theorem dE_init_53 : decode (am_by jE_init) 53 = .ok (.bipush 8, 2) := by decide +kernel
theorem dE_init_55 : decode (am_by jE_init) 55 = .ok (.newarray .int, 2) := by decide +kernel
theorem dE_init_57 : decode (am_by jE_init) 57 = .ok (.putfield 30, 3) := by decide +kernel
theorem dE_init_60 : decode (am_by jE_init) 60 = .ok (.return_, 1) := by decide +kernel
theorem dE_begin_0 : decode (am_by jE_begin) 0 = .ok (.aload_n 0, 1) := by decide +kernel
theorem dE_begin_1 : decode (am_by jE_begin) 1 = .ok (.iconst 0, 1) := by decide +kernel
theorem dE_begin_2 : decode (am_by jE_begin) 2 = .ok (.putfield 33, 3) := by decide +kernel
theorem dE_begin_5 : decode (am_by jE_begin) 5 = .ok (.aload_n 0, 1) := by decide +kernel
theorem dE_begin_6 : decode (am_by jE_begin) 6 = .ok (.iconst 0, 1) := by decide +kernel
theorem dE_begin_7 : decode (am_by jE_begin) 7 = .ok (.putfield 37, 3) := by decide +kernel
theorem dE_begin_10 : decode (am_by jE_begin) 10 = .ok (.aload_n 0, 1) := by decide +kernel
theorem dE_begin_11 : decode (am_by jE_begin) 11 = .ok (.iload_n 1, 1) := by decide +kernel
theorem dE_begin_12 : decode (am_by jE_begin) 12 = .ok (.putfield 40, 3) := by decide +kernel
theorem dE_begin_15 : decode (am_by jE_begin) 15 = .ok (.aload_n 0, 1) := by decide +kernel
theorem dE_begin_16 : decode (am_by jE_begin) 16 = .ok (.iload_n 2, 1) := by decide +kernel
theorem dE_begin_17 : decode (am_by jE_begin) 17 = .ok (.putfield 43, 3) := by decide +kernel
theorem dE_begin_20 : decode (am_by jE_begin) 20 = .ok (.return_, 1) := by decide +kernel
theorem dE_become_0 : decode (am_by jE_become) 0 = .ok (.aload_n 0, 1) := by decide +kernel
theorem dE_become_1 : decode (am_by jE_become) 1 = .ok (.aload_n 1, 1) := by decide +kernel
theorem dE_become_2 : decode (am_by jE_become) 2 = .ok (.getfield 40, 3) := by decide +kernel
theorem dE_become_5 : decode (am_by jE_become) 5 = .ok (.aload_n 1, 1) := by decide +kernel
theorem dE_become_6 : decode (am_by jE_become) 6 = .ok (.getfield 43, 3) := by decide +kernel
theorem dE_become_9 : decode (am_by jE_become) 9 = .ok (.invokevirtual 47, 3) := by decide +kernel
theorem dE_become_12 : decode (am_by jE_become) 12 = .ok (.aload_n 0, 1) := by decide +kernel
theorem dE_become_13 : decode (am_by jE_become) 13 = .ok (.aload_n 1, 1) := by decide +kernel
theorem dE_become_14 : decode (am_by jE_become) 14 = .ok (.getfield 33, 3) := by decide +kernel
theorem dE_become_17 : decode (am_by jE_become) 17 = .ok (.putfield 33, 3) := by decide +kernel
theorem dE_become_20 : decode (am_by jE_become) 20 = .ok (.aload_n 1, 1) := by decide +kernel
theorem dE_become_21 : decode (am_by jE_become) 21 = .ok (.getfield 9, 3) := by decide +kernel
theorem dE_become_24 : decode (am_by jE_become) 24 = .ok (.iconst 0, 1) := by decide +kernel
theorem dE_become_25 : decode (am_by jE_become) 25 = .ok (.aload_n 0, 1) := by decide +kernel
theorem dE_become_26 : decode (am_by jE_become) 26 = .ok (.getfield 9, 3) := by decide +kernel
theorem dE_become_29 : decode (am_by jE_become) 29 = .ok (.iconst 0, 1) := by decide +kernel
theorem dE_become_30 : decode (am_by jE_become) 30 = .ok (.aload_n 0, 1) := by decide +kernel
theorem dE_become_31 : decode (am_by jE_become) 31 = .ok (.getfield 33, 3) := by decide +kernel
theorem dE_become_34 : decode (am_by jE_become) 34 = .ok (.invokestatic 51, 3) := by decide +kernel
theorem dE_become_37 : decode (am_by jE_become) 37 = .ok (.aload_n 1, 1) := by decide +kernel
theorem dE_become_38 : decode (am_by jE_become) 38 = .ok (.getfield 15, 3) := by decide +kernel
theorem dE_become_41 : decode (am_by jE_become) 41 = .ok (.iconst 0, 1) := by decide +kernel
theorem dE_become_42 : decode (am_by jE_become) 42 = .ok (.aload_n 0, 1) := by decide +kernel
theorem dE_become_43 : decode (am_by jE_become) 43 = .ok (.getfield 15, 3) := by decide +kernel
theorem dE_become_46 : decode (am_by jE_become) 46 = .ok (.iconst 0, 1) := by decide +kernel
theorem dE_become_47 : decode (am_by jE_become) 47 = .ok (.aload_n 0, 1) := by decide +kernel
theorem dE_become_48 : decode (am_by jE_become) 48 = .ok (.getfield 33, 3) := by decide +kernel
theorem dE_become_51 : decode (am_by jE_become) 51 = .ok (.invokestatic 51, 3) := by decide +kernel
theorem dE_become_54 : decode (am_by jE_become) 54 = .ok (.aload_n 1, 1) := by decide +kernel
theorem dE_become_55 : decode (am_by jE_become) 55 = .ok (.getfield 18, 3) := by decide +kernel
theorem dE_become_58 : decode (am_by jE_become) 58 = .ok (.iconst 0, 1) := by decide +kernel
theorem dE_become_59 : decode (am_by jE_become) 59 = .ok (.aload_n 0, 1) := by decide +kernel
theorem dE_become_60 : decode (am_by jE_become) 60 = .ok (.getfield 18, 3) := by decide +kernel
theorem dE_become_63 : decode (am_by jE_become) 63 = .ok (.iconst 0, 1) := by decide +kernel
theorem dE_become_64 : decode (am_by jE_become) 64 = .ok (.aload_n 0, 1) := by decide +kernel
theorem dE_become_65 : decode (am_by jE_become) 65 = .ok (.getfield 33, 3) := by decide +kernel
theorem dE_become_68 : decode (am_by jE_become) 68 = .ok (.invokestatic 51, 3) := by decide +kernel
theorem dE_become_71 : decode (am_by jE_become) 71 = .ok (.aload_n 0, 1) := by decide +kernel
theorem dE_become_72 : decode (am_by jE_become) 72 = .ok (.aload_n 1, 1) := by decide +kernel
theorem dE_become_73 : decode (am_by jE_become) 73 = .ok (.getfield 37, 3) := by decide +kernel
theorem dE_become_76 : decode (am_by jE_become) 76 = .ok (.putfield 37, 3) := by decide +kernel
theorem dE_become_79 : decode (am_by jE_become) 79 = .ok (.aload_n 1, 1) := by decide +kernel
theorem dE_become_80 : decode (am_by jE_become) 80 = .ok (.getfield 21, 3) := by decide +kernel
theorem dE_become_83 : decode (am_by jE_become) 83 = .ok (.iconst 0, 1) := by decide +kernel
theorem dE_become_84 : decode (am_by jE_become) 84 = .ok (.aload_n 0, 1) := by decide +kernel
theorem dE_become_85 : decode (am_by jE_become) 85 = .ok (.getfield 21, 3) := by decide +kernel
theorem dE_become_88 : decode (am_by jE_become) 88 = .ok (.iconst 0, 1) := by decide +kernel
theorem dE_become_89 : decode (am_by jE_become) 89 = .ok (.aload_n 0, 1) := by decide +kernel
theorem dE_become_90 : decode (am_by jE_become) 90 = .ok (.getfield 37, 3) := by decide +kernel
theorem dE_become_93 : decode (am_by jE_become) 93 = .ok (.invokestatic 51, 3) := by decide +kernel
theorem dE_become_96 : decode (am_by jE_become) 96 = .ok (.aload_n 1, 1) := by decide +kernel
theorem dE_become_97 : decode (am_by jE_become) 97 = .ok (.getfield 24, 3) := by decide +kernel
theorem dE_become_100 : decode (am_by jE_become) 100 = .ok (.iconst 0, 1) := by decide +kernel
theorem dE_become_101 : decode (am_by jE_become) 101 = .ok (.aload_n 0, 1) := by decide +kernel
theorem dE_become_102 : decode (am_by jE_become) 102 = .ok (.getfield 24, 3) := by decide +kernel
theorem dE_become_105 : decode (am_by jE_become) 105 = .ok (.iconst 0, 1) := by decide +kernel
theorem dE_become_106 : decode (am_by jE_become) 106 = .ok (.aload_n 0, 1) := by decide +kernel
theorem dE_become_107 : decode (am_by jE_become) 107 = .ok (.getfield 37, 3) := by decide +kernel
theorem dE_become_110 : decode (am_by jE_become) 110 = .ok (.invokestatic 51, 3) := by decide +kernel
theorem dE_become_113 : decode (am_by jE_become) 113 = .ok (.aload_n 1, 1) := by decide +kernel
theorem dE_become_114 : decode (am_by jE_become) 114 = .ok (.getfield 27, 3) := by decide +kernel
theorem dE_become_117 : decode (am_by jE_become) 117 = .ok (.iconst 0, 1) := by decide +kernel
theorem dE_become_118 : decode (am_by jE_become) 118 = .ok (.aload_n 0, 1) := by decide +kernel
theorem dE_become_119 : decode (am_by jE_become) 119 = .ok (.getfield 27, 3) := by decide +kernel
theorem dE_become_122 : decode (am_by jE_become) 122 = .ok (.iconst 0, 1) := by decide +kernel
theorem dE_become_123 : decode (am_by jE_become) 123 = .ok (.aload_n 0, 1) := by decide +kernel
theorem dE_become_124 : decode (am_by jE_become) 124 = .ok (.getfield 37, 3) := by decide +kernel
theorem dE_become_127 : decode (am_by jE_become) 127 = .ok (.invokestatic 51, 3) := by decide +kernel
theorem dE_become_130 : decode (am_by jE_become) 130 = .ok (.aload_n 1, 1) := by decide +kernel
theorem dE_become_131 : decode (am_by jE_become) 131 = .ok (.getfield 30, 3) := by decide +kernel
theorem dE_become_134 : decode (am_by jE_become) 134 = .ok (.iconst 0, 1) := by decide +kernel
theorem dE_become_135 : decode (am_by jE_become) 135 = .ok (.aload_n 0, 1) := by decide +kernel
theorem dE_become_136 : decode (am_by jE_become) 136 = .ok (.getfield 30, 3) := by decide +kernel
theorem dE_become_139 : decode (am_by jE_become) 139 = .ok (.iconst 0, 1) := by decide +kernel
theorem dE_become_140 : decode (am_by jE_become) 140 = .ok (.aload_n 0, 1) := by decide +kernel
theorem dE_become_141 : decode (am_by jE_become) 141 = .ok (.getfield 37, 3) := by decide +kernel
theorem dE_become_144 : decode (am_by jE_become) 144 = .ok (.invokestatic 51, 3) := by decide +kernel
theorem dE_become_147 : decode (am_by jE_become) 147 = .ok (.return_, 1) := by decide +kernel
theorem dE_put_0 : decode (am_by jE_put) 0 = .ok (.aload_n 0, 1) := by decide +kernel
theorem dE_put_1 : decode (am_by jE_put) 1 = .ok (.getfield 9, 3) := by decide +kernel
theorem dE_put_4 : decode (am_by jE_put) 4 = .ok (.iload_n 1, 1) := by decide +kernel
theorem dE_put_5 : decode (am_by jE_put) 5 = .ok (.iload_n 2, 1) := by decide +kernel
theorem dE_put_6 : decode (am_by jE_put) 6 = .ok (.iastore, 1) := by decide +kernel
theorem dE_put_7 : decode (am_by jE_put) 7 = .ok (.aload_n 0, 1) := by decide +kernel
theorem dE_put_8 : decode (am_by jE_put) 8 = .ok (.getfield 15, 3) := by decide +kernel
theorem dE_put_11 : decode (am_by jE_put) 11 = .ok (.iload_n 1, 1) := by decide +kernel
theorem dE_put_12 : decode (am_by jE_put) 12 = .ok (.getstatic 57, 3) := by decide +kernel
theorem dE_put_15 : decode (am_by jE_put) 15 = .ok (.iload_n 2, 1) := by decide +kernel
theorem dE_put_16 : decode (am_by jE_put) 16 = .ok (.iaload, 1) := by decide +kernel
theorem dE_put_17 : decode (am_by jE_put) 17 = .ok (.iconst (-1), 1) := by decide +kernel
theorem dE_put_18 : decode (am_by jE_put) 18 = .ok (.if_icmp .ne 7, 3) := by decide +kernel
theorem dE_put_21 : decode (am_by jE_put) 21 = .ok (.iconst 0, 1) := by decide +kernel
theorem dE_put_22 : decode (am_by jE_put) 22 = .ok (.goto 4, 3) := by decide +kernel
theorem dE_put_25 : decode (am_by jE_put) 25 = .ok (.iload_n 3, 1) := by decide +kernel
theorem dE_put_26 : decode (am_by jE_put) 26 = .ok (.iastore, 1) := by decide +kernel
theorem dE_put_27 : decode (am_by jE_put) 27 = .ok (.aload_n 0, 1) := by decide +kernel
theorem dE_put_28 : decode (am_by jE_put) 28 = .ok (.getfield 18, 3) := by decide +kernel
theorem dE_put_31 : decode (am_by jE_put) 31 = .ok (.iload_n 1, 1) := by decide +kernel
theorem dE_put_32 : decode (am_by jE_put) 32 = .ok (.getstatic 60, 3) := by decide +kernel
theorem dE_put_35 : decode (am_by jE_put) 35 = .ok (.iload_n 2, 1) := by decide +kernel
theorem dE_put_36 : decode (am_by jE_put) 36 = .ok (.iaload, 1) := by decide +kernel
theorem dE_put_37 : decode (am_by jE_put) 37 = .ok (.iconst (-1), 1) := by decide +kernel
theorem dE_put_38 : decode (am_by jE_put) 38 = .ok (.if_icmp .ne 7, 3) := by decide +kernel
theorem dE_put_41 : decode (am_by jE_put) 41 = .ok (.iconst 0, 1) := by decide +kernel
theorem dE_put_42 : decode (am_by jE_put) 42 = .ok (.goto 5, 3) := by decide +kernel
theorem dE_put_45 : decode (am_by jE_put) 45 = .ok (.iload 4, 2) := by decide +kernel
theorem dE_put_47 : decode (am_by jE_put) 47 = .ok (.iastore, 1) := by decide +kernel
theorem dE_put_48 : decode (am_by jE_put) 48 = .ok (.return_, 1) := by decide +kernel
theorem dE_addRow_0 : decode (am_by jE_addRow) 0 = .ok (.aload_n 0, 1) := by decide +kernel
theorem dE_addRow_1 : decode (am_by jE_addRow) 1 = .ok (.getfield 37, 3) := by decide +kernel
theorem dE_addRow_4 : decode (am_by jE_addRow) 4 = .ok (.bipush 8, 2) := by decide +kernel
theorem dE_addRow_6 : decode (am_by jE_addRow) 6 = .ok (.if_icmp .lt 5, 3) := by decide +kernel
theorem dE_addRow_9 : decode (am_by jE_addRow) 9 = .ok (.iconst 0, 1) := by decide +kernel
theorem dE_addRow_10 : decode (am_by jE_addRow) 10 = .ok (.ireturn, 1) := by decide +kernel
theorem dE_addRow_11 : decode (am_by jE_addRow) 11 = .ok (.aload_n 0, 1) := by decide +kernel
theorem dE_addRow_12 : decode (am_by jE_addRow) 12 = .ok (.getfield 21, 3) := by decide +kernel
theorem dE_addRow_15 : decode (am_by jE_addRow) 15 = .ok (.aload_n 0, 1) := by decide +kernel
theorem dE_addRow_16 : decode (am_by jE_addRow) 16 = .ok (.getfield 37, 3) := by decide +kernel
theorem dE_addRow_19 : decode (am_by jE_addRow) 19 = .ok (.iload_n 1, 1) := by decide +kernel
theorem dE_addRow_20 : decode (am_by jE_addRow) 20 = .ok (.iastore, 1) := by decide +kernel
theorem dE_addRow_21 : decode (am_by jE_addRow) 21 = .ok (.aload_n 0, 1) := by decide +kernel
theorem dE_addRow_22 : decode (am_by jE_addRow) 22 = .ok (.getfield 24, 3) := by decide +kernel
theorem dE_addRow_25 : decode (am_by jE_addRow) 25 = .ok (.aload_n 0, 1) := by decide +kernel
theorem dE_addRow_26 : decode (am_by jE_addRow) 26 = .ok (.getfield 37, 3) := by decide +kernel
theorem dE_addRow_29 : decode (am_by jE_addRow) 29 = .ok (.iload_n 2, 1) := by decide +kernel
theorem dE_addRow_30 : decode (am_by jE_addRow) 30 = .ok (.iastore, 1) := by decide +kernel
theorem dE_addRow_31 : decode (am_by jE_addRow) 31 = .ok (.aload_n 0, 1) := by decide +kernel
theorem dE_addRow_32 : decode (am_by jE_addRow) 32 = .ok (.getfield 27, 3) := by decide +kernel
theorem dE_addRow_35 : decode (am_by jE_addRow) 35 = .ok (.aload_n 0, 1) := by decide +kernel
theorem dE_addRow_36 : decode (am_by jE_addRow) 36 = .ok (.getfield 37, 3) := by decide +kernel
theorem dE_addRow_39 : decode (am_by jE_addRow) 39 = .ok (.iload_n 3, 1) := by decide +kernel
theorem dE_addRow_40 : decode (am_by jE_addRow) 40 = .ok (.iastore, 1) := by decide +kernel
theorem dE_addRow_41 : decode (am_by jE_addRow) 41 = .ok (.aload_n 0, 1) := by decide +kernel
theorem dE_addRow_42 : decode (am_by jE_addRow) 42 = .ok (.getfield 30, 3) := by decide +kernel
theorem dE_addRow_45 : decode (am_by jE_addRow) 45 = .ok (.aload_n 0, 1) := by decide +kernel
theorem dE_addRow_46 : decode (am_by jE_addRow) 46 = .ok (.getfield 37, 3) := by decide +kernel
theorem dE_addRow_49 : decode (am_by jE_addRow) 49 = .ok (.iload 4, 2) := by decide +kernel
theorem dE_addRow_51 : decode (am_by jE_addRow) 51 = .ok (.iastore, 1) := by decide +kernel
theorem dE_addRow_52 : decode (am_by jE_addRow) 52 = .ok (.aload_n 0, 1) := by decide +kernel
theorem dE_addRow_53 : decode (am_by jE_addRow) 53 = .ok (.dup, 1) := by decide +kernel
theorem dE_addRow_54 : decode (am_by jE_addRow) 54 = .ok (.getfield 37, 3) := by decide +kernel
theorem dE_addRow_57 : decode (am_by jE_addRow) 57 = .ok (.iconst 1, 1) := by decide +kernel
theorem dE_addRow_58 : decode (am_by jE_addRow) 58 = .ok (.iadd, 1) := by decide +kernel
theorem dE_addRow_59 : decode (am_by jE_addRow) 59 = .ok (.putfield 37, 3) := by decide +kernel
theorem dE_addRow_62 : decode (am_by jE_addRow) 62 = .ok (.iconst 1, 1) := by decide +kernel
theorem dE_addRow_63 : decode (am_by jE_addRow) 63 = .ok (.ireturn, 1) := by decide +kernel
theorem dE_hasAt_0 : decode (am_by jE_hasAt) 0 = .ok (.iload_n 1, 1) := by decide +kernel
theorem dE_hasAt_1 : decode (am_by jE_hasAt) 1 = .ok (.aload_n 0, 1) := by decide +kernel
theorem dE_hasAt_2 : decode (am_by jE_hasAt) 2 = .ok (.getfield 33, 3) := by decide +kernel
theorem dE_hasAt_5 : decode (am_by jE_hasAt) 5 = .ok (.invokestatic 63, 3) := by decide +kernel
theorem dE_hasAt_8 : decode (am_by jE_hasAt) 8 = .ok (.ifCond .eq 17, 3) := by decide +kernel
theorem dE_hasAt_11 : decode (am_by jE_hasAt) 11 = .ok (.aload_n 0, 1) := by decide +kernel
theorem dE_hasAt_12 : decode (am_by jE_hasAt) 12 = .ok (.getfield 9, 3) := by decide +kernel
theorem dE_hasAt_15 : decode (am_by jE_hasAt) 15 = .ok (.iload_n 1, 1) := by decide +kernel
theorem dE_hasAt_16 : decode (am_by jE_hasAt) 16 = .ok (.iaload, 1) := by decide +kernel
theorem dE_hasAt_17 : decode (am_by jE_hasAt) 17 = .ok (.iload_n 2, 1) := by decide +kernel
theorem dE_hasAt_18 : decode (am_by jE_hasAt) 18 = .ok (.if_icmp .ne 7, 3) := by decide +kernel
theorem dE_hasAt_21 : decode (am_by jE_hasAt) 21 = .ok (.iconst 1, 1) := by decide +kernel
theorem dE_hasAt_22 : decode (am_by jE_hasAt) 22 = .ok (.goto 4, 3) := by decide +kernel
theorem dE_hasAt_25 : decode (am_by jE_hasAt) 25 = .ok (.iconst 0, 1) := by decide +kernel
theorem dE_hasAt_26 : decode (am_by jE_hasAt) 26 = .ok (.ireturn, 1) := by decide +kernel
theorem dE_rowCovers_0 : decode (am_by jE_rowCovers) 0 = .ok (.aload_n 0, 1) := by decide +kernel
theorem dE_rowCovers_1 : decode (am_by jE_rowCovers) 1 = .ok (.getfield 21, 3) := by decide +kernel
theorem dE_rowCovers_4 : decode (am_by jE_rowCovers) 4 = .ok (.iload_n 1, 1) := by decide +kernel
theorem dE_rowCovers_5 : decode (am_by jE_rowCovers) 5 = .ok (.iaload, 1) := by decide +kernel
theorem dE_rowCovers_6 : decode (am_by jE_rowCovers) 6 = .ok (.iload_n 2, 1) := by decide +kernel
theorem dE_rowCovers_7 : decode (am_by jE_rowCovers) 7 = .ok (.if_icmp .gt 17, 3) := by decide +kernel
theorem dE_rowCovers_10 : decode (am_by jE_rowCovers) 10 = .ok (.aload_n 0, 1) := by decide +kernel
theorem dE_rowCovers_11 : decode (am_by jE_rowCovers) 11 = .ok (.getfield 24, 3) := by decide +kernel
theorem dE_rowCovers_14 : decode (am_by jE_rowCovers) 14 = .ok (.iload_n 1, 1) := by decide +kernel
theorem dE_rowCovers_15 : decode (am_by jE_rowCovers) 15 = .ok (.iaload, 1) := by decide +kernel
theorem dE_rowCovers_16 : decode (am_by jE_rowCovers) 16 = .ok (.iload_n 2, 1) := by decide +kernel
theorem dE_rowCovers_17 : decode (am_by jE_rowCovers) 17 = .ok (.if_icmp .le 7, 3) := by decide +kernel
theorem dE_rowCovers_20 : decode (am_by jE_rowCovers) 20 = .ok (.iconst 1, 1) := by decide +kernel
theorem dE_rowCovers_21 : decode (am_by jE_rowCovers) 21 = .ok (.goto 4, 3) := by decide +kernel
theorem dE_rowCovers_24 : decode (am_by jE_rowCovers) 24 = .ok (.iconst 0, 1) := by decide +kernel
theorem dE_rowCovers_25 : decode (am_by jE_rowCovers) 25 = .ok (.ireturn, 1) := by decide +kernel
theorem dE_rowFor_0 : decode (am_by jE_rowFor) 0 = .ok (.iconst 0, 1) := by decide +kernel
theorem dE_rowFor_1 : decode (am_by jE_rowFor) 1 = .ok (.istore_n 3, 1) := by decide +kernel
theorem dE_rowFor_2 : decode (am_by jE_rowFor) 2 = .ok (.iload_n 3, 1) := by decide +kernel
theorem dE_rowFor_3 : decode (am_by jE_rowFor) 3 = .ok (.aload_n 0, 1) := by decide +kernel
theorem dE_rowFor_4 : decode (am_by jE_rowFor) 4 = .ok (.getfield 37, 3) := by decide +kernel
theorem dE_rowFor_7 : decode (am_by jE_rowFor) 7 = .ok (.if_icmp .ge 37, 3) := by decide +kernel
theorem dE_rowFor_10 : decode (am_by jE_rowFor) 10 = .ok (.aload_n 0, 1) := by decide +kernel
theorem dE_rowFor_11 : decode (am_by jE_rowFor) 11 = .ok (.iload_n 3, 1) := by decide +kernel
theorem dE_rowFor_12 : decode (am_by jE_rowFor) 12 = .ok (.iload_n 1, 1) := by decide +kernel
theorem dE_rowFor_13 : decode (am_by jE_rowFor) 13 = .ok (.invokevirtual 67, 3) := by decide +kernel
theorem dE_rowFor_16 : decode (am_by jE_rowFor) 16 = .ok (.ifCond .eq 22, 3) := by decide +kernel
theorem dE_rowFor_19 : decode (am_by jE_rowFor) 19 = .ok (.getstatic 70, 3) := by decide +kernel
theorem dE_rowFor_22 : decode (am_by jE_rowFor) 22 = .ok (.iload_n 2, 1) := by decide +kernel
theorem dE_rowFor_23 : decode (am_by jE_rowFor) 23 = .ok (.iaload, 1) := by decide +kernel
theorem dE_rowFor_24 : decode (am_by jE_rowFor) 24 = .ok (.aload_n 0, 1) := by decide +kernel
theorem dE_rowFor_25 : decode (am_by jE_rowFor) 25 = .ok (.getfield 30, 3) := by decide +kernel
theorem dE_rowFor_28 : decode (am_by jE_rowFor) 28 = .ok (.iload_n 3, 1) := by decide +kernel
theorem dE_rowFor_29 : decode (am_by jE_rowFor) 29 = .ok (.iaload, 1) := by decide +kernel
theorem dE_rowFor_30 : decode (am_by jE_rowFor) 30 = .ok (.invokestatic 73, 3) := by decide +kernel
theorem dE_rowFor_33 : decode (am_by jE_rowFor) 33 = .ok (.ifCond .eq 5, 3) := by decide +kernel
theorem dE_rowFor_36 : decode (am_by jE_rowFor) 36 = .ok (.iload_n 3, 1) := by decide +kernel
theorem dE_rowFor_37 : decode (am_by jE_rowFor) 37 = .ok (.ireturn, 1) := by decide +kernel
theorem dE_rowFor_38 : decode (am_by jE_rowFor) 38 = .ok (.iinc 3 1, 3) := by decide +kernel
theorem dE_rowFor_41 : decode (am_by jE_rowFor) 41 = .ok (.goto (-39), 3) := by decide +kernel
theorem dE_rowFor_44 : decode (am_by jE_rowFor) 44 = .ok (.bipush (-2), 2) := by decide +kernel
theorem dE_rowFor_46 : decode (am_by jE_rowFor) 46 = .ok (.ireturn, 1) := by decide +kernel
theorem dE_rowPart_0 : decode (am_by jE_rowPart) 0 = .ok (.iload_n 2, 1) := by decide +kernel
theorem dE_rowPart_1 : decode (am_by jE_rowPart) 1 = .ok (.tableswitch 48 0 2 #[27, 34, 41], 27) := by decide +kernel
theorem dE_rowPart_28 : decode (am_by jE_rowPart) 28 = .ok (.aload_n 0, 1) := by decide +kernel
theorem dE_rowPart_29 : decode (am_by jE_rowPart) 29 = .ok (.getfield 21, 3) := by decide +kernel
theorem dE_rowPart_32 : decode (am_by jE_rowPart) 32 = .ok (.iload_n 1, 1) := by decide +kernel
theorem dE_rowPart_33 : decode (am_by jE_rowPart) 33 = .ok (.iaload, 1) := by decide +kernel
theorem dE_rowPart_34 : decode (am_by jE_rowPart) 34 = .ok (.ireturn, 1) := by decide +kernel
theorem dE_rowPart_35 : decode (am_by jE_rowPart) 35 = .ok (.aload_n 0, 1) := by decide +kernel
theorem dE_rowPart_36 : decode (am_by jE_rowPart) 36 = .ok (.getfield 24, 3) := by decide +kernel
theorem dE_rowPart_39 : decode (am_by jE_rowPart) 39 = .ok (.iload_n 1, 1) := by decide +kernel
theorem dE_rowPart_40 : decode (am_by jE_rowPart) 40 = .ok (.iaload, 1) := by decide +kernel
theorem dE_rowPart_41 : decode (am_by jE_rowPart) 41 = .ok (.ireturn, 1) := by decide +kernel
theorem dE_rowPart_42 : decode (am_by jE_rowPart) 42 = .ok (.aload_n 0, 1) := by decide +kernel
theorem dE_rowPart_43 : decode (am_by jE_rowPart) 43 = .ok (.getfield 27, 3) := by decide +kernel
theorem dE_rowPart_46 : decode (am_by jE_rowPart) 46 = .ok (.iload_n 1, 1) := by decide +kernel
theorem dE_rowPart_47 : decode (am_by jE_rowPart) 47 = .ok (.iaload, 1) := by decide +kernel
theorem dE_rowPart_48 : decode (am_by jE_rowPart) 48 = .ok (.ireturn, 1) := by decide +kernel
theorem dE_rowPart_49 : decode (am_by jE_rowPart) 49 = .ok (.aload_n 0, 1) := by decide +kernel
theorem dE_rowPart_50 : decode (am_by jE_rowPart) 50 = .ok (.getfield 30, 3) := by decide +kernel
theorem dE_rowPart_53 : decode (am_by jE_rowPart) 53 = .ok (.iload_n 1, 1) := by decide +kernel
theorem dE_rowPart_54 : decode (am_by jE_rowPart) 54 = .ok (.iaload, 1) := by decide +kernel
theorem dE_rowPart_55 : decode (am_by jE_rowPart) 55 = .ok (.ireturn, 1) := by decide +kernel
theorem dE_fact_0 : decode (am_by jE_fact) 0 = .ok (.iload_n 1, 1) := by decide +kernel
theorem dE_fact_1 : decode (am_by jE_fact) 1 = .ok (.tableswitch 42 0 2 #[27, 32, 37], 27) := by decide +kernel
theorem dE_fact_28 : decode (am_by jE_fact) 28 = .ok (.aload_n 0, 1) := by decide +kernel
theorem dE_fact_29 : decode (am_by jE_fact) 29 = .ok (.getfield 33, 3) := by decide +kernel
theorem dE_fact_32 : decode (am_by jE_fact) 32 = .ok (.ireturn, 1) := by decide +kernel
theorem dE_fact_33 : decode (am_by jE_fact) 33 = .ok (.aload_n 0, 1) := by decide +kernel
theorem dE_fact_34 : decode (am_by jE_fact) 34 = .ok (.getfield 37, 3) := by decide +kernel
theorem dE_fact_37 : decode (am_by jE_fact) 37 = .ok (.ireturn, 1) := by decide +kernel
theorem dE_fact_38 : decode (am_by jE_fact) 38 = .ok (.aload_n 0, 1) := by decide +kernel
theorem dE_fact_39 : decode (am_by jE_fact) 39 = .ok (.getfield 40, 3) := by decide +kernel
theorem dE_fact_42 : decode (am_by jE_fact) 42 = .ok (.ireturn, 1) := by decide +kernel
theorem dE_fact_43 : decode (am_by jE_fact) 43 = .ok (.aload_n 0, 1) := by decide +kernel
theorem dE_fact_44 : decode (am_by jE_fact) 44 = .ok (.getfield 43, 3) := by decide +kernel
theorem dE_fact_47 : decode (am_by jE_fact) 47 = .ok (.ifCond .eq 7, 3) := by decide +kernel
theorem dE_fact_50 : decode (am_by jE_fact) 50 = .ok (.iconst 1, 1) := by decide +kernel
theorem dE_fact_51 : decode (am_by jE_fact) 51 = .ok (.goto 4, 3) := by decide +kernel
theorem dE_fact_54 : decode (am_by jE_fact) 54 = .ok (.iconst 0, 1) := by decide +kernel
theorem dE_fact_55 : decode (am_by jE_fact) 55 = .ok (.ireturn, 1) := by decide +kernel
theorem dE_calls_0 : decode (am_by jE_calls) 0 = .ok (.iconst 0, 1) := by decide +kernel
theorem dE_calls_1 : decode (am_by jE_calls) 1 = .ok (.istore_n 1, 1) := by decide +kernel
theorem dE_calls_2 : decode (am_by jE_calls) 2 = .ok (.iconst 0, 1) := by decide +kernel
theorem dE_calls_3 : decode (am_by jE_calls) 3 = .ok (.istore_n 2, 1) := by decide +kernel
theorem dE_calls_4 : decode (am_by jE_calls) 4 = .ok (.iload_n 2, 1) := by decide +kernel
theorem dE_calls_5 : decode (am_by jE_calls) 5 = .ok (.aload_n 0, 1) := by decide +kernel
theorem dE_calls_6 : decode (am_by jE_calls) 6 = .ok (.getfield 33, 3) := by decide +kernel
theorem dE_calls_9 : decode (am_by jE_calls) 9 = .ok (.if_icmp .ge 31, 3) := by decide +kernel
theorem dE_calls_12 : decode (am_by jE_calls) 12 = .ok (.aload_n 0, 1) := by decide +kernel
theorem dE_calls_13 : decode (am_by jE_calls) 13 = .ok (.getfield 9, 3) := by decide +kernel
theorem dE_calls_16 : decode (am_by jE_calls) 16 = .ok (.iload_n 2, 1) := by decide +kernel
theorem dE_calls_17 : decode (am_by jE_calls) 17 = .ok (.iaload, 1) := by decide +kernel
theorem dE_calls_18 : decode (am_by jE_calls) 18 = .ok (.bipush 21, 2) := by decide +kernel
theorem dE_calls_20 : decode (am_by jE_calls) 20 = .ok (.if_icmp .ne 14, 3) := by decide +kernel
theorem dE_calls_23 : decode (am_by jE_calls) 23 = .ok (.iload_n 1, 1) := by decide +kernel
theorem dE_calls_24 : decode (am_by jE_calls) 24 = .ok (.iconst 1, 1) := by decide +kernel
theorem dE_calls_25 : decode (am_by jE_calls) 25 = .ok (.aload_n 0, 1) := by decide +kernel
theorem dE_calls_26 : decode (am_by jE_calls) 26 = .ok (.getfield 15, 3) := by decide +kernel
theorem dE_calls_29 : decode (am_by jE_calls) 29 = .ok (.iload_n 2, 1) := by decide +kernel
theorem dE_calls_30 : decode (am_by jE_calls) 30 = .ok (.iaload, 1) := by decide +kernel
theorem dE_calls_31 : decode (am_by jE_calls) 31 = .ok (.ishl, 1) := by decide +kernel
theorem dE_calls_32 : decode (am_by jE_calls) 32 = .ok (.ior, 1) := by decide +kernel
theorem dE_calls_33 : decode (am_by jE_calls) 33 = .ok (.istore_n 1, 1) := by decide +kernel
theorem dE_calls_34 : decode (am_by jE_calls) 34 = .ok (.iinc 2 1, 3) := by decide +kernel
theorem dE_calls_37 : decode (am_by jE_calls) 37 = .ok (.goto (-33), 3) := by decide +kernel
theorem dE_calls_40 : decode (am_by jE_calls) 40 = .ok (.iload_n 1, 1) := by decide +kernel
theorem dE_calls_41 : decode (am_by jE_calls) 41 = .ok (.ireturn, 1) := by decide +kernel
theorem dE_greatestLocal_0 : decode (am_by jE_greatestLocal) 0 = .ok (.aload_n 0, 1) := by decide +kernel
theorem dE_greatestLocal_1 : decode (am_by jE_greatestLocal) 1 = .ok (.getfield 40, 3) := by decide +kernel
theorem dE_greatestLocal_4 : decode (am_by jE_greatestLocal) 4 = .ok (.iconst 1, 1) := by decide +kernel
theorem dE_greatestLocal_5 : decode (am_by jE_greatestLocal) 5 = .ok (.isub, 1) := by decide +kernel
theorem dE_greatestLocal_6 : decode (am_by jE_greatestLocal) 6 = .ok (.istore_n 1, 1) := by decide +kernel
theorem dE_greatestLocal_7 : decode (am_by jE_greatestLocal) 7 = .ok (.iconst 0, 1) := by decide +kernel
theorem dE_greatestLocal_8 : decode (am_by jE_greatestLocal) 8 = .ok (.istore_n 2, 1) := by decide +kernel
theorem dE_greatestLocal_9 : decode (am_by jE_greatestLocal) 9 = .ok (.iload_n 2, 1) := by decide +kernel
theorem dE_greatestLocal_10 : decode (am_by jE_greatestLocal) 10 = .ok (.aload_n 0, 1) := by decide +kernel
theorem dE_greatestLocal_11 : decode (am_by jE_greatestLocal) 11 = .ok (.getfield 33, 3) := by decide +kernel
theorem dE_greatestLocal_14 : decode (am_by jE_greatestLocal) 14 = .ok (.if_icmp .ge 62, 3) := by decide +kernel
theorem dE_greatestLocal_17 : decode (am_by jE_greatestLocal) 17 = .ok (.aload_n 0, 1) := by decide +kernel
theorem dE_greatestLocal_18 : decode (am_by jE_greatestLocal) 18 = .ok (.getfield 9, 3) := by decide +kernel
theorem dE_greatestLocal_21 : decode (am_by jE_greatestLocal) 21 = .ok (.iload_n 2, 1) := by decide +kernel
theorem dE_greatestLocal_22 : decode (am_by jE_greatestLocal) 22 = .ok (.iaload, 1) := by decide +kernel
theorem dE_greatestLocal_23 : decode (am_by jE_greatestLocal) 23 = .ok (.iconst 2, 1) := by decide +kernel
theorem dE_greatestLocal_24 : decode (am_by jE_greatestLocal) 24 = .ok (.if_icmp .eq 35, 3) := by decide +kernel
theorem dE_greatestLocal_27 : decode (am_by jE_greatestLocal) 27 = .ok (.aload_n 0, 1) := by decide +kernel
theorem dE_greatestLocal_28 : decode (am_by jE_greatestLocal) 28 = .ok (.getfield 9, 3) := by decide +kernel
theorem dE_greatestLocal_31 : decode (am_by jE_greatestLocal) 31 = .ok (.iload_n 2, 1) := by decide +kernel
theorem dE_greatestLocal_32 : decode (am_by jE_greatestLocal) 32 = .ok (.iaload, 1) := by decide +kernel
theorem dE_greatestLocal_33 : decode (am_by jE_greatestLocal) 33 = .ok (.iconst 3, 1) := by decide +kernel
theorem dE_greatestLocal_34 : decode (am_by jE_greatestLocal) 34 = .ok (.if_icmp .eq 25, 3) := by decide +kernel
theorem dE_greatestLocal_37 : decode (am_by jE_greatestLocal) 37 = .ok (.aload_n 0, 1) := by decide +kernel
theorem dE_greatestLocal_38 : decode (am_by jE_greatestLocal) 38 = .ok (.getfield 9, 3) := by decide +kernel
theorem dE_greatestLocal_41 : decode (am_by jE_greatestLocal) 41 = .ok (.iload_n 2, 1) := by decide +kernel
theorem dE_greatestLocal_42 : decode (am_by jE_greatestLocal) 42 = .ok (.iaload, 1) := by decide +kernel
theorem dE_greatestLocal_43 : decode (am_by jE_greatestLocal) 43 = .ok (.bipush 24, 2) := by decide +kernel
theorem dE_greatestLocal_45 : decode (am_by jE_greatestLocal) 45 = .ok (.if_icmp .eq 14, 3) := by decide +kernel
theorem dE_greatestLocal_48 : decode (am_by jE_greatestLocal) 48 = .ok (.aload_n 0, 1) := by decide +kernel
theorem dE_greatestLocal_49 : decode (am_by jE_greatestLocal) 49 = .ok (.getfield 9, 3) := by decide +kernel
theorem dE_greatestLocal_52 : decode (am_by jE_greatestLocal) 52 = .ok (.iload_n 2, 1) := by decide +kernel
theorem dE_greatestLocal_53 : decode (am_by jE_greatestLocal) 53 = .ok (.iaload, 1) := by decide +kernel
theorem dE_greatestLocal_54 : decode (am_by jE_greatestLocal) 54 = .ok (.bipush 27, 2) := by decide +kernel
theorem dE_greatestLocal_56 : decode (am_by jE_greatestLocal) 56 = .ok (.if_icmp .ne 14, 3) := by decide +kernel
theorem dE_greatestLocal_59 : decode (am_by jE_greatestLocal) 59 = .ok (.iload_n 1, 1) := by decide +kernel
theorem dE_greatestLocal_60 : decode (am_by jE_greatestLocal) 60 = .ok (.aload_n 0, 1) := by decide +kernel
theorem dE_greatestLocal_61 : decode (am_by jE_greatestLocal) 61 = .ok (.getfield 15, 3) := by decide +kernel
theorem dE_greatestLocal_64 : decode (am_by jE_greatestLocal) 64 = .ok (.iload_n 2, 1) := by decide +kernel
theorem dE_greatestLocal_65 : decode (am_by jE_greatestLocal) 65 = .ok (.iaload, 1) := by decide +kernel
theorem dE_greatestLocal_66 : decode (am_by jE_greatestLocal) 66 = .ok (.invokestatic 76, 3) := by decide +kernel
theorem dE_greatestLocal_69 : decode (am_by jE_greatestLocal) 69 = .ok (.istore_n 1, 1) := by decide +kernel
theorem dE_greatestLocal_70 : decode (am_by jE_greatestLocal) 70 = .ok (.iinc 2 1, 3) := by decide +kernel
theorem dE_greatestLocal_73 : decode (am_by jE_greatestLocal) 73 = .ok (.goto (-64), 3) := by decide +kernel
theorem dE_greatestLocal_76 : decode (am_by jE_greatestLocal) 76 = .ok (.iload_n 1, 1) := by decide +kernel
theorem dE_greatestLocal_77 : decode (am_by jE_greatestLocal) 77 = .ok (.ireturn, 1) := by decide +kernel
theorem dE_hasLocksOrSubroutines_0 : decode (am_by jE_hasLocksOrSubroutines) 0 = .ok (.iconst 0, 1) := by decide +kernel
theorem dE_hasLocksOrSubroutines_1 : decode (am_by jE_hasLocksOrSubroutines) 1 = .ok (.istore_n 1, 1) := by decide +kernel
theorem dE_hasLocksOrSubroutines_2 : decode (am_by jE_hasLocksOrSubroutines) 2 = .ok (.iload_n 1, 1) := by decide +kernel
theorem dE_hasLocksOrSubroutines_3 : decode (am_by jE_hasLocksOrSubroutines) 3 = .ok (.aload_n 0, 1) := by decide +kernel
theorem dE_hasLocksOrSubroutines_4 : decode (am_by jE_hasLocksOrSubroutines) 4 = .ok (.getfield 33, 3) := by decide +kernel
theorem dE_hasLocksOrSubroutines_7 : decode (am_by jE_hasLocksOrSubroutines) 7 = .ok (.if_icmp .ge 55, 3) := by decide +kernel
theorem dE_hasLocksOrSubroutines_10 : decode (am_by jE_hasLocksOrSubroutines) 10 = .ok (.aload_n 0, 1) := by decide +kernel
theorem dE_hasLocksOrSubroutines_11 : decode (am_by jE_hasLocksOrSubroutines) 11 = .ok (.getfield 9, 3) := by decide +kernel
theorem dE_hasLocksOrSubroutines_14 : decode (am_by jE_hasLocksOrSubroutines) 14 = .ok (.iload_n 1, 1) := by decide +kernel
theorem dE_hasLocksOrSubroutines_15 : decode (am_by jE_hasLocksOrSubroutines) 15 = .ok (.iaload, 1) := by decide +kernel
theorem dE_hasLocksOrSubroutines_16 : decode (am_by jE_hasLocksOrSubroutines) 16 = .ok (.bipush 18, 2) := by decide +kernel
theorem dE_hasLocksOrSubroutines_18 : decode (am_by jE_hasLocksOrSubroutines) 18 = .ok (.if_icmp .eq 36, 3) := by decide +kernel
theorem dE_hasLocksOrSubroutines_21 : decode (am_by jE_hasLocksOrSubroutines) 21 = .ok (.aload_n 0, 1) := by decide +kernel
theorem dE_hasLocksOrSubroutines_22 : decode (am_by jE_hasLocksOrSubroutines) 22 = .ok (.getfield 9, 3) := by decide +kernel
theorem dE_hasLocksOrSubroutines_25 : decode (am_by jE_hasLocksOrSubroutines) 25 = .ok (.iload_n 1, 1) := by decide +kernel
theorem dE_hasLocksOrSubroutines_26 : decode (am_by jE_hasLocksOrSubroutines) 26 = .ok (.iaload, 1) := by decide +kernel
theorem dE_hasLocksOrSubroutines_27 : decode (am_by jE_hasLocksOrSubroutines) 27 = .ok (.bipush 19, 2) := by decide +kernel
theorem dE_hasLocksOrSubroutines_29 : decode (am_by jE_hasLocksOrSubroutines) 29 = .ok (.if_icmp .eq 25, 3) := by decide +kernel
theorem dE_hasLocksOrSubroutines_32 : decode (am_by jE_hasLocksOrSubroutines) 32 = .ok (.aload_n 0, 1) := by decide +kernel
theorem dE_hasLocksOrSubroutines_33 : decode (am_by jE_hasLocksOrSubroutines) 33 = .ok (.getfield 9, 3) := by decide +kernel
theorem dE_hasLocksOrSubroutines_36 : decode (am_by jE_hasLocksOrSubroutines) 36 = .ok (.iload_n 1, 1) := by decide +kernel
theorem dE_hasLocksOrSubroutines_37 : decode (am_by jE_hasLocksOrSubroutines) 37 = .ok (.iaload, 1) := by decide +kernel
theorem dE_hasLocksOrSubroutines_38 : decode (am_by jE_hasLocksOrSubroutines) 38 = .ok (.bipush 23, 2) := by decide +kernel
theorem dE_hasLocksOrSubroutines_40 : decode (am_by jE_hasLocksOrSubroutines) 40 = .ok (.if_icmp .eq 14, 3) := by decide +kernel
theorem dE_hasLocksOrSubroutines_43 : decode (am_by jE_hasLocksOrSubroutines) 43 = .ok (.aload_n 0, 1) := by decide +kernel
theorem dE_hasLocksOrSubroutines_44 : decode (am_by jE_hasLocksOrSubroutines) 44 = .ok (.getfield 9, 3) := by decide +kernel
theorem dE_hasLocksOrSubroutines_47 : decode (am_by jE_hasLocksOrSubroutines) 47 = .ok (.iload_n 1, 1) := by decide +kernel
theorem dE_hasLocksOrSubroutines_48 : decode (am_by jE_hasLocksOrSubroutines) 48 = .ok (.iaload, 1) := by decide +kernel
theorem dE_hasLocksOrSubroutines_49 : decode (am_by jE_hasLocksOrSubroutines) 49 = .ok (.bipush 24, 2) := by decide +kernel
theorem dE_hasLocksOrSubroutines_51 : decode (am_by jE_hasLocksOrSubroutines) 51 = .ok (.if_icmp .ne 5, 3) := by decide +kernel
theorem dE_hasLocksOrSubroutines_54 : decode (am_by jE_hasLocksOrSubroutines) 54 = .ok (.iconst 1, 1) := by decide +kernel
theorem dE_hasLocksOrSubroutines_55 : decode (am_by jE_hasLocksOrSubroutines) 55 = .ok (.ireturn, 1) := by decide +kernel
theorem dE_hasLocksOrSubroutines_56 : decode (am_by jE_hasLocksOrSubroutines) 56 = .ok (.iinc 1 1, 3) := by decide +kernel
theorem dE_hasLocksOrSubroutines_59 : decode (am_by jE_hasLocksOrSubroutines) 59 = .ok (.goto (-57), 3) := by decide +kernel
theorem dE_hasLocksOrSubroutines_62 : decode (am_by jE_hasLocksOrSubroutines) 62 = .ok (.iconst 0, 1) := by decide +kernel
theorem dE_hasLocksOrSubroutines_63 : decode (am_by jE_hasLocksOrSubroutines) 63 = .ok (.ireturn, 1) := by decide +kernel
theorem dE_plainEnd_0 : decode (am_by jE_plainEnd) 0 = .ok (.aload_n 0, 1) := by decide +kernel
theorem dE_plainEnd_1 : decode (am_by jE_plainEnd) 1 = .ok (.iload_n 1, 1) := by decide +kernel
theorem dE_plainEnd_2 : decode (am_by jE_plainEnd) 2 = .ok (.iconst 3, 1) := by decide +kernel
theorem dE_plainEnd_3 : decode (am_by jE_plainEnd) 3 = .ok (.invokevirtual 82, 3) := by decide +kernel
theorem dE_plainEnd_6 : decode (am_by jE_plainEnd) 6 = .ok (.ifCond .ne 6, 3) := by decide +kernel
theorem dE_plainEnd_9 : decode (am_by jE_plainEnd) 9 = .ok (.bipush (-2), 2) := by decide +kernel
theorem dE_plainEnd_11 : decode (am_by jE_plainEnd) 11 = .ok (.ireturn, 1) := by decide +kernel
theorem dE_plainEnd_12 : decode (am_by jE_plainEnd) 12 = .ok (.iload_n 1, 1) := by decide +kernel
theorem dE_plainEnd_13 : decode (am_by jE_plainEnd) 13 = .ok (.iconst 1, 1) := by decide +kernel
theorem dE_plainEnd_14 : decode (am_by jE_plainEnd) 14 = .ok (.iadd, 1) := by decide +kernel
theorem dE_plainEnd_15 : decode (am_by jE_plainEnd) 15 = .ok (.istore_n 2, 1) := by decide +kernel
theorem dE_plainEnd_16 : decode (am_by jE_plainEnd) 16 = .ok (.iload_n 2, 1) := by decide +kernel
theorem dE_plainEnd_17 : decode (am_by jE_plainEnd) 17 = .ok (.aload_n 0, 1) := by decide +kernel
theorem dE_plainEnd_18 : decode (am_by jE_plainEnd) 18 = .ok (.getfield 33, 3) := by decide +kernel
theorem dE_plainEnd_21 : decode (am_by jE_plainEnd) 21 = .ok (.if_icmp .ge 20, 3) := by decide +kernel
theorem dE_plainEnd_24 : decode (am_by jE_plainEnd) 24 = .ok (.aload_n 0, 1) := by decide +kernel
theorem dE_plainEnd_25 : decode (am_by jE_plainEnd) 25 = .ok (.getfield 9, 3) := by decide +kernel
theorem dE_plainEnd_28 : decode (am_by jE_plainEnd) 28 = .ok (.iload_n 2, 1) := by decide +kernel
theorem dE_plainEnd_29 : decode (am_by jE_plainEnd) 29 = .ok (.iaload, 1) := by decide +kernel
theorem dE_plainEnd_30 : decode (am_by jE_plainEnd) 30 = .ok (.bipush 24, 2) := by decide +kernel
theorem dE_plainEnd_32 : decode (am_by jE_plainEnd) 32 = .ok (.if_icmp .eq 9, 3) := by decide +kernel
theorem dE_plainEnd_35 : decode (am_by jE_plainEnd) 35 = .ok (.iinc 2 1, 3) := by decide +kernel
theorem dE_plainEnd_38 : decode (am_by jE_plainEnd) 38 = .ok (.goto (-22), 3) := by decide +kernel
theorem dE_plainEnd_41 : decode (am_by jE_plainEnd) 41 = .ok (.iload_n 2, 1) := by decide +kernel
theorem dE_plainEnd_42 : decode (am_by jE_plainEnd) 42 = .ok (.aload_n 0, 1) := by decide +kernel
theorem dE_plainEnd_43 : decode (am_by jE_plainEnd) 43 = .ok (.getfield 33, 3) := by decide +kernel
theorem dE_plainEnd_46 : decode (am_by jE_plainEnd) 46 = .ok (.if_icmp .ge 18, 3) := by decide +kernel
theorem dE_plainEnd_49 : decode (am_by jE_plainEnd) 49 = .ok (.aload_n 0, 1) := by decide +kernel
theorem dE_plainEnd_50 : decode (am_by jE_plainEnd) 50 = .ok (.getfield 15, 3) := by decide +kernel
theorem dE_plainEnd_53 : decode (am_by jE_plainEnd) 53 = .ok (.iload_n 2, 1) := by decide +kernel
theorem dE_plainEnd_54 : decode (am_by jE_plainEnd) 54 = .ok (.iaload, 1) := by decide +kernel
theorem dE_plainEnd_55 : decode (am_by jE_plainEnd) 55 = .ok (.aload_n 0, 1) := by decide +kernel
theorem dE_plainEnd_56 : decode (am_by jE_plainEnd) 56 = .ok (.getfield 15, 3) := by decide +kernel
theorem dE_plainEnd_59 : decode (am_by jE_plainEnd) 59 = .ok (.iload_n 1, 1) := by decide +kernel
theorem dE_plainEnd_60 : decode (am_by jE_plainEnd) 60 = .ok (.iaload, 1) := by decide +kernel
theorem dE_plainEnd_61 : decode (am_by jE_plainEnd) 61 = .ok (.if_icmp .eq 6, 3) := by decide +kernel
theorem dE_plainEnd_64 : decode (am_by jE_plainEnd) 64 = .ok (.bipush (-2), 2) := by decide +kernel
theorem dE_plainEnd_66 : decode (am_by jE_plainEnd) 66 = .ok (.ireturn, 1) := by decide +kernel
theorem dE_plainEnd_67 : decode (am_by jE_plainEnd) 67 = .ok (.iconst 0, 1) := by decide +kernel
theorem dE_plainEnd_68 : decode (am_by jE_plainEnd) 68 = .ok (.istore_n 3, 1) := by decide +kernel
theorem dE_plainEnd_69 : decode (am_by jE_plainEnd) 69 = .ok (.iload_n 3, 1) := by decide +kernel
theorem dE_plainEnd_70 : decode (am_by jE_plainEnd) 70 = .ok (.aload_n 0, 1) := by decide +kernel
theorem dE_plainEnd_71 : decode (am_by jE_plainEnd) 71 = .ok (.getfield 33, 3) := by decide +kernel
theorem dE_plainEnd_74 : decode (am_by jE_plainEnd) 74 = .ok (.if_icmp .ge 57, 3) := by decide +kernel
theorem dE_plainEnd_77 : decode (am_by jE_plainEnd) 77 = .ok (.iload_n 3, 1) := by decide +kernel
theorem dE_plainEnd_78 : decode (am_by jE_plainEnd) 78 = .ok (.iload_n 1, 1) := by decide +kernel
theorem dE_plainEnd_79 : decode (am_by jE_plainEnd) 79 = .ok (.if_icmp .le 12, 3) := by decide +kernel
theorem dE_plainEnd_82 : decode (am_by jE_plainEnd) 82 = .ok (.iload_n 3, 1) := by decide +kernel
theorem dE_plainEnd_83 : decode (am_by jE_plainEnd) 83 = .ok (.iload_n 2, 1) := by decide +kernel
theorem dE_plainEnd_84 : decode (am_by jE_plainEnd) 84 = .ok (.if_icmp .ge 7, 3) := by decide +kernel
theorem dE_plainEnd_87 : decode (am_by jE_plainEnd) 87 = .ok (.iconst 1, 1) := by decide +kernel
theorem dE_plainEnd_88 : decode (am_by jE_plainEnd) 88 = .ok (.goto 4, 3) := by decide +kernel
theorem dE_plainEnd_91 : decode (am_by jE_plainEnd) 91 = .ok (.iconst 0, 1) := by decide +kernel
theorem dE_plainEnd_92 : decode (am_by jE_plainEnd) 92 = .ok (.istore 4, 2) := by decide +kernel
theorem dE_plainEnd_94 : decode (am_by jE_plainEnd) 94 = .ok (.iload 4, 2) := by decide +kernel
theorem dE_plainEnd_96 : decode (am_by jE_plainEnd) 96 = .ok (.ifCond .eq 16, 3) := by decide +kernel
theorem dE_plainEnd_99 : decode (am_by jE_plainEnd) 99 = .ok (.aload_n 0, 1) := by decide +kernel
theorem dE_plainEnd_100 : decode (am_by jE_plainEnd) 100 = .ok (.iload_n 3, 1) := by decide +kernel
theorem dE_plainEnd_101 : decode (am_by jE_plainEnd) 101 = .ok (.iload_n 1, 1) := by decide +kernel
theorem dE_plainEnd_102 : decode (am_by jE_plainEnd) 102 = .ok (.iload_n 2, 1) := by decide +kernel
theorem dE_plainEnd_103 : decode (am_by jE_plainEnd) 103 = .ok (.invokevirtual 85, 3) := by decide +kernel
theorem dE_plainEnd_106 : decode (am_by jE_plainEnd) 106 = .ok (.ifCond .ne 19, 3) := by decide +kernel
theorem dE_plainEnd_109 : decode (am_by jE_plainEnd) 109 = .ok (.goto 13, 3) := by decide +kernel
theorem dE_plainEnd_112 : decode (am_by jE_plainEnd) 112 = .ok (.aload_n 0, 1) := by decide +kernel
theorem dE_plainEnd_113 : decode (am_by jE_plainEnd) 113 = .ok (.iload_n 3, 1) := by decide +kernel
theorem dE_plainEnd_114 : decode (am_by jE_plainEnd) 114 = .ok (.iload_n 1, 1) := by decide +kernel
theorem dE_plainEnd_115 : decode (am_by jE_plainEnd) 115 = .ok (.iload_n 2, 1) := by decide +kernel
theorem dE_plainEnd_116 : decode (am_by jE_plainEnd) 116 = .ok (.invokevirtual 89, 3) := by decide +kernel
theorem dE_plainEnd_119 : decode (am_by jE_plainEnd) 119 = .ok (.ifCond .eq 6, 3) := by decide +kernel
theorem dE_plainEnd_122 : decode (am_by jE_plainEnd) 122 = .ok (.bipush (-2), 2) := by decide +kernel
theorem dE_plainEnd_124 : decode (am_by jE_plainEnd) 124 = .ok (.ireturn, 1) := by decide +kernel
theorem dE_plainEnd_125 : decode (am_by jE_plainEnd) 125 = .ok (.iinc 3 1, 3) := by decide +kernel
theorem dE_plainEnd_128 : decode (am_by jE_plainEnd) 128 = .ok (.goto (-59), 3) := by decide +kernel
theorem dE_plainEnd_131 : decode (am_by jE_plainEnd) 131 = .ok (.iconst 0, 1) := by decide +kernel
theorem dE_plainEnd_132 : decode (am_by jE_plainEnd) 132 = .ok (.istore_n 3, 1) := by decide +kernel
theorem dE_plainEnd_133 : decode (am_by jE_plainEnd) 133 = .ok (.iload_n 3, 1) := by decide +kernel
theorem dE_plainEnd_134 : decode (am_by jE_plainEnd) 134 = .ok (.aload_n 0, 1) := by decide +kernel
theorem dE_plainEnd_135 : decode (am_by jE_plainEnd) 135 = .ok (.getfield 37, 3) := by decide +kernel
theorem dE_plainEnd_138 : decode (am_by jE_plainEnd) 138 = .ok (.if_icmp .ge 32, 3) := by decide +kernel
theorem dE_plainEnd_141 : decode (am_by jE_plainEnd) 141 = .ok (.aload_n 0, 1) := by decide +kernel
theorem dE_plainEnd_142 : decode (am_by jE_plainEnd) 142 = .ok (.getfield 27, 3) := by decide +kernel
theorem dE_plainEnd_145 : decode (am_by jE_plainEnd) 145 = .ok (.iload_n 3, 1) := by decide +kernel
theorem dE_plainEnd_146 : decode (am_by jE_plainEnd) 146 = .ok (.iaload, 1) := by decide +kernel
theorem dE_plainEnd_147 : decode (am_by jE_plainEnd) 147 = .ok (.iload_n 1, 1) := by decide +kernel
theorem dE_plainEnd_148 : decode (am_by jE_plainEnd) 148 = .ok (.if_icmp .lt 16, 3) := by decide +kernel
theorem dE_plainEnd_151 : decode (am_by jE_plainEnd) 151 = .ok (.aload_n 0, 1) := by decide +kernel
theorem dE_plainEnd_152 : decode (am_by jE_plainEnd) 152 = .ok (.getfield 27, 3) := by decide +kernel
theorem dE_plainEnd_155 : decode (am_by jE_plainEnd) 155 = .ok (.iload_n 3, 1) := by decide +kernel
theorem dE_plainEnd_156 : decode (am_by jE_plainEnd) 156 = .ok (.iaload, 1) := by decide +kernel
theorem dE_plainEnd_157 : decode (am_by jE_plainEnd) 157 = .ok (.iload_n 2, 1) := by decide +kernel
theorem dE_plainEnd_158 : decode (am_by jE_plainEnd) 158 = .ok (.if_icmp .gt 6, 3) := by decide +kernel
theorem dE_plainEnd_161 : decode (am_by jE_plainEnd) 161 = .ok (.bipush (-2), 2) := by decide +kernel
theorem dE_plainEnd_163 : decode (am_by jE_plainEnd) 163 = .ok (.ireturn, 1) := by decide +kernel
theorem dE_plainEnd_164 : decode (am_by jE_plainEnd) 164 = .ok (.iinc 3 1, 3) := by decide +kernel
theorem dE_plainEnd_167 : decode (am_by jE_plainEnd) 167 = .ok (.goto (-34), 3) := by decide +kernel
theorem dE_plainEnd_170 : decode (am_by jE_plainEnd) 170 = .ok (.iload_n 2, 1) := by decide +kernel
theorem dE_plainEnd_171 : decode (am_by jE_plainEnd) 171 = .ok (.ireturn, 1) := by decide +kernel
theorem dE_keepsPlain_0 : decode (am_by jE_keepsPlain) 0 = .ok (.aload_n 0, 1) := by decide +kernel
theorem dE_keepsPlain_1 : decode (am_by jE_keepsPlain) 1 = .ok (.getfield 9, 3) := by decide +kernel
theorem dE_keepsPlain_4 : decode (am_by jE_keepsPlain) 4 = .ok (.iload_n 1, 1) := by decide +kernel
theorem dE_keepsPlain_5 : decode (am_by jE_keepsPlain) 5 = .ok (.iaload, 1) := by decide +kernel
theorem dE_keepsPlain_6 : decode (am_by jE_keepsPlain) 6 = .ok (.iconst 2, 1) := by decide +kernel
theorem dE_keepsPlain_7 : decode (am_by jE_keepsPlain) 7 = .ok (.if_icmp .eq 24, 3) := by decide +kernel
theorem dE_keepsPlain_10 : decode (am_by jE_keepsPlain) 10 = .ok (.aload_n 0, 1) := by decide +kernel
theorem dE_keepsPlain_11 : decode (am_by jE_keepsPlain) 11 = .ok (.getfield 9, 3) := by decide +kernel
theorem dE_keepsPlain_14 : decode (am_by jE_keepsPlain) 14 = .ok (.iload_n 1, 1) := by decide +kernel
theorem dE_keepsPlain_15 : decode (am_by jE_keepsPlain) 15 = .ok (.iaload, 1) := by decide +kernel
theorem dE_keepsPlain_16 : decode (am_by jE_keepsPlain) 16 = .ok (.iconst 3, 1) := by decide +kernel
theorem dE_keepsPlain_17 : decode (am_by jE_keepsPlain) 17 = .ok (.if_icmp .eq 14, 3) := by decide +kernel
theorem dE_keepsPlain_20 : decode (am_by jE_keepsPlain) 20 = .ok (.aload_n 0, 1) := by decide +kernel
theorem dE_keepsPlain_21 : decode (am_by jE_keepsPlain) 21 = .ok (.getfield 9, 3) := by decide +kernel
theorem dE_keepsPlain_24 : decode (am_by jE_keepsPlain) 24 = .ok (.iload_n 1, 1) := by decide +kernel
theorem dE_keepsPlain_25 : decode (am_by jE_keepsPlain) 25 = .ok (.iaload, 1) := by decide +kernel
theorem dE_keepsPlain_26 : decode (am_by jE_keepsPlain) 26 = .ok (.bipush 27, 2) := by decide +kernel
theorem dE_keepsPlain_28 : decode (am_by jE_keepsPlain) 28 = .ok (.if_icmp .ne 7, 3) := by decide +kernel
theorem dE_keepsPlain_31 : decode (am_by jE_keepsPlain) 31 = .ok (.iconst 1, 1) := by decide +kernel
theorem dE_keepsPlain_32 : decode (am_by jE_keepsPlain) 32 = .ok (.goto 4, 3) := by decide +kernel
theorem dE_keepsPlain_35 : decode (am_by jE_keepsPlain) 35 = .ok (.iconst 0, 1) := by decide +kernel
theorem dE_keepsPlain_36 : decode (am_by jE_keepsPlain) 36 = .ok (.istore 4, 2) := by decide +kernel
theorem dE_keepsPlain_38 : decode (am_by jE_keepsPlain) 38 = .ok (.aload_n 0, 1) := by decide +kernel
theorem dE_keepsPlain_39 : decode (am_by jE_keepsPlain) 39 = .ok (.getfield 9, 3) := by decide +kernel
theorem dE_keepsPlain_42 : decode (am_by jE_keepsPlain) 42 = .ok (.iload_n 1, 1) := by decide +kernel
theorem dE_keepsPlain_43 : decode (am_by jE_keepsPlain) 43 = .ok (.iaload, 1) := by decide +kernel
theorem dE_keepsPlain_44 : decode (am_by jE_keepsPlain) 44 = .ok (.bipush 23, 2) := by decide +kernel
theorem dE_keepsPlain_46 : decode (am_by jE_keepsPlain) 46 = .ok (.if_icmp .eq 23, 3) := by decide +kernel
theorem dE_keepsPlain_49 : decode (am_by jE_keepsPlain) 49 = .ok (.iload 4, 2) := by decide +kernel
theorem dE_keepsPlain_51 : decode (am_by jE_keepsPlain) 51 = .ok (.ifCond .eq 20, 3) := by decide +kernel
theorem dE_keepsPlain_54 : decode (am_by jE_keepsPlain) 54 = .ok (.aload_n 0, 1) := by decide +kernel
theorem dE_keepsPlain_55 : decode (am_by jE_keepsPlain) 55 = .ok (.getfield 15, 3) := by decide +kernel
theorem dE_keepsPlain_58 : decode (am_by jE_keepsPlain) 58 = .ok (.iload_n 1, 1) := by decide +kernel
theorem dE_keepsPlain_59 : decode (am_by jE_keepsPlain) 59 = .ok (.iaload, 1) := by decide +kernel
theorem dE_keepsPlain_60 : decode (am_by jE_keepsPlain) 60 = .ok (.aload_n 0, 1) := by decide +kernel
theorem dE_keepsPlain_61 : decode (am_by jE_keepsPlain) 61 = .ok (.getfield 15, 3) := by decide +kernel
theorem dE_keepsPlain_64 : decode (am_by jE_keepsPlain) 64 = .ok (.iload_n 2, 1) := by decide +kernel
theorem dE_keepsPlain_65 : decode (am_by jE_keepsPlain) 65 = .ok (.iaload, 1) := by decide +kernel
theorem dE_keepsPlain_66 : decode (am_by jE_keepsPlain) 66 = .ok (.if_icmp .ne 5, 3) := by decide +kernel
theorem dE_keepsPlain_69 : decode (am_by jE_keepsPlain) 69 = .ok (.iconst 0, 1) := by decide +kernel
theorem dE_keepsPlain_70 : decode (am_by jE_keepsPlain) 70 = .ok (.ireturn, 1) := by decide +kernel
theorem dE_keepsPlain_71 : decode (am_by jE_keepsPlain) 71 = .ok (.aload_n 0, 1) := by decide +kernel
theorem dE_keepsPlain_72 : decode (am_by jE_keepsPlain) 72 = .ok (.getfield 9, 3) := by decide +kernel
theorem dE_keepsPlain_75 : decode (am_by jE_keepsPlain) 75 = .ok (.iload_n 1, 1) := by decide +kernel
theorem dE_keepsPlain_76 : decode (am_by jE_keepsPlain) 76 = .ok (.iaload, 1) := by decide +kernel
theorem dE_keepsPlain_77 : decode (am_by jE_keepsPlain) 77 = .ok (.invokestatic 92, 3) := by decide +kernel
theorem dE_keepsPlain_80 : decode (am_by jE_keepsPlain) 80 = .ok (.ifCond .eq 23, 3) := by decide +kernel
theorem dE_keepsPlain_83 : decode (am_by jE_keepsPlain) 83 = .ok (.aload_n 0, 1) := by decide +kernel
theorem dE_keepsPlain_84 : decode (am_by jE_keepsPlain) 84 = .ok (.getfield 18, 3) := by decide +kernel
theorem dE_keepsPlain_87 : decode (am_by jE_keepsPlain) 87 = .ok (.iload_n 1, 1) := by decide +kernel
theorem dE_keepsPlain_88 : decode (am_by jE_keepsPlain) 88 = .ok (.iaload, 1) := by decide +kernel
theorem dE_keepsPlain_89 : decode (am_by jE_keepsPlain) 89 = .ok (.iload_n 2, 1) := by decide +kernel
theorem dE_keepsPlain_90 : decode (am_by jE_keepsPlain) 90 = .ok (.if_icmp .le 17, 3) := by decide +kernel
theorem dE_keepsPlain_93 : decode (am_by jE_keepsPlain) 93 = .ok (.aload_n 0, 1) := by decide +kernel
theorem dE_keepsPlain_94 : decode (am_by jE_keepsPlain) 94 = .ok (.getfield 18, 3) := by decide +kernel
theorem dE_keepsPlain_97 : decode (am_by jE_keepsPlain) 97 = .ok (.iload_n 1, 1) := by decide +kernel
theorem dE_keepsPlain_98 : decode (am_by jE_keepsPlain) 98 = .ok (.iaload, 1) := by decide +kernel
theorem dE_keepsPlain_99 : decode (am_by jE_keepsPlain) 99 = .ok (.iload_n 3, 1) := by decide +kernel
theorem dE_keepsPlain_100 : decode (am_by jE_keepsPlain) 100 = .ok (.if_icmp .gt 7, 3) := by decide +kernel
theorem dE_keepsPlain_103 : decode (am_by jE_keepsPlain) 103 = .ok (.iconst 1, 1) := by decide +kernel
theorem dE_keepsPlain_104 : decode (am_by jE_keepsPlain) 104 = .ok (.goto 4, 3) := by decide +kernel
theorem dE_keepsPlain_107 : decode (am_by jE_keepsPlain) 107 = .ok (.iconst 0, 1) := by decide +kernel
theorem dE_keepsPlain_108 : decode (am_by jE_keepsPlain) 108 = .ok (.ireturn, 1) := by decide +kernel
theorem dE_leadsInto_0 : decode (am_by jE_leadsInto) 0 = .ok (.aload_n 0, 1) := by decide +kernel
theorem dE_leadsInto_1 : decode (am_by jE_leadsInto) 1 = .ok (.getfield 9, 3) := by decide +kernel
theorem dE_leadsInto_4 : decode (am_by jE_leadsInto) 4 = .ok (.iload_n 1, 1) := by decide +kernel
theorem dE_leadsInto_5 : decode (am_by jE_leadsInto) 5 = .ok (.iaload, 1) := by decide +kernel
theorem dE_leadsInto_6 : decode (am_by jE_leadsInto) 6 = .ok (.invokestatic 92, 3) := by decide +kernel
theorem dE_leadsInto_9 : decode (am_by jE_leadsInto) 9 = .ok (.ifCond .eq 27, 3) := by decide +kernel
theorem dE_leadsInto_12 : decode (am_by jE_leadsInto) 12 = .ok (.aload_n 0, 1) := by decide +kernel
theorem dE_leadsInto_13 : decode (am_by jE_leadsInto) 13 = .ok (.getfield 18, 3) := by decide +kernel
theorem dE_leadsInto_16 : decode (am_by jE_leadsInto) 16 = .ok (.iload_n 1, 1) := by decide +kernel
theorem dE_leadsInto_17 : decode (am_by jE_leadsInto) 17 = .ok (.iaload, 1) := by decide +kernel
theorem dE_leadsInto_18 : decode (am_by jE_leadsInto) 18 = .ok (.iload_n 2, 1) := by decide +kernel
theorem dE_leadsInto_19 : decode (am_by jE_leadsInto) 19 = .ok (.if_icmp .lt 17, 3) := by decide +kernel
theorem dE_leadsInto_22 : decode (am_by jE_leadsInto) 22 = .ok (.aload_n 0, 1) := by decide +kernel
theorem dE_leadsInto_23 : decode (am_by jE_leadsInto) 23 = .ok (.getfield 18, 3) := by decide +kernel
theorem dE_leadsInto_26 : decode (am_by jE_leadsInto) 26 = .ok (.iload_n 1, 1) := by decide +kernel
theorem dE_leadsInto_27 : decode (am_by jE_leadsInto) 27 = .ok (.iaload, 1) := by decide +kernel
theorem dE_leadsInto_28 : decode (am_by jE_leadsInto) 28 = .ok (.iload_n 3, 1) := by decide +kernel
theorem dE_leadsInto_29 : decode (am_by jE_leadsInto) 29 = .ok (.if_icmp .gt 7, 3) := by decide +kernel
theorem dE_leadsInto_32 : decode (am_by jE_leadsInto) 32 = .ok (.iconst 1, 1) := by decide +kernel
theorem dE_leadsInto_33 : decode (am_by jE_leadsInto) 33 = .ok (.goto 4, 3) := by decide +kernel
theorem dE_leadsInto_36 : decode (am_by jE_leadsInto) 36 = .ok (.iconst 0, 1) := by decide +kernel
theorem dE_leadsInto_37 : decode (am_by jE_leadsInto) 37 = .ok (.ireturn, 1) := by decide +kernel
